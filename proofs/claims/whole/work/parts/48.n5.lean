theorem upd_upd {f : Nat → Int32} {j : Nat} {a b : Int32} : upd (upd f j a) j b = upd f j b := by
  funext i
  by_cases h : i = j
  · subst h; rw [upd_eq, upd_eq]
  · rw [upd_ne h, upd_ne h, upd_ne h]
theorem upd_id {f : Nat → Int32} {j : Nat} {a : Int32} (h : f j = a) : upd f j a = f := by
  funext i
  by_cases e : i = j
  · subst e; rw [upd_eq, h]
  · rw [upd_ne e]
theorem stO_stO {N : Nat} {c d e : Nat → Nat} {o : Nat} : stO N (stO N c o d) o e = stO N c o e := by
  funext q
  unfold stO
  split <;> rfl
theorem insR_cong {v : Nat} : ∀ (k : Nat) (F G : Nat → Nat), k < 256 → (∀ q, q < 256 → F q = G q) → ∀ q, q < 256 → insR v k F q = insR v k G q := by
  intro k
  induction k with
  | zero => intro F G _ h q hq; exact va_up_cong h q hq
  | succ k ih =>
    intro F G hk h q hq
    by_cases hv : v < F k
    · rw [insR_t hv, insR_t (by rw [← h k (by omega)]; exact hv)]
      exact ih _ _ (by omega) (by rw [h k (by omega)]; exact va_up_cong h) q hq
    · rw [insR_f hv, insR_f (by rw [← h k (by omega)]; exact hv)]
      exact va_up_cong h q hq
/-- inserted one by one, as the reference does -/
def itE (R : Nat → Nat) (n : Nat) (e : Nat → Nat) : Nat → Nat → Nat
  | 0 => R
  | k + 1 => insR (e k) (n + k) (itE R n e k)
theorem stO_it0 (pa : Nat → Nat) (o n : Nat) (e : Nat → Nat) : stO 256 pa o (itE (vw pa o) n e 0) = pa := stO_self 256 pa o
theorem stO_its {pa : Nat → Nat} {o n k : Nat} {e R : Nat → Nat} (hk : n + k < 256) : stO 256 (stO 256 pa o (itE R n e k)) o (insR (e k) (n + k) (vw (stO 256 pa o (itE R n e k)) o)) = stO 256 pa o (itE R n e (k + 1)) := by
  rw [stO_stO]
  exact stO_cong (insR_cong (n + k) _ _ hk (fun q hq => vw_stO hq))
theorem itE_spec {B n n2 : Nat} {f g R : Nat → Nat} (hB : B ≤ 20) (hf : srt f n) (hR : ∀ i, i < n → R i = enc B (f i)) : ∀ k, ∀ i, i < n + k → itE R n (fun q => enc B (g q)) k i = enc B (itI f n g k i) := by
  intro k
  induction k with
  | zero => exact hR
  | succ k ih =>
    intro i hi
    exact ins_enc hB (itI_spec hf k).1 ih i (by omega)
theorem itE_lt {n : Nat} {R e : Nat → Nat} (hR : ∀ q, q < 256 → R q < 2 ^ 28) : ∀ k, n + k ≤ 256 → (∀ i, i < k → e i < 2 ^ 28) → ∀ q, q < 256 → itE R n e k q < 2 ^ 28 := by
  have key : ∀ (v m : Nat) (F : Nat → Nat), v < 2 ^ 28 → m < 256 → (∀ q, q < 256 → F q < 2 ^ 28) → ∀ q, q < 256 → insR v m F q < 2 ^ 28 := by
    intro v m
    induction m with
    | zero => intro F hv _ hF q hq; exact up_lt hF hv q hq
    | succ m ih =>
      intro F hv hm hF q hq
      by_cases h : v < F m
      · rw [insR_t h]; exact ih _ hv (by omega) (up_lt hF (hF m (by omega))) q hq
      · rw [insR_f h]; exact up_lt hF hv q hq
  intro k
  induction k with
  | zero => intro _ _; exact hR
  | succ k ih =>
    intro hk he
    exact key _ _ _ (he k (by omega)) (by omega) (ih (by omega) (fun i hi => he i (by omega)))
theorem okS.AB {kd A B n : Nat} {hd pv : Int32} {cs f : Nat → Nat} (h : okS (kd, A, B, hd, pv, cs, n, f)) (h0 : kd ≠ 0) : kd ≤ 3 ∧ A ≤ 10 ∧ B ≤ 20 := by
  rcases h with h | ⟨h, h1, h2, h3, h4, -⟩ | ⟨h, h1, h2, h3, h4, -⟩ | ⟨h, h1, h2, h3, h4, -⟩
  · exact absurd h h0
  · omega
  · omega
  · omega
theorem PicM.fg {j kd A B n : Nat} {hd pv : Int32} {cs f ki ka kb : Nat → Nat} {zs pu : Nat → Int32} {ce pa : Nat → Nat} (h : PicM j (kd, A, B, hd, pv, cs, n, f) ki ka kb zs pu ce pa) (h0 : kd ≠ 0) : ki j = kd ∧ ka j = A ∧ kb j = B ∧ zs j = hd := ⟨h.1, (h.2.1 h0).1, (h.2.1 h0).2.1, (h.2.1 h0).2.2⟩
theorem grow_q {B v : Nat} (hB1 : 1 ≤ B) : 2 * (v / 2 ^ B) + v % 2 ^ B / 2 ^ (B - 1) % 2 = v / 2 ^ (B - 1) := by
  obtain ⟨b, rfl⟩ : ∃ b, B = b + 1 := ⟨B - 1, by omega⟩
  rw [Nat.add_sub_cancel]
  have e3 : v % 2 ^ (b + 1) / 2 ^ b = v / 2 ^ b % 2 := by rw [Nat.pow_succ, Nat.mod_mul_right_div_self]
  have e4 : v / 2 ^ (b + 1) = v / 2 ^ b / 2 := by rw [Nat.pow_succ, Nat.div_div_eq_div_mul]
  rw [e3, e4]
  omega
theorem grow_r {B v : Nat} (hB1 : 1 ≤ B) : v % 2 ^ B % 2 ^ (B - 1) = v % 2 ^ (B - 1) := Nat.mod_mod_of_dvd _ (Nat.pow_dvd_pow 2 (by omega))
theorem and1b {v : Nat} (hv : v < 2 ^ 32) : nI v &&& nI 1 = nI (v % 2) := by
  have h := msk_B (B := 1) hv (by decide)
  rwa [show nI (2 ^ 1) - nI 1 = nI 1 by decide] at h
/-- the first i spelt anew -/
def rcd (g e : Nat → Nat) (i : Nat) : Nat → Nat := fun q => if q < i then e q else g q
theorem stO_rc0 (pa : Nat → Nat) (o : Nat) (e : Nat → Nat) : stO 256 pa o (rcd (vw pa o) e 0) = pa := by
  have h : rcd (vw pa o) e 0 = vw pa o := by funext q; unfold rcd; rw [if_neg (by omega)]
  rw [h, stO_self]
theorem rcd_s {g e : Nat → Nat} {i : Nat} : va_up (rcd g e i) i (e i) = rcd g e (i + 1) := by
  funext q
  by_cases h : q = i
  · subst h; rw [va_up_self]; unfold rcd; rw [if_pos (by omega)]
  · rw [va_up_ne _ _ h]
    unfold rcd
    by_cases h1 : q < i
    · rw [if_pos h1, if_pos (by omega)]
    · rw [if_neg h1, if_neg (by omega)]
theorem wth_f {v a b : Int32} (h1 : ¬ v < a) (h2 : v ≤ b) : wth v a b = true := by
  unfold wth
  rw [decide_eq_false h1, decide_eq_false (Int32.not_lt.mpr h2)]
  rfl
theorem wth_t {v a b : Int32} (h : wth v a b = true) : ¬ v < a ∧ v ≤ b := by
  unfold wth at h
  rw [Bool.and_eq_true, Bool.not_eq_true', Bool.not_eq_true'] at h
  exact ⟨of_decide_eq_false h.1, Int32.not_lt.mp (of_decide_eq_false h.2)⟩
theorem mb_1 {a b : Int32} (hm : mbS (nI 1) a b = false) (h1 : ¬ a < nI 3) (h2 : ¬ nI 10 < a) (h3 : ¬ b < nI 1) (h4 : b ≤ nI 6) : False := by
  unfold mbS at hm
  rw [if_pos rfl, wth_f h1 (Int32.not_lt.mp h2), wth_f h3 h4] at hm
  cases hm
theorem mb_2 {a b : Int32} (hm : mbS (nI 2) a b = false) (h1 : ¬ a < nI 1) (h2 : ¬ nI 8 < a) (h3 : ¬ b < nI 4) (h4 : b ≤ nI 16) : False := by
  unfold mbS at hm
  rw [if_neg (by decide), if_pos rfl, wth_f h1 (Int32.not_lt.mp h2), wth_f h3 h4] at hm
  cases hm
theorem mb_3 {a b : Int32} (hm : mbS (nI 3) a b = false) (h1 : ¬ a < nI 2) (h2 : ¬ nI 8 < a) (h3 : ¬ b < nI 4) (h4 : ¬ nI 20 < b) : False := by
  unfold mbS at hm
  rw [if_neg (by decide), if_neg (by decide), if_pos rfl, wth_f h1 (Int32.not_lt.mp h2), wth_f h3 (Int32.not_lt.mp h4)] at hm
  cases hm

theorem pic_pa {j : Nat} {S : FS} {ki ka kb : Nat → Nat} {zs pu : Nat → Int32} {ce pa : Nat → Nat} (h : PicM j S ki ka kb zs pu ce pa) : ∀ q, q < 256 → vw pa (256 * j) q < 2 ^ 28 := by
  obtain ⟨kd, A, B, hd, pv, cs, n, f⟩ := S
  exact h.2.2.2.2.2

set_option maxHeartbeats 4000000 in
set_option maxRecDepth 100000 in
theorem c_M_make_no_1 {l : Launch} {s0 : State} {D : va_G} {cI cF cJ : ClassId} (G : Gx l s0 D cI cF cJ) (hm a1 a2 a3 a4 a5 a6 a7 a8 a9 a10 a11 : Nat) (th : Int32) (S : Nat → FS) (v : Int32) (a b : Int32) {H0 : Heap} {A0 : Nat → Prop} (hM : MP D cI hm a1 a2 a3 a4 a5 a6 a7 a8 a9 a10 a11 th S H0) (hD : va_D A0 (adM hm a1 a2 a3 a4 a5 a6 a7 a8 a9 a10 a11)) (hok : ∀ i, i < 4 → okS (S i)) (hv : isNum v = false) : Mx l s0 y_M_make (.code y_M_make b_M_make 6 none) { frames := 7, cells := 0, slots := 0, locals := 170 } [.ref hm, .int v, .int (nI 1), .int a, .int b] H0 (Aa [hm, a1, a2, a3, a4, a5, a6, a7, a8, a9, a10, a11] H0.size) (Rn (fun H1 => MP D cI hm a1 a2 a3 a4 a5 a6 a7 a8 a9 a10 a11 (nI 1) S H1)) := by
  refine Mx.ofW (own := "FewBitsModel") rfl rfl ?_
  rintro p e s m below meth c ⟨hx, hb, hml, hr, hown, hW, hlk⟩ hnm het hH
  have hK := G.k hW
  have hD0 := hD
  obtain ⟨ki, ka, kb, zs, pu, ce, pa, tr, so, pl, ot, hP, hpic⟩ := hM
  have hD : va_D (Aa [hm, a1, a2, a3, a4, a5, a6, a7, a8, a9, a10, a11] H0.size) [(hm, .inr (4, [.int th, .ref a1, .ref a2, .ref a3, .ref a4, .ref a5, .ref a6, .ref a7, .ref a8, .ref a9, .ref a10, .ref a11])), (a1, aN cI 4 ki), (a2, aN cI 4 ka), (a3, aN cI 4 kb), (a4, aI cI 4 zs), (a5, aI cI 4 pu), (a6, aN cI 4096 ce), (a7, aN cI 1024 pa), (a8, aN cI 1024 tr), (a9, aI cI 256 so), (a10, aN cI 6 pl), (a11, aN cI 6 ot)] := va_D.same2 [hm, a1, a2, a3, a4, a5, a6, a7, a8, a9, a10, a11] (hD.aa (sz := H0.size)) rfl rfl
  have hS : va_S (Aa [hm, a1, a2, a3, a4, a5, a6, a7, a8, a9, a10, a11] H0.size) H0 H0 [] := va_S.rf
  have hl := lv_entry ([.ref hm, .int v, .int (nI 1), .int a, .int b]) (n := 6) (Nat.le_of_ble_eq_true rfl)
  rw [lg_entry_eq]
  generalize (lg_sl ([.ref hm, .int v, .int (nI 1), .int a, .int b]) ++ List.replicate (6 - (lg_sl ([.ref hm, .int v, .int (nI 1), .int a, .int b])).length) Slot.unset).toArray = ls at hl ⊢
  have hl : lv_has ls 6 [(0, .ref hm), (1, .int v), (2, .int (nI 1)), (3, .int a), (4, .int b)] := hl
  refine lv_iload_n hx hb d_M_make_0 rfl (lv_at hl 2 rfl) ?_
  refine lv_iconst (v := (nI 1)) hx hb d_M_make_1 (by decide) ?_
  refine lv_icmp_ne (tgt := 29) hx hb d_M_make_2 (by decide) (fun c_2 => absurd (rfl) c_2) (fun c_2 => ?_)
  refine lv_iload_n hx hb d_M_make_5 rfl (lv_at hl 3 rfl) ?_
  refine lv_iconst (v := (nI 3)) hx hb d_M_make_6 (by decide) ?_
  refine lv_icmp_lt (tgt := 29) hx hb d_M_make_7 (by decide) (fun c_7 => ?_) (fun c_7 => ?_)
  · refine lv_iload_n hx hb d_M_make_29 rfl (lv_at hl 2 rfl) ?_
    refine lv_iconst (v := (nI 2)) hx hb d_M_make_30 (by decide) ?_
    refine lv_icmp_ne (tgt := 58) hx hb d_M_make_31 (by decide) (fun c_31 => ?_) (fun c_31 => absurd c_31 (by decide))
    refine lv_iload_n hx hb d_M_make_58 rfl (lv_at hl 2 rfl) ?_
    refine lv_iconst (v := (nI 3)) hx hb d_M_make_59 (by decide) ?_
    refine lv_icmp_ne (tgt := 91) hx hb d_M_make_60 (by decide) (fun c_60 => ?_) (fun c_60 => absurd c_60 (by decide))
    refine lv_iconst (v := (nI 0)) hx hb d_M_make_91 (by decide) ?_
    refine lv_istore (lv' := [(5, .int (nI 0)), (0, .ref hm), (1, .int v), (2, .int (nI 1)), (3, .int a), (4, .int b)]) hx hb d_M_make_92 hl (by decide) rfl (fun ls hl => ?_)
    refine lv_aload_n hx hb d_M_make_94 rfl (lv_at hl 1 rfl) ?_
    refine lv_iload_n hx hb d_M_make_95 rfl (lv_at hl 2 rfl) ?_
    refine mx_callR (r := .int (bI (isNum v))) (c_M_isNumber G v) hW (iv_M_make_96 G hx hb hown hW [.int v] [.ref hm] rfl) hml hl.1 (by rw [hb]; exact d_M_make_96) (cd_M_isNumber G hW) ⟨Nat.le_of_ble_eq_true rfl, Nat.le_of_ble_eq_true rfl⟩ rfl rfl (Nat.le_of_ble_eq_true rfl) (Nat.le_of_ble_eq_true rfl) (Nat.le_of_ble_eq_true rfl) ?_
    refine tp_i (y := (bI false)) (by rw [hv]) ?_
    refine lv_if_ne (tgt := 106) hx hb d_M_make_99 (by decide) (fun c_99 => absurd (rfl) c_99) (fun c_99 => ?_)
    refine lv_iconst (v := (nI 1)) hx hb d_M_make_102 (by decide) ?_
    refine lv_goto (tgt := 116) hx hb d_M_make_103 (by decide) ?_
    refine va_put (D := D) (ci := 4) (v := .int (nI 1)) (ty := .int) (C := R_M) (T := T_M) (N := 12) hx hb (us_M G hW) (fun _ h => h) t_M to_M nm_M hown hK hP hD hS 0 rfl rfl 0 (by decide) (fl_M_43 G hW) (fun _ h9 => h9) rfl (by decide +kernel) rfl rfl (Nat.le_of_ble_eq_true rfl) d_M_make_116 (fun H locs hP hD hS => ?_)
    have hP : va_P D vcl [(hm, .inr (4, [.int (nI 1), .ref a1, .ref a2, .ref a3, .ref a4, .ref a5, .ref a6, .ref a7, .ref a8, .ref a9, .ref a10, .ref a11])), (a1, aN cI 4 ki), (a2, aN cI 4 ka), (a3, aN cI 4 kb), (a4, aI cI 4 zs), (a5, aI cI 4 pu), (a6, aN cI 4096 ce), (a7, aN cI 1024 pa), (a8, aN cI 1024 tr), (a9, aI cI 256 so), (a10, aN cI 6 pl), (a11, aN cI 6 ot)] H := hP
    have hD : va_D (Aa [hm, a1, a2, a3, a4, a5, a6, a7, a8, a9, a10, a11] H0.size) [(hm, .inr (4, [.int (nI 1), .ref a1, .ref a2, .ref a3, .ref a4, .ref a5, .ref a6, .ref a7, .ref a8, .ref a9, .ref a10, .ref a11])), (a1, aN cI 4 ki), (a2, aN cI 4 ka), (a3, aN cI 4 kb), (a4, aI cI 4 zs), (a5, aI cI 4 pu), (a6, aN cI 4096 ce), (a7, aN cI 1024 pa), (a8, aN cI 1024 tr), (a9, aI cI 256 so), (a10, aN cI 6 pl), (a11, aN cI 6 ot)] := hD
    refine lv_aload_n hx hb d_M_make_119 rfl (lv_at hl 1 rfl) ?_
    refine va_get (D := D) (ci := 4) (v := .int (nI 1)) (C := R_M) (T := T_M) (N := 12) hx hb (us_M G hW) (fun _ h => h) hown hK hP 0 rfl rfl 0 (by decide) (fl_M_43 G hW) (fun _ h9 => h9) rfl d_M_make_120 ?_
    refine lv_if_ne (tgt := 153) hx hb d_M_make_123 (by decide) (fun c_123 => ?_) (fun c_123 => absurd c_123 (by decide))
    exact mx_vret hx hb hr hlk d_M_make_153 (Nat.le_of_ble_eq_true rfl) (Nat.le_of_ble_eq_true rfl) hS.2.2 (⟨rfl, ki, ka, kb, zs, pu, ce, pa, tr, so, pl, ot, hP, hpic⟩)
  · refine lv_iload_n hx hb d_M_make_10 rfl (lv_at hl 3 rfl) ?_
    refine lv_bipush (v := (nI 10)) hx hb d_M_make_11 (by decide) ?_
    refine lv_icmp_gt (tgt := 29) hx hb d_M_make_13 (by decide) (fun c_13 => ?_) (fun c_13 => ?_)
    · refine lv_iload_n hx hb d_M_make_29 rfl (lv_at hl 2 rfl) ?_
      refine lv_iconst (v := (nI 2)) hx hb d_M_make_30 (by decide) ?_
      refine lv_icmp_ne (tgt := 58) hx hb d_M_make_31 (by decide) (fun c_31 => ?_) (fun c_31 => absurd c_31 (by decide))
      refine lv_iload_n hx hb d_M_make_58 rfl (lv_at hl 2 rfl) ?_
      refine lv_iconst (v := (nI 3)) hx hb d_M_make_59 (by decide) ?_
      refine lv_icmp_ne (tgt := 91) hx hb d_M_make_60 (by decide) (fun c_60 => ?_) (fun c_60 => absurd c_60 (by decide))
      refine lv_iconst (v := (nI 0)) hx hb d_M_make_91 (by decide) ?_
      refine lv_istore (lv' := [(5, .int (nI 0)), (0, .ref hm), (1, .int v), (2, .int (nI 1)), (3, .int a), (4, .int b)]) hx hb d_M_make_92 hl (by decide) rfl (fun ls hl => ?_)
      refine lv_aload_n hx hb d_M_make_94 rfl (lv_at hl 1 rfl) ?_
      refine lv_iload_n hx hb d_M_make_95 rfl (lv_at hl 2 rfl) ?_
      refine mx_callR (r := .int (bI (isNum v))) (c_M_isNumber G v) hW (iv_M_make_96 G hx hb hown hW [.int v] [.ref hm] rfl) hml hl.1 (by rw [hb]; exact d_M_make_96) (cd_M_isNumber G hW) ⟨Nat.le_of_ble_eq_true rfl, Nat.le_of_ble_eq_true rfl⟩ rfl rfl (Nat.le_of_ble_eq_true rfl) (Nat.le_of_ble_eq_true rfl) (Nat.le_of_ble_eq_true rfl) ?_
      refine tp_i (y := (bI false)) (by rw [hv]) ?_
      refine lv_if_ne (tgt := 106) hx hb d_M_make_99 (by decide) (fun c_99 => absurd (rfl) c_99) (fun c_99 => ?_)
      refine lv_iconst (v := (nI 1)) hx hb d_M_make_102 (by decide) ?_
      refine lv_goto (tgt := 116) hx hb d_M_make_103 (by decide) ?_
      refine va_put (D := D) (ci := 4) (v := .int (nI 1)) (ty := .int) (C := R_M) (T := T_M) (N := 12) hx hb (us_M G hW) (fun _ h => h) t_M to_M nm_M hown hK hP hD hS 0 rfl rfl 0 (by decide) (fl_M_43 G hW) (fun _ h9 => h9) rfl (by decide +kernel) rfl rfl (Nat.le_of_ble_eq_true rfl) d_M_make_116 (fun H locs hP hD hS => ?_)
      have hP : va_P D vcl [(hm, .inr (4, [.int (nI 1), .ref a1, .ref a2, .ref a3, .ref a4, .ref a5, .ref a6, .ref a7, .ref a8, .ref a9, .ref a10, .ref a11])), (a1, aN cI 4 ki), (a2, aN cI 4 ka), (a3, aN cI 4 kb), (a4, aI cI 4 zs), (a5, aI cI 4 pu), (a6, aN cI 4096 ce), (a7, aN cI 1024 pa), (a8, aN cI 1024 tr), (a9, aI cI 256 so), (a10, aN cI 6 pl), (a11, aN cI 6 ot)] H := hP
      have hD : va_D (Aa [hm, a1, a2, a3, a4, a5, a6, a7, a8, a9, a10, a11] H0.size) [(hm, .inr (4, [.int (nI 1), .ref a1, .ref a2, .ref a3, .ref a4, .ref a5, .ref a6, .ref a7, .ref a8, .ref a9, .ref a10, .ref a11])), (a1, aN cI 4 ki), (a2, aN cI 4 ka), (a3, aN cI 4 kb), (a4, aI cI 4 zs), (a5, aI cI 4 pu), (a6, aN cI 4096 ce), (a7, aN cI 1024 pa), (a8, aN cI 1024 tr), (a9, aI cI 256 so), (a10, aN cI 6 pl), (a11, aN cI 6 ot)] := hD
      refine lv_aload_n hx hb d_M_make_119 rfl (lv_at hl 1 rfl) ?_
      refine va_get (D := D) (ci := 4) (v := .int (nI 1)) (C := R_M) (T := T_M) (N := 12) hx hb (us_M G hW) (fun _ h => h) hown hK hP 0 rfl rfl 0 (by decide) (fl_M_43 G hW) (fun _ h9 => h9) rfl d_M_make_120 ?_
      refine lv_if_ne (tgt := 153) hx hb d_M_make_123 (by decide) (fun c_123 => ?_) (fun c_123 => absurd c_123 (by decide))
      exact mx_vret hx hb hr hlk d_M_make_153 (Nat.le_of_ble_eq_true rfl) (Nat.le_of_ble_eq_true rfl) hS.2.2 (⟨rfl, ki, ka, kb, zs, pu, ce, pa, tr, so, pl, ot, hP, hpic⟩)
    · refine lv_iload hx hb d_M_make_16 (lv_at hl 4 rfl) ?_
      refine lv_iconst (v := (nI 1)) hx hb d_M_make_18 (by decide) ?_
      refine lv_icmp_lt (tgt := 29) hx hb d_M_make_19 (by decide) (fun c_19 => ?_) (fun c_19 => ?_)
      · refine lv_iload_n hx hb d_M_make_29 rfl (lv_at hl 2 rfl) ?_
        refine lv_iconst (v := (nI 2)) hx hb d_M_make_30 (by decide) ?_
        refine lv_icmp_ne (tgt := 58) hx hb d_M_make_31 (by decide) (fun c_31 => ?_) (fun c_31 => absurd c_31 (by decide))
        refine lv_iload_n hx hb d_M_make_58 rfl (lv_at hl 2 rfl) ?_
        refine lv_iconst (v := (nI 3)) hx hb d_M_make_59 (by decide) ?_
        refine lv_icmp_ne (tgt := 91) hx hb d_M_make_60 (by decide) (fun c_60 => ?_) (fun c_60 => absurd c_60 (by decide))
        refine lv_iconst (v := (nI 0)) hx hb d_M_make_91 (by decide) ?_
        refine lv_istore (lv' := [(5, .int (nI 0)), (0, .ref hm), (1, .int v), (2, .int (nI 1)), (3, .int a), (4, .int b)]) hx hb d_M_make_92 hl (by decide) rfl (fun ls hl => ?_)
        refine lv_aload_n hx hb d_M_make_94 rfl (lv_at hl 1 rfl) ?_
        refine lv_iload_n hx hb d_M_make_95 rfl (lv_at hl 2 rfl) ?_
        refine mx_callR (r := .int (bI (isNum v))) (c_M_isNumber G v) hW (iv_M_make_96 G hx hb hown hW [.int v] [.ref hm] rfl) hml hl.1 (by rw [hb]; exact d_M_make_96) (cd_M_isNumber G hW) ⟨Nat.le_of_ble_eq_true rfl, Nat.le_of_ble_eq_true rfl⟩ rfl rfl (Nat.le_of_ble_eq_true rfl) (Nat.le_of_ble_eq_true rfl) (Nat.le_of_ble_eq_true rfl) ?_
        refine tp_i (y := (bI false)) (by rw [hv]) ?_
        refine lv_if_ne (tgt := 106) hx hb d_M_make_99 (by decide) (fun c_99 => absurd (rfl) c_99) (fun c_99 => ?_)
        refine lv_iconst (v := (nI 1)) hx hb d_M_make_102 (by decide) ?_
        refine lv_goto (tgt := 116) hx hb d_M_make_103 (by decide) ?_
        refine va_put (D := D) (ci := 4) (v := .int (nI 1)) (ty := .int) (C := R_M) (T := T_M) (N := 12) hx hb (us_M G hW) (fun _ h => h) t_M to_M nm_M hown hK hP hD hS 0 rfl rfl 0 (by decide) (fl_M_43 G hW) (fun _ h9 => h9) rfl (by decide +kernel) rfl rfl (Nat.le_of_ble_eq_true rfl) d_M_make_116 (fun H locs hP hD hS => ?_)
        have hP : va_P D vcl [(hm, .inr (4, [.int (nI 1), .ref a1, .ref a2, .ref a3, .ref a4, .ref a5, .ref a6, .ref a7, .ref a8, .ref a9, .ref a10, .ref a11])), (a1, aN cI 4 ki), (a2, aN cI 4 ka), (a3, aN cI 4 kb), (a4, aI cI 4 zs), (a5, aI cI 4 pu), (a6, aN cI 4096 ce), (a7, aN cI 1024 pa), (a8, aN cI 1024 tr), (a9, aI cI 256 so), (a10, aN cI 6 pl), (a11, aN cI 6 ot)] H := hP
        have hD : va_D (Aa [hm, a1, a2, a3, a4, a5, a6, a7, a8, a9, a10, a11] H0.size) [(hm, .inr (4, [.int (nI 1), .ref a1, .ref a2, .ref a3, .ref a4, .ref a5, .ref a6, .ref a7, .ref a8, .ref a9, .ref a10, .ref a11])), (a1, aN cI 4 ki), (a2, aN cI 4 ka), (a3, aN cI 4 kb), (a4, aI cI 4 zs), (a5, aI cI 4 pu), (a6, aN cI 4096 ce), (a7, aN cI 1024 pa), (a8, aN cI 1024 tr), (a9, aI cI 256 so), (a10, aN cI 6 pl), (a11, aN cI 6 ot)] := hD
        refine lv_aload_n hx hb d_M_make_119 rfl (lv_at hl 1 rfl) ?_
        refine va_get (D := D) (ci := 4) (v := .int (nI 1)) (C := R_M) (T := T_M) (N := 12) hx hb (us_M G hW) (fun _ h => h) hown hK hP 0 rfl rfl 0 (by decide) (fl_M_43 G hW) (fun _ h9 => h9) rfl d_M_make_120 ?_
        refine lv_if_ne (tgt := 153) hx hb d_M_make_123 (by decide) (fun c_123 => ?_) (fun c_123 => absurd c_123 (by decide))
        exact mx_vret hx hb hr hlk d_M_make_153 (Nat.le_of_ble_eq_true rfl) (Nat.le_of_ble_eq_true rfl) hS.2.2 (⟨rfl, ki, ka, kb, zs, pu, ce, pa, tr, so, pl, ot, hP, hpic⟩)
      · refine lv_iload hx hb d_M_make_22 (lv_at hl 4 rfl) ?_
        refine lv_bipush (v := (nI 6)) hx hb d_M_make_24 (by decide) ?_
        refine lv_icmp_le (tgt := 87) hx hb d_M_make_26 (by decide) (fun c_26 => ?_) (fun c_26 => ?_)
        · refine lv_iconst (v := (nI 1)) hx hb d_M_make_87 (by decide) ?_
          refine lv_goto (tgt := 92) hx hb d_M_make_88 (by decide) ?_
          refine lv_istore (lv' := [(5, .int (nI 1)), (0, .ref hm), (1, .int v), (2, .int (nI 1)), (3, .int a), (4, .int b)]) hx hb d_M_make_92 hl (by decide) rfl (fun ls hl => ?_)
          refine lv_aload_n hx hb d_M_make_94 rfl (lv_at hl 1 rfl) ?_
          refine lv_iload_n hx hb d_M_make_95 rfl (lv_at hl 2 rfl) ?_
          refine mx_callR (r := .int (bI (isNum v))) (c_M_isNumber G v) hW (iv_M_make_96 G hx hb hown hW [.int v] [.ref hm] rfl) hml hl.1 (by rw [hb]; exact d_M_make_96) (cd_M_isNumber G hW) ⟨Nat.le_of_ble_eq_true rfl, Nat.le_of_ble_eq_true rfl⟩ rfl rfl (Nat.le_of_ble_eq_true rfl) (Nat.le_of_ble_eq_true rfl) (Nat.le_of_ble_eq_true rfl) ?_
          refine tp_i (y := (bI false)) (by rw [hv]) ?_
          refine lv_if_ne (tgt := 106) hx hb d_M_make_99 (by decide) (fun c_99 => absurd (rfl) c_99) (fun c_99 => ?_)
          refine lv_iconst (v := (nI 1)) hx hb d_M_make_102 (by decide) ?_
          refine lv_goto (tgt := 116) hx hb d_M_make_103 (by decide) ?_
          refine va_put (D := D) (ci := 4) (v := .int (nI 1)) (ty := .int) (C := R_M) (T := T_M) (N := 12) hx hb (us_M G hW) (fun _ h => h) t_M to_M nm_M hown hK hP hD hS 0 rfl rfl 0 (by decide) (fl_M_43 G hW) (fun _ h9 => h9) rfl (by decide +kernel) rfl rfl (Nat.le_of_ble_eq_true rfl) d_M_make_116 (fun H locs hP hD hS => ?_)
          have hP : va_P D vcl [(hm, .inr (4, [.int (nI 1), .ref a1, .ref a2, .ref a3, .ref a4, .ref a5, .ref a6, .ref a7, .ref a8, .ref a9, .ref a10, .ref a11])), (a1, aN cI 4 ki), (a2, aN cI 4 ka), (a3, aN cI 4 kb), (a4, aI cI 4 zs), (a5, aI cI 4 pu), (a6, aN cI 4096 ce), (a7, aN cI 1024 pa), (a8, aN cI 1024 tr), (a9, aI cI 256 so), (a10, aN cI 6 pl), (a11, aN cI 6 ot)] H := hP
          have hD : va_D (Aa [hm, a1, a2, a3, a4, a5, a6, a7, a8, a9, a10, a11] H0.size) [(hm, .inr (4, [.int (nI 1), .ref a1, .ref a2, .ref a3, .ref a4, .ref a5, .ref a6, .ref a7, .ref a8, .ref a9, .ref a10, .ref a11])), (a1, aN cI 4 ki), (a2, aN cI 4 ka), (a3, aN cI 4 kb), (a4, aI cI 4 zs), (a5, aI cI 4 pu), (a6, aN cI 4096 ce), (a7, aN cI 1024 pa), (a8, aN cI 1024 tr), (a9, aI cI 256 so), (a10, aN cI 6 pl), (a11, aN cI 6 ot)] := hD
          refine lv_aload_n hx hb d_M_make_119 rfl (lv_at hl 1 rfl) ?_
          refine va_get (D := D) (ci := 4) (v := .int (nI 1)) (C := R_M) (T := T_M) (N := 12) hx hb (us_M G hW) (fun _ h => h) hown hK hP 0 rfl rfl 0 (by decide) (fl_M_43 G hW) (fun _ h9 => h9) rfl d_M_make_120 ?_
          refine lv_if_ne (tgt := 153) hx hb d_M_make_123 (by decide) (fun c_123 => ?_) (fun c_123 => absurd c_123 (by decide))
          exact mx_vret hx hb hr hlk d_M_make_153 (Nat.le_of_ble_eq_true rfl) (Nat.le_of_ble_eq_true rfl) hS.2.2 (⟨rfl, ki, ka, kb, zs, pu, ce, pa, tr, so, pl, ot, hP, hpic⟩)
        · refine lv_iload_n hx hb d_M_make_29 rfl (lv_at hl 2 rfl) ?_
          refine lv_iconst (v := (nI 2)) hx hb d_M_make_30 (by decide) ?_
          refine lv_icmp_ne (tgt := 58) hx hb d_M_make_31 (by decide) (fun c_31 => ?_) (fun c_31 => absurd c_31 (by decide))
          refine lv_iload_n hx hb d_M_make_58 rfl (lv_at hl 2 rfl) ?_
          refine lv_iconst (v := (nI 3)) hx hb d_M_make_59 (by decide) ?_
          refine lv_icmp_ne (tgt := 91) hx hb d_M_make_60 (by decide) (fun c_60 => ?_) (fun c_60 => absurd c_60 (by decide))
          refine lv_iconst (v := (nI 0)) hx hb d_M_make_91 (by decide) ?_
          refine lv_istore (lv' := [(5, .int (nI 0)), (0, .ref hm), (1, .int v), (2, .int (nI 1)), (3, .int a), (4, .int b)]) hx hb d_M_make_92 hl (by decide) rfl (fun ls hl => ?_)
          refine lv_aload_n hx hb d_M_make_94 rfl (lv_at hl 1 rfl) ?_
          refine lv_iload_n hx hb d_M_make_95 rfl (lv_at hl 2 rfl) ?_
          refine mx_callR (r := .int (bI (isNum v))) (c_M_isNumber G v) hW (iv_M_make_96 G hx hb hown hW [.int v] [.ref hm] rfl) hml hl.1 (by rw [hb]; exact d_M_make_96) (cd_M_isNumber G hW) ⟨Nat.le_of_ble_eq_true rfl, Nat.le_of_ble_eq_true rfl⟩ rfl rfl (Nat.le_of_ble_eq_true rfl) (Nat.le_of_ble_eq_true rfl) (Nat.le_of_ble_eq_true rfl) ?_
          refine tp_i (y := (bI false)) (by rw [hv]) ?_
          refine lv_if_ne (tgt := 106) hx hb d_M_make_99 (by decide) (fun c_99 => absurd (rfl) c_99) (fun c_99 => ?_)
          refine lv_iconst (v := (nI 1)) hx hb d_M_make_102 (by decide) ?_
          refine lv_goto (tgt := 116) hx hb d_M_make_103 (by decide) ?_
          refine va_put (D := D) (ci := 4) (v := .int (nI 1)) (ty := .int) (C := R_M) (T := T_M) (N := 12) hx hb (us_M G hW) (fun _ h => h) t_M to_M nm_M hown hK hP hD hS 0 rfl rfl 0 (by decide) (fl_M_43 G hW) (fun _ h9 => h9) rfl (by decide +kernel) rfl rfl (Nat.le_of_ble_eq_true rfl) d_M_make_116 (fun H locs hP hD hS => ?_)
          have hP : va_P D vcl [(hm, .inr (4, [.int (nI 1), .ref a1, .ref a2, .ref a3, .ref a4, .ref a5, .ref a6, .ref a7, .ref a8, .ref a9, .ref a10, .ref a11])), (a1, aN cI 4 ki), (a2, aN cI 4 ka), (a3, aN cI 4 kb), (a4, aI cI 4 zs), (a5, aI cI 4 pu), (a6, aN cI 4096 ce), (a7, aN cI 1024 pa), (a8, aN cI 1024 tr), (a9, aI cI 256 so), (a10, aN cI 6 pl), (a11, aN cI 6 ot)] H := hP
          have hD : va_D (Aa [hm, a1, a2, a3, a4, a5, a6, a7, a8, a9, a10, a11] H0.size) [(hm, .inr (4, [.int (nI 1), .ref a1, .ref a2, .ref a3, .ref a4, .ref a5, .ref a6, .ref a7, .ref a8, .ref a9, .ref a10, .ref a11])), (a1, aN cI 4 ki), (a2, aN cI 4 ka), (a3, aN cI 4 kb), (a4, aI cI 4 zs), (a5, aI cI 4 pu), (a6, aN cI 4096 ce), (a7, aN cI 1024 pa), (a8, aN cI 1024 tr), (a9, aI cI 256 so), (a10, aN cI 6 pl), (a11, aN cI 6 ot)] := hD
          refine lv_aload_n hx hb d_M_make_119 rfl (lv_at hl 1 rfl) ?_
          refine va_get (D := D) (ci := 4) (v := .int (nI 1)) (C := R_M) (T := T_M) (N := 12) hx hb (us_M G hW) (fun _ h => h) hown hK hP 0 rfl rfl 0 (by decide) (fl_M_43 G hW) (fun _ h9 => h9) rfl d_M_make_120 ?_
          refine lv_if_ne (tgt := 153) hx hb d_M_make_123 (by decide) (fun c_123 => ?_) (fun c_123 => absurd c_123 (by decide))
          exact mx_vret hx hb hr hlk d_M_make_153 (Nat.le_of_ble_eq_true rfl) (Nat.le_of_ble_eq_true rfl) hS.2.2 (⟨rfl, ki, ka, kb, zs, pu, ce, pa, tr, so, pl, ot, hP, hpic⟩)

set_option maxHeartbeats 4000000 in
set_option maxRecDepth 100000 in
theorem c_M_make_bad_1 {l : Launch} {s0 : State} {D : va_G} {cI cF cJ : ClassId} (G : Gx l s0 D cI cF cJ) (hm a1 a2 a3 a4 a5 a6 a7 a8 a9 a10 a11 : Nat) (th : Int32) (S : Nat → FS) (j : Nat) (a b : Int32) {H0 : Heap} {A0 : Nat → Prop} (hM : MP D cI hm a1 a2 a3 a4 a5 a6 a7 a8 a9 a10 a11 th S H0) (hD : va_D A0 (adM hm a1 a2 a3 a4 a5 a6 a7 a8 a9 a10 a11)) (hok : ∀ i, i < 4 → okS (S i)) (hj : j < 4) (hm9 : mbS (nI 1) a b = false) : Mx l s0 y_M_make (.code y_M_make b_M_make 6 none) { frames := 7, cells := 0, slots := 0, locals := 170 } [.ref hm, .int (nI j), .int (nI 1), .int a, .int b] H0 (Aa [hm, a1, a2, a3, a4, a5, a6, a7, a8, a9, a10, a11] H0.size) (Rn (fun H1 => MP D cI hm a1 a2 a3 a4 a5 a6 a7 a8 a9 a10 a11 (nI 2) S H1)) := by
  refine Mx.ofW (own := "FewBitsModel") rfl rfl ?_
  rintro p e s m below meth c ⟨hx, hb, hml, hr, hown, hW, hlk⟩ hnm het hH
  have hK := G.k hW
  have hD0 := hD
  obtain ⟨ki, ka, kb, zs, pu, ce, pa, tr, so, pl, ot, hP, hpic⟩ := hM
  have hD : va_D (Aa [hm, a1, a2, a3, a4, a5, a6, a7, a8, a9, a10, a11] H0.size) [(hm, .inr (4, [.int th, .ref a1, .ref a2, .ref a3, .ref a4, .ref a5, .ref a6, .ref a7, .ref a8, .ref a9, .ref a10, .ref a11])), (a1, aN cI 4 ki), (a2, aN cI 4 ka), (a3, aN cI 4 kb), (a4, aI cI 4 zs), (a5, aI cI 4 pu), (a6, aN cI 4096 ce), (a7, aN cI 1024 pa), (a8, aN cI 1024 tr), (a9, aI cI 256 so), (a10, aN cI 6 pl), (a11, aN cI 6 ot)] := va_D.same2 [hm, a1, a2, a3, a4, a5, a6, a7, a8, a9, a10, a11] (hD.aa (sz := H0.size)) rfl rfl
  have hS : va_S (Aa [hm, a1, a2, a3, a4, a5, a6, a7, a8, a9, a10, a11] H0.size) H0 H0 [] := va_S.rf
  have hl := lv_entry ([.ref hm, .int (nI j), .int (nI 1), .int a, .int b]) (n := 6) (Nat.le_of_ble_eq_true rfl)
  rw [lg_entry_eq]
  generalize (lg_sl ([.ref hm, .int (nI j), .int (nI 1), .int a, .int b]) ++ List.replicate (6 - (lg_sl ([.ref hm, .int (nI j), .int (nI 1), .int a, .int b])).length) Slot.unset).toArray = ls at hl ⊢
  have hl : lv_has ls 6 [(0, .ref hm), (1, .int (nI j)), (2, .int (nI 1)), (3, .int a), (4, .int b)] := hl
  refine lv_iload_n hx hb d_M_make_0 rfl (lv_at hl 2 rfl) ?_
  refine lv_iconst (v := (nI 1)) hx hb d_M_make_1 (by decide) ?_
  refine lv_icmp_ne (tgt := 29) hx hb d_M_make_2 (by decide) (fun c_2 => absurd (rfl) c_2) (fun c_2 => ?_)
  refine lv_iload_n hx hb d_M_make_5 rfl (lv_at hl 3 rfl) ?_
  refine lv_iconst (v := (nI 3)) hx hb d_M_make_6 (by decide) ?_
  refine lv_icmp_lt (tgt := 29) hx hb d_M_make_7 (by decide) (fun c_7 => ?_) (fun c_7 => ?_)
  · refine lv_iload_n hx hb d_M_make_29 rfl (lv_at hl 2 rfl) ?_
    refine lv_iconst (v := (nI 2)) hx hb d_M_make_30 (by decide) ?_
    refine lv_icmp_ne (tgt := 58) hx hb d_M_make_31 (by decide) (fun c_31 => ?_) (fun c_31 => absurd c_31 (by decide))
    refine lv_iload_n hx hb d_M_make_58 rfl (lv_at hl 2 rfl) ?_
    refine lv_iconst (v := (nI 3)) hx hb d_M_make_59 (by decide) ?_
    refine lv_icmp_ne (tgt := 91) hx hb d_M_make_60 (by decide) (fun c_60 => ?_) (fun c_60 => absurd c_60 (by decide))
    refine lv_iconst (v := (nI 0)) hx hb d_M_make_91 (by decide) ?_
    refine lv_istore (lv' := [(5, .int (nI 0)), (0, .ref hm), (1, .int (nI j)), (2, .int (nI 1)), (3, .int a), (4, .int b)]) hx hb d_M_make_92 hl (by decide) rfl (fun ls hl => ?_)
    refine lv_aload_n hx hb d_M_make_94 rfl (lv_at hl 1 rfl) ?_
    refine lv_iload_n hx hb d_M_make_95 rfl (lv_at hl 2 rfl) ?_
    refine mx_callR (r := .int (bI (isNum (nI j)))) (c_M_isNumber G (nI j)) hW (iv_M_make_96 G hx hb hown hW [.int (nI j)] [.ref hm] rfl) hml hl.1 (by rw [hb]; exact d_M_make_96) (cd_M_isNumber G hW) ⟨Nat.le_of_ble_eq_true rfl, Nat.le_of_ble_eq_true rfl⟩ rfl rfl (Nat.le_of_ble_eq_true rfl) (Nat.le_of_ble_eq_true rfl) (Nat.le_of_ble_eq_true rfl) ?_
    refine tp_i (y := (bI true)) (by rw [isNum_nI hj]) ?_
    refine lv_if_ne (tgt := 106) hx hb d_M_make_99 (by decide) (fun c_99 => ?_) (fun c_99 => absurd c_99 (by decide))
    refine lv_iload hx hb d_M_make_106 (lv_at hl 0 rfl) ?_
    refine lv_if_ne (tgt := 115) hx hb d_M_make_108 (by decide) (fun c_108 => absurd (rfl) c_108) (fun c_108 => ?_)
    refine lv_iconst (v := (nI 2)) hx hb d_M_make_111 (by decide) ?_
    refine lv_goto (tgt := 116) hx hb d_M_make_112 (by decide) ?_
    refine va_put (D := D) (ci := 4) (v := .int (nI 2)) (ty := .int) (C := R_M) (T := T_M) (N := 12) hx hb (us_M G hW) (fun _ h => h) t_M to_M nm_M hown hK hP hD hS 0 rfl rfl 0 (by decide) (fl_M_43 G hW) (fun _ h9 => h9) rfl (by decide +kernel) rfl rfl (Nat.le_of_ble_eq_true rfl) d_M_make_116 (fun H locs hP hD hS => ?_)
    have hP : va_P D vcl [(hm, .inr (4, [.int (nI 2), .ref a1, .ref a2, .ref a3, .ref a4, .ref a5, .ref a6, .ref a7, .ref a8, .ref a9, .ref a10, .ref a11])), (a1, aN cI 4 ki), (a2, aN cI 4 ka), (a3, aN cI 4 kb), (a4, aI cI 4 zs), (a5, aI cI 4 pu), (a6, aN cI 4096 ce), (a7, aN cI 1024 pa), (a8, aN cI 1024 tr), (a9, aI cI 256 so), (a10, aN cI 6 pl), (a11, aN cI 6 ot)] H := hP
    have hD : va_D (Aa [hm, a1, a2, a3, a4, a5, a6, a7, a8, a9, a10, a11] H0.size) [(hm, .inr (4, [.int (nI 2), .ref a1, .ref a2, .ref a3, .ref a4, .ref a5, .ref a6, .ref a7, .ref a8, .ref a9, .ref a10, .ref a11])), (a1, aN cI 4 ki), (a2, aN cI 4 ka), (a3, aN cI 4 kb), (a4, aI cI 4 zs), (a5, aI cI 4 pu), (a6, aN cI 4096 ce), (a7, aN cI 1024 pa), (a8, aN cI 1024 tr), (a9, aI cI 256 so), (a10, aN cI 6 pl), (a11, aN cI 6 ot)] := hD
    refine lv_aload_n hx hb d_M_make_119 rfl (lv_at hl 1 rfl) ?_
    refine va_get (D := D) (ci := 4) (v := .int (nI 2)) (C := R_M) (T := T_M) (N := 12) hx hb (us_M G hW) (fun _ h => h) hown hK hP 0 rfl rfl 0 (by decide) (fl_M_43 G hW) (fun _ h9 => h9) rfl d_M_make_120 ?_
    refine lv_if_ne (tgt := 153) hx hb d_M_make_123 (by decide) (fun c_123 => ?_) (fun c_123 => absurd c_123 (by decide))
    exact mx_vret hx hb hr hlk d_M_make_153 (Nat.le_of_ble_eq_true rfl) (Nat.le_of_ble_eq_true rfl) hS.2.2 (⟨rfl, ki, ka, kb, zs, pu, ce, pa, tr, so, pl, ot, hP, hpic⟩)
  · refine lv_iload_n hx hb d_M_make_10 rfl (lv_at hl 3 rfl) ?_
    refine lv_bipush (v := (nI 10)) hx hb d_M_make_11 (by decide) ?_
    refine lv_icmp_gt (tgt := 29) hx hb d_M_make_13 (by decide) (fun c_13 => ?_) (fun c_13 => ?_)
    · refine lv_iload_n hx hb d_M_make_29 rfl (lv_at hl 2 rfl) ?_
      refine lv_iconst (v := (nI 2)) hx hb d_M_make_30 (by decide) ?_
      refine lv_icmp_ne (tgt := 58) hx hb d_M_make_31 (by decide) (fun c_31 => ?_) (fun c_31 => absurd c_31 (by decide))
      refine lv_iload_n hx hb d_M_make_58 rfl (lv_at hl 2 rfl) ?_
      refine lv_iconst (v := (nI 3)) hx hb d_M_make_59 (by decide) ?_
      refine lv_icmp_ne (tgt := 91) hx hb d_M_make_60 (by decide) (fun c_60 => ?_) (fun c_60 => absurd c_60 (by decide))
      refine lv_iconst (v := (nI 0)) hx hb d_M_make_91 (by decide) ?_
      refine lv_istore (lv' := [(5, .int (nI 0)), (0, .ref hm), (1, .int (nI j)), (2, .int (nI 1)), (3, .int a), (4, .int b)]) hx hb d_M_make_92 hl (by decide) rfl (fun ls hl => ?_)
      refine lv_aload_n hx hb d_M_make_94 rfl (lv_at hl 1 rfl) ?_
      refine lv_iload_n hx hb d_M_make_95 rfl (lv_at hl 2 rfl) ?_
      refine mx_callR (r := .int (bI (isNum (nI j)))) (c_M_isNumber G (nI j)) hW (iv_M_make_96 G hx hb hown hW [.int (nI j)] [.ref hm] rfl) hml hl.1 (by rw [hb]; exact d_M_make_96) (cd_M_isNumber G hW) ⟨Nat.le_of_ble_eq_true rfl, Nat.le_of_ble_eq_true rfl⟩ rfl rfl (Nat.le_of_ble_eq_true rfl) (Nat.le_of_ble_eq_true rfl) (Nat.le_of_ble_eq_true rfl) ?_
      refine tp_i (y := (bI true)) (by rw [isNum_nI hj]) ?_
      refine lv_if_ne (tgt := 106) hx hb d_M_make_99 (by decide) (fun c_99 => ?_) (fun c_99 => absurd c_99 (by decide))
      refine lv_iload hx hb d_M_make_106 (lv_at hl 0 rfl) ?_
      refine lv_if_ne (tgt := 115) hx hb d_M_make_108 (by decide) (fun c_108 => absurd (rfl) c_108) (fun c_108 => ?_)
      refine lv_iconst (v := (nI 2)) hx hb d_M_make_111 (by decide) ?_
      refine lv_goto (tgt := 116) hx hb d_M_make_112 (by decide) ?_
      refine va_put (D := D) (ci := 4) (v := .int (nI 2)) (ty := .int) (C := R_M) (T := T_M) (N := 12) hx hb (us_M G hW) (fun _ h => h) t_M to_M nm_M hown hK hP hD hS 0 rfl rfl 0 (by decide) (fl_M_43 G hW) (fun _ h9 => h9) rfl (by decide +kernel) rfl rfl (Nat.le_of_ble_eq_true rfl) d_M_make_116 (fun H locs hP hD hS => ?_)
      have hP : va_P D vcl [(hm, .inr (4, [.int (nI 2), .ref a1, .ref a2, .ref a3, .ref a4, .ref a5, .ref a6, .ref a7, .ref a8, .ref a9, .ref a10, .ref a11])), (a1, aN cI 4 ki), (a2, aN cI 4 ka), (a3, aN cI 4 kb), (a4, aI cI 4 zs), (a5, aI cI 4 pu), (a6, aN cI 4096 ce), (a7, aN cI 1024 pa), (a8, aN cI 1024 tr), (a9, aI cI 256 so), (a10, aN cI 6 pl), (a11, aN cI 6 ot)] H := hP
      have hD : va_D (Aa [hm, a1, a2, a3, a4, a5, a6, a7, a8, a9, a10, a11] H0.size) [(hm, .inr (4, [.int (nI 2), .ref a1, .ref a2, .ref a3, .ref a4, .ref a5, .ref a6, .ref a7, .ref a8, .ref a9, .ref a10, .ref a11])), (a1, aN cI 4 ki), (a2, aN cI 4 ka), (a3, aN cI 4 kb), (a4, aI cI 4 zs), (a5, aI cI 4 pu), (a6, aN cI 4096 ce), (a7, aN cI 1024 pa), (a8, aN cI 1024 tr), (a9, aI cI 256 so), (a10, aN cI 6 pl), (a11, aN cI 6 ot)] := hD
      refine lv_aload_n hx hb d_M_make_119 rfl (lv_at hl 1 rfl) ?_
      refine va_get (D := D) (ci := 4) (v := .int (nI 2)) (C := R_M) (T := T_M) (N := 12) hx hb (us_M G hW) (fun _ h => h) hown hK hP 0 rfl rfl 0 (by decide) (fl_M_43 G hW) (fun _ h9 => h9) rfl d_M_make_120 ?_
      refine lv_if_ne (tgt := 153) hx hb d_M_make_123 (by decide) (fun c_123 => ?_) (fun c_123 => absurd c_123 (by decide))
      exact mx_vret hx hb hr hlk d_M_make_153 (Nat.le_of_ble_eq_true rfl) (Nat.le_of_ble_eq_true rfl) hS.2.2 (⟨rfl, ki, ka, kb, zs, pu, ce, pa, tr, so, pl, ot, hP, hpic⟩)
    · refine lv_iload hx hb d_M_make_16 (lv_at hl 4 rfl) ?_
      refine lv_iconst (v := (nI 1)) hx hb d_M_make_18 (by decide) ?_
      refine lv_icmp_lt (tgt := 29) hx hb d_M_make_19 (by decide) (fun c_19 => ?_) (fun c_19 => ?_)
      · refine lv_iload_n hx hb d_M_make_29 rfl (lv_at hl 2 rfl) ?_
        refine lv_iconst (v := (nI 2)) hx hb d_M_make_30 (by decide) ?_
        refine lv_icmp_ne (tgt := 58) hx hb d_M_make_31 (by decide) (fun c_31 => ?_) (fun c_31 => absurd c_31 (by decide))
        refine lv_iload_n hx hb d_M_make_58 rfl (lv_at hl 2 rfl) ?_
        refine lv_iconst (v := (nI 3)) hx hb d_M_make_59 (by decide) ?_
        refine lv_icmp_ne (tgt := 91) hx hb d_M_make_60 (by decide) (fun c_60 => ?_) (fun c_60 => absurd c_60 (by decide))
        refine lv_iconst (v := (nI 0)) hx hb d_M_make_91 (by decide) ?_
        refine lv_istore (lv' := [(5, .int (nI 0)), (0, .ref hm), (1, .int (nI j)), (2, .int (nI 1)), (3, .int a), (4, .int b)]) hx hb d_M_make_92 hl (by decide) rfl (fun ls hl => ?_)
        refine lv_aload_n hx hb d_M_make_94 rfl (lv_at hl 1 rfl) ?_
        refine lv_iload_n hx hb d_M_make_95 rfl (lv_at hl 2 rfl) ?_
        refine mx_callR (r := .int (bI (isNum (nI j)))) (c_M_isNumber G (nI j)) hW (iv_M_make_96 G hx hb hown hW [.int (nI j)] [.ref hm] rfl) hml hl.1 (by rw [hb]; exact d_M_make_96) (cd_M_isNumber G hW) ⟨Nat.le_of_ble_eq_true rfl, Nat.le_of_ble_eq_true rfl⟩ rfl rfl (Nat.le_of_ble_eq_true rfl) (Nat.le_of_ble_eq_true rfl) (Nat.le_of_ble_eq_true rfl) ?_
        refine tp_i (y := (bI true)) (by rw [isNum_nI hj]) ?_
        refine lv_if_ne (tgt := 106) hx hb d_M_make_99 (by decide) (fun c_99 => ?_) (fun c_99 => absurd c_99 (by decide))
        refine lv_iload hx hb d_M_make_106 (lv_at hl 0 rfl) ?_
        refine lv_if_ne (tgt := 115) hx hb d_M_make_108 (by decide) (fun c_108 => absurd (rfl) c_108) (fun c_108 => ?_)
        refine lv_iconst (v := (nI 2)) hx hb d_M_make_111 (by decide) ?_
        refine lv_goto (tgt := 116) hx hb d_M_make_112 (by decide) ?_
        refine va_put (D := D) (ci := 4) (v := .int (nI 2)) (ty := .int) (C := R_M) (T := T_M) (N := 12) hx hb (us_M G hW) (fun _ h => h) t_M to_M nm_M hown hK hP hD hS 0 rfl rfl 0 (by decide) (fl_M_43 G hW) (fun _ h9 => h9) rfl (by decide +kernel) rfl rfl (Nat.le_of_ble_eq_true rfl) d_M_make_116 (fun H locs hP hD hS => ?_)
        have hP : va_P D vcl [(hm, .inr (4, [.int (nI 2), .ref a1, .ref a2, .ref a3, .ref a4, .ref a5, .ref a6, .ref a7, .ref a8, .ref a9, .ref a10, .ref a11])), (a1, aN cI 4 ki), (a2, aN cI 4 ka), (a3, aN cI 4 kb), (a4, aI cI 4 zs), (a5, aI cI 4 pu), (a6, aN cI 4096 ce), (a7, aN cI 1024 pa), (a8, aN cI 1024 tr), (a9, aI cI 256 so), (a10, aN cI 6 pl), (a11, aN cI 6 ot)] H := hP
        have hD : va_D (Aa [hm, a1, a2, a3, a4, a5, a6, a7, a8, a9, a10, a11] H0.size) [(hm, .inr (4, [.int (nI 2), .ref a1, .ref a2, .ref a3, .ref a4, .ref a5, .ref a6, .ref a7, .ref a8, .ref a9, .ref a10, .ref a11])), (a1, aN cI 4 ki), (a2, aN cI 4 ka), (a3, aN cI 4 kb), (a4, aI cI 4 zs), (a5, aI cI 4 pu), (a6, aN cI 4096 ce), (a7, aN cI 1024 pa), (a8, aN cI 1024 tr), (a9, aI cI 256 so), (a10, aN cI 6 pl), (a11, aN cI 6 ot)] := hD
        refine lv_aload_n hx hb d_M_make_119 rfl (lv_at hl 1 rfl) ?_
        refine va_get (D := D) (ci := 4) (v := .int (nI 2)) (C := R_M) (T := T_M) (N := 12) hx hb (us_M G hW) (fun _ h => h) hown hK hP 0 rfl rfl 0 (by decide) (fl_M_43 G hW) (fun _ h9 => h9) rfl d_M_make_120 ?_
        refine lv_if_ne (tgt := 153) hx hb d_M_make_123 (by decide) (fun c_123 => ?_) (fun c_123 => absurd c_123 (by decide))
        exact mx_vret hx hb hr hlk d_M_make_153 (Nat.le_of_ble_eq_true rfl) (Nat.le_of_ble_eq_true rfl) hS.2.2 (⟨rfl, ki, ka, kb, zs, pu, ce, pa, tr, so, pl, ot, hP, hpic⟩)
      · refine lv_iload hx hb d_M_make_22 (lv_at hl 4 rfl) ?_
        refine lv_bipush (v := (nI 6)) hx hb d_M_make_24 (by decide) ?_
        refine lv_icmp_le (tgt := 87) hx hb d_M_make_26 (by decide) (fun c_26 => absurd c_26 (fun h9 => mb_1 hm9 c_7 c_13 c_19 h9)) (fun c_26 => ?_)
        refine lv_iload_n hx hb d_M_make_29 rfl (lv_at hl 2 rfl) ?_
        refine lv_iconst (v := (nI 2)) hx hb d_M_make_30 (by decide) ?_
        refine lv_icmp_ne (tgt := 58) hx hb d_M_make_31 (by decide) (fun c_31 => ?_) (fun c_31 => absurd c_31 (by decide))
        refine lv_iload_n hx hb d_M_make_58 rfl (lv_at hl 2 rfl) ?_
        refine lv_iconst (v := (nI 3)) hx hb d_M_make_59 (by decide) ?_
        refine lv_icmp_ne (tgt := 91) hx hb d_M_make_60 (by decide) (fun c_60 => ?_) (fun c_60 => absurd c_60 (by decide))
        refine lv_iconst (v := (nI 0)) hx hb d_M_make_91 (by decide) ?_
        refine lv_istore (lv' := [(5, .int (nI 0)), (0, .ref hm), (1, .int (nI j)), (2, .int (nI 1)), (3, .int a), (4, .int b)]) hx hb d_M_make_92 hl (by decide) rfl (fun ls hl => ?_)
        refine lv_aload_n hx hb d_M_make_94 rfl (lv_at hl 1 rfl) ?_
        refine lv_iload_n hx hb d_M_make_95 rfl (lv_at hl 2 rfl) ?_
        refine mx_callR (r := .int (bI (isNum (nI j)))) (c_M_isNumber G (nI j)) hW (iv_M_make_96 G hx hb hown hW [.int (nI j)] [.ref hm] rfl) hml hl.1 (by rw [hb]; exact d_M_make_96) (cd_M_isNumber G hW) ⟨Nat.le_of_ble_eq_true rfl, Nat.le_of_ble_eq_true rfl⟩ rfl rfl (Nat.le_of_ble_eq_true rfl) (Nat.le_of_ble_eq_true rfl) (Nat.le_of_ble_eq_true rfl) ?_
        refine tp_i (y := (bI true)) (by rw [isNum_nI hj]) ?_
        refine lv_if_ne (tgt := 106) hx hb d_M_make_99 (by decide) (fun c_99 => ?_) (fun c_99 => absurd c_99 (by decide))
        refine lv_iload hx hb d_M_make_106 (lv_at hl 0 rfl) ?_
        refine lv_if_ne (tgt := 115) hx hb d_M_make_108 (by decide) (fun c_108 => absurd (rfl) c_108) (fun c_108 => ?_)
        refine lv_iconst (v := (nI 2)) hx hb d_M_make_111 (by decide) ?_
        refine lv_goto (tgt := 116) hx hb d_M_make_112 (by decide) ?_
        refine va_put (D := D) (ci := 4) (v := .int (nI 2)) (ty := .int) (C := R_M) (T := T_M) (N := 12) hx hb (us_M G hW) (fun _ h => h) t_M to_M nm_M hown hK hP hD hS 0 rfl rfl 0 (by decide) (fl_M_43 G hW) (fun _ h9 => h9) rfl (by decide +kernel) rfl rfl (Nat.le_of_ble_eq_true rfl) d_M_make_116 (fun H locs hP hD hS => ?_)
        have hP : va_P D vcl [(hm, .inr (4, [.int (nI 2), .ref a1, .ref a2, .ref a3, .ref a4, .ref a5, .ref a6, .ref a7, .ref a8, .ref a9, .ref a10, .ref a11])), (a1, aN cI 4 ki), (a2, aN cI 4 ka), (a3, aN cI 4 kb), (a4, aI cI 4 zs), (a5, aI cI 4 pu), (a6, aN cI 4096 ce), (a7, aN cI 1024 pa), (a8, aN cI 1024 tr), (a9, aI cI 256 so), (a10, aN cI 6 pl), (a11, aN cI 6 ot)] H := hP
        have hD : va_D (Aa [hm, a1, a2, a3, a4, a5, a6, a7, a8, a9, a10, a11] H0.size) [(hm, .inr (4, [.int (nI 2), .ref a1, .ref a2, .ref a3, .ref a4, .ref a5, .ref a6, .ref a7, .ref a8, .ref a9, .ref a10, .ref a11])), (a1, aN cI 4 ki), (a2, aN cI 4 ka), (a3, aN cI 4 kb), (a4, aI cI 4 zs), (a5, aI cI 4 pu), (a6, aN cI 4096 ce), (a7, aN cI 1024 pa), (a8, aN cI 1024 tr), (a9, aI cI 256 so), (a10, aN cI 6 pl), (a11, aN cI 6 ot)] := hD
        refine lv_aload_n hx hb d_M_make_119 rfl (lv_at hl 1 rfl) ?_
        refine va_get (D := D) (ci := 4) (v := .int (nI 2)) (C := R_M) (T := T_M) (N := 12) hx hb (us_M G hW) (fun _ h => h) hown hK hP 0 rfl rfl 0 (by decide) (fl_M_43 G hW) (fun _ h9 => h9) rfl d_M_make_120 ?_
        refine lv_if_ne (tgt := 153) hx hb d_M_make_123 (by decide) (fun c_123 => ?_) (fun c_123 => absurd c_123 (by decide))
        exact mx_vret hx hb hr hlk d_M_make_153 (Nat.le_of_ble_eq_true rfl) (Nat.le_of_ble_eq_true rfl) hS.2.2 (⟨rfl, ki, ka, kb, zs, pu, ce, pa, tr, so, pl, ot, hP, hpic⟩)

set_option maxHeartbeats 4000000 in
set_option maxRecDepth 100000 in
theorem c_M_make_1 {l : Launch} {s0 : State} {D : va_G} {cI cF cJ : ClassId} (G : Gx l s0 D cI cF cJ) (hm a1 a2 a3 a4 a5 a6 a7 a8 a9 a10 a11 : Nat) (th : Int32) (S : Nat → FS) (j A B : Nat) (f : Nat → Nat) {H0 : Heap} {A0 : Nat → Prop} (hM : MP D cI hm a1 a2 a3 a4 a5 a6 a7 a8 a9 a10 a11 th S H0) (hD : va_D A0 (adM hm a1 a2 a3 a4 a5 a6 a7 a8 a9 a10 a11)) (hok : ∀ i, i < 4 → okS (S i)) (hj : j < 4) (hm9 : (¬ nI A < nI 3 ∧ nI A ≤ nI 10) ∧ (¬ nI B < nI 1 ∧ nI B ≤ nI 6)) : Mx l s0 y_M_make (.code y_M_make b_M_make 6 none) { frames := 7, cells := 0, slots := 0, locals := 170 } [.ref hm, .int (nI j), .int (nI 1), .int (nI A), .int (nI B)] H0 (Aa [hm, a1, a2, a3, a4, a5, a6, a7, a8, a9, a10, a11] H0.size) (Rn (fun H1 => MP D cI hm a1 a2 a3 a4 a5 a6 a7 a8 a9 a10 a11 (nI 0) (va_up S j (mkS 1 A B f)) H1)) := by
  refine Mx.ofW (own := "FewBitsModel") rfl rfl ?_
  rintro p e s m below meth c ⟨hx, hb, hml, hr, hown, hW, hlk⟩ hnm het hH
  have hK := G.k hW
  have hD0 := hD
  obtain ⟨ki, ka, kb, zs, pu, ce, pa, tr, so, pl, ot, hP, hpic⟩ := hM
  have hD : va_D (Aa [hm, a1, a2, a3, a4, a5, a6, a7, a8, a9, a10, a11] H0.size) [(hm, .inr (4, [.int th, .ref a1, .ref a2, .ref a3, .ref a4, .ref a5, .ref a6, .ref a7, .ref a8, .ref a9, .ref a10, .ref a11])), (a1, aN cI 4 ki), (a2, aN cI 4 ka), (a3, aN cI 4 kb), (a4, aI cI 4 zs), (a5, aI cI 4 pu), (a6, aN cI 4096 ce), (a7, aN cI 1024 pa), (a8, aN cI 1024 tr), (a9, aI cI 256 so), (a10, aN cI 6 pl), (a11, aN cI 6 ot)] := va_D.same2 [hm, a1, a2, a3, a4, a5, a6, a7, a8, a9, a10, a11] (hD.aa (sz := H0.size)) rfl rfl
  have hS : va_S (Aa [hm, a1, a2, a3, a4, a5, a6, a7, a8, a9, a10, a11] H0.size) H0 H0 [] := va_S.rf
  have hl := lv_entry ([.ref hm, .int (nI j), .int (nI 1), .int (nI A), .int (nI B)]) (n := 6) (Nat.le_of_ble_eq_true rfl)
  rw [lg_entry_eq]
  generalize (lg_sl ([.ref hm, .int (nI j), .int (nI 1), .int (nI A), .int (nI B)]) ++ List.replicate (6 - (lg_sl ([.ref hm, .int (nI j), .int (nI 1), .int (nI A), .int (nI B)])).length) Slot.unset).toArray = ls at hl ⊢
  have hl : lv_has ls 6 [(0, .ref hm), (1, .int (nI j)), (2, .int (nI 1)), (3, .int (nI A)), (4, .int (nI B))] := hl
  refine lv_iload_n hx hb d_M_make_0 rfl (lv_at hl 2 rfl) ?_
  refine lv_iconst (v := (nI 1)) hx hb d_M_make_1 (by decide) ?_
  refine lv_icmp_ne (tgt := 29) hx hb d_M_make_2 (by decide) (fun c_2 => absurd (rfl) c_2) (fun c_2 => ?_)
  refine lv_iload_n hx hb d_M_make_5 rfl (lv_at hl 3 rfl) ?_
  refine lv_iconst (v := (nI 3)) hx hb d_M_make_6 (by decide) ?_
  refine lv_icmp_lt (tgt := 29) hx hb d_M_make_7 (by decide) (fun c_7 => absurd c_7 (hm9.1.1)) (fun c_7 => ?_)
  refine lv_iload_n hx hb d_M_make_10 rfl (lv_at hl 3 rfl) ?_
  refine lv_bipush (v := (nI 10)) hx hb d_M_make_11 (by decide) ?_
  refine lv_icmp_gt (tgt := 29) hx hb d_M_make_13 (by decide) (fun c_13 => absurd c_13 (Int32.not_lt.mpr hm9.1.2)) (fun c_13 => ?_)
  refine lv_iload hx hb d_M_make_16 (lv_at hl 4 rfl) ?_
  refine lv_iconst (v := (nI 1)) hx hb d_M_make_18 (by decide) ?_
  refine lv_icmp_lt (tgt := 29) hx hb d_M_make_19 (by decide) (fun c_19 => absurd c_19 (hm9.2.1)) (fun c_19 => ?_)
  refine lv_iload hx hb d_M_make_22 (lv_at hl 4 rfl) ?_
  refine lv_bipush (v := (nI 6)) hx hb d_M_make_24 (by decide) ?_
  refine lv_icmp_le (tgt := 87) hx hb d_M_make_26 (by decide) (fun c_26 => ?_) (fun c_26 => absurd (hm9.2.2) c_26)
  refine lv_iconst (v := (nI 1)) hx hb d_M_make_87 (by decide) ?_
  refine lv_goto (tgt := 92) hx hb d_M_make_88 (by decide) ?_
  refine lv_istore (lv' := [(5, .int (nI 1)), (0, .ref hm), (1, .int (nI j)), (2, .int (nI 1)), (3, .int (nI A)), (4, .int (nI B))]) hx hb d_M_make_92 hl (by decide) rfl (fun ls hl => ?_)
  refine lv_aload_n hx hb d_M_make_94 rfl (lv_at hl 1 rfl) ?_
  refine lv_iload_n hx hb d_M_make_95 rfl (lv_at hl 2 rfl) ?_
  refine mx_callR (r := .int (bI (isNum (nI j)))) (c_M_isNumber G (nI j)) hW (iv_M_make_96 G hx hb hown hW [.int (nI j)] [.ref hm] rfl) hml hl.1 (by rw [hb]; exact d_M_make_96) (cd_M_isNumber G hW) ⟨Nat.le_of_ble_eq_true rfl, Nat.le_of_ble_eq_true rfl⟩ rfl rfl (Nat.le_of_ble_eq_true rfl) (Nat.le_of_ble_eq_true rfl) (Nat.le_of_ble_eq_true rfl) ?_
  refine tp_i (y := (bI true)) (by rw [isNum_nI hj]) ?_
  refine lv_if_ne (tgt := 106) hx hb d_M_make_99 (by decide) (fun c_99 => ?_) (fun c_99 => absurd c_99 (by decide))
  refine lv_iload hx hb d_M_make_106 (lv_at hl 0 rfl) ?_
  refine lv_if_ne (tgt := 115) hx hb d_M_make_108 (by decide) (fun c_108 => ?_) (fun c_108 => absurd c_108 (by decide))
  refine lv_iconst (v := (nI 0)) hx hb d_M_make_115 (by decide) ?_
  refine va_put (D := D) (ci := 4) (v := .int (nI 0)) (ty := .int) (C := R_M) (T := T_M) (N := 12) hx hb (us_M G hW) (fun _ h => h) t_M to_M nm_M hown hK hP hD hS 0 rfl rfl 0 (by decide) (fl_M_43 G hW) (fun _ h9 => h9) rfl (by decide +kernel) rfl rfl (Nat.le_of_ble_eq_true rfl) d_M_make_116 (fun H locs hP hD hS => ?_)
  have hP : va_P D vcl [(hm, .inr (4, [.int (nI 0), .ref a1, .ref a2, .ref a3, .ref a4, .ref a5, .ref a6, .ref a7, .ref a8, .ref a9, .ref a10, .ref a11])), (a1, aN cI 4 ki), (a2, aN cI 4 ka), (a3, aN cI 4 kb), (a4, aI cI 4 zs), (a5, aI cI 4 pu), (a6, aN cI 4096 ce), (a7, aN cI 1024 pa), (a8, aN cI 1024 tr), (a9, aI cI 256 so), (a10, aN cI 6 pl), (a11, aN cI 6 ot)] H := hP
  have hD : va_D (Aa [hm, a1, a2, a3, a4, a5, a6, a7, a8, a9, a10, a11] H0.size) [(hm, .inr (4, [.int (nI 0), .ref a1, .ref a2, .ref a3, .ref a4, .ref a5, .ref a6, .ref a7, .ref a8, .ref a9, .ref a10, .ref a11])), (a1, aN cI 4 ki), (a2, aN cI 4 ka), (a3, aN cI 4 kb), (a4, aI cI 4 zs), (a5, aI cI 4 pu), (a6, aN cI 4096 ce), (a7, aN cI 1024 pa), (a8, aN cI 1024 tr), (a9, aI cI 256 so), (a10, aN cI 6 pl), (a11, aN cI 6 ot)] := hD
  refine lv_aload_n hx hb d_M_make_119 rfl (lv_at hl 1 rfl) ?_
  refine va_get (D := D) (ci := 4) (v := .int (nI 0)) (C := R_M) (T := T_M) (N := 12) hx hb (us_M G hW) (fun _ h => h) hown hK hP 0 rfl rfl 0 (by decide) (fl_M_43 G hW) (fun _ h9 => h9) rfl d_M_make_120 ?_
  refine lv_if_ne (tgt := 153) hx hb d_M_make_123 (by decide) (fun c_123 => absurd (rfl) c_123) (fun c_123 => ?_)
  refine lv_aload_n hx hb d_M_make_126 rfl (lv_at hl 1 rfl) ?_
  refine va_get (D := D) (ci := 4) (v := .ref a1) (C := R_M) (T := T_M) (N := 12) hx hb (us_M G hW) (fun _ h => h) hown hK hP 0 rfl rfl 1 (by decide) (fl_M_7 G hW) (fun _ h9 => h9) rfl d_M_make_127 ?_
  refine lv_iload_n hx hb d_M_make_130 rfl (lv_at hl 2 rfl) ?_
  refine lv_iload_n hx hb d_M_make_131 rfl (lv_at hl 3 rfl) ?_
  refine ia_stN hx hb hK hP hD hS 1 (j := j) (x := 1) (f := ki) rfl (hj) (by decide) d_M_make_132 (fun H locs hP hD hS => ?_)
  have hP : va_P D vcl [(hm, .inr (4, [.int (nI 0), .ref a1, .ref a2, .ref a3, .ref a4, .ref a5, .ref a6, .ref a7, .ref a8, .ref a9, .ref a10, .ref a11])), (a1, aN cI 4 (va_up ki j 1)), (a2, aN cI 4 ka), (a3, aN cI 4 kb), (a4, aI cI 4 zs), (a5, aI cI 4 pu), (a6, aN cI 4096 ce), (a7, aN cI 1024 pa), (a8, aN cI 1024 tr), (a9, aI cI 256 so), (a10, aN cI 6 pl), (a11, aN cI 6 ot)] H := hP
  have hD : va_D (Aa [hm, a1, a2, a3, a4, a5, a6, a7, a8, a9, a10, a11] H0.size) [(hm, .inr (4, [.int (nI 0), .ref a1, .ref a2, .ref a3, .ref a4, .ref a5, .ref a6, .ref a7, .ref a8, .ref a9, .ref a10, .ref a11])), (a1, aN cI 4 (va_up ki j 1)), (a2, aN cI 4 ka), (a3, aN cI 4 kb), (a4, aI cI 4 zs), (a5, aI cI 4 pu), (a6, aN cI 4096 ce), (a7, aN cI 1024 pa), (a8, aN cI 1024 tr), (a9, aI cI 256 so), (a10, aN cI 6 pl), (a11, aN cI 6 ot)] := hD
  refine lv_aload_n hx hb d_M_make_133 rfl (lv_at hl 1 rfl) ?_
  refine va_get (D := D) (ci := 4) (v := .ref a2) (C := R_M) (T := T_M) (N := 12) hx hb (us_M G hW) (fun _ h => h) hown hK hP 0 rfl rfl 2 (by decide) (fl_M_13 G hW) (fun _ h9 => h9) rfl d_M_make_134 ?_
  refine lv_iload_n hx hb d_M_make_137 rfl (lv_at hl 2 rfl) ?_
  refine lv_iload_n hx hb d_M_make_138 rfl (lv_at hl 4 rfl) ?_
  refine ia_stN hx hb hK hP hD hS 2 (j := j) (x := A) (f := ka) rfl (hj) (by decide) d_M_make_139 (fun H locs hP hD hS => ?_)
  have hP : va_P D vcl [(hm, .inr (4, [.int (nI 0), .ref a1, .ref a2, .ref a3, .ref a4, .ref a5, .ref a6, .ref a7, .ref a8, .ref a9, .ref a10, .ref a11])), (a1, aN cI 4 (va_up ki j 1)), (a2, aN cI 4 (va_up ka j A)), (a3, aN cI 4 kb), (a4, aI cI 4 zs), (a5, aI cI 4 pu), (a6, aN cI 4096 ce), (a7, aN cI 1024 pa), (a8, aN cI 1024 tr), (a9, aI cI 256 so), (a10, aN cI 6 pl), (a11, aN cI 6 ot)] H := hP
  have hD : va_D (Aa [hm, a1, a2, a3, a4, a5, a6, a7, a8, a9, a10, a11] H0.size) [(hm, .inr (4, [.int (nI 0), .ref a1, .ref a2, .ref a3, .ref a4, .ref a5, .ref a6, .ref a7, .ref a8, .ref a9, .ref a10, .ref a11])), (a1, aN cI 4 (va_up ki j 1)), (a2, aN cI 4 (va_up ka j A)), (a3, aN cI 4 kb), (a4, aI cI 4 zs), (a5, aI cI 4 pu), (a6, aN cI 4096 ce), (a7, aN cI 1024 pa), (a8, aN cI 1024 tr), (a9, aI cI 256 so), (a10, aN cI 6 pl), (a11, aN cI 6 ot)] := hD
  refine lv_aload_n hx hb d_M_make_140 rfl (lv_at hl 1 rfl) ?_
  refine va_get (D := D) (ci := 4) (v := .ref a3) (C := R_M) (T := T_M) (N := 12) hx hb (us_M G hW) (fun _ h => h) hown hK hP 0 rfl rfl 3 (by decide) (fl_M_16 G hW) (fun _ h9 => h9) rfl d_M_make_141 ?_
  refine lv_iload_n hx hb d_M_make_144 rfl (lv_at hl 2 rfl) ?_
  refine lv_iload hx hb d_M_make_145 (lv_at hl 5 rfl) ?_
  refine ia_stN hx hb hK hP hD hS 3 (j := j) (x := B) (f := kb) rfl (hj) (by decide) d_M_make_147 (fun H locs hP hD hS => ?_)
  have hP : va_P D vcl [(hm, .inr (4, [.int (nI 0), .ref a1, .ref a2, .ref a3, .ref a4, .ref a5, .ref a6, .ref a7, .ref a8, .ref a9, .ref a10, .ref a11])), (a1, aN cI 4 (va_up ki j 1)), (a2, aN cI 4 (va_up ka j A)), (a3, aN cI 4 (va_up kb j B)), (a4, aI cI 4 zs), (a5, aI cI 4 pu), (a6, aN cI 4096 ce), (a7, aN cI 1024 pa), (a8, aN cI 1024 tr), (a9, aI cI 256 so), (a10, aN cI 6 pl), (a11, aN cI 6 ot)] H := hP
  have hD : va_D (Aa [hm, a1, a2, a3, a4, a5, a6, a7, a8, a9, a10, a11] H0.size) [(hm, .inr (4, [.int (nI 0), .ref a1, .ref a2, .ref a3, .ref a4, .ref a5, .ref a6, .ref a7, .ref a8, .ref a9, .ref a10, .ref a11])), (a1, aN cI 4 (va_up ki j 1)), (a2, aN cI 4 (va_up ka j A)), (a3, aN cI 4 (va_up kb j B)), (a4, aI cI 4 zs), (a5, aI cI 4 pu), (a6, aN cI 4096 ce), (a7, aN cI 1024 pa), (a8, aN cI 1024 tr), (a9, aI cI 256 so), (a10, aN cI 6 pl), (a11, aN cI 6 ot)] := hD
  refine lv_aload_n hx hb d_M_make_148 rfl (lv_at hl 1 rfl) ?_
  refine lv_iload_n hx hb d_M_make_149 rfl (lv_at hl 2 rfl) ?_
  refine mx_callN (c_M_empty G hm a1 a2 a3 a4 a5 a6 a7 a8 a9 a10 a11 (nI 0) (va_up ki j 1) (va_up ka j A) (va_up kb j B) zs pu ce pa tr so pl ot j hP hD hj) hW (iv_M_make_150 G hx hb hown hW (va_recv hK hP (ci := 4) (q0 := 0) rfl rfl) [.int (nI j)] [] rfl) hml hl.1 (by rw [hb]; exact d_M_make_150) (cd_M_empty G hW) ⟨Nat.le_of_ble_eq_true rfl, Nat.le_of_ble_eq_true rfl⟩ (Nat.le_of_ble_eq_true rfl) (Nat.le_of_ble_eq_true rfl) (Nat.le_of_ble_eq_true rfl) hS (Aa.mono (fun _ h => h) hS.1) (fun H locs hP _ _ hS => ?_)
  have hP : va_P D vcl [(hm, .inr (4, [.int (nI 0), .ref a1, .ref a2, .ref a3, .ref a4, .ref a5, .ref a6, .ref a7, .ref a8, .ref a9, .ref a10, .ref a11])), (a1, aN cI 4 (va_up ki j 1)), (a2, aN cI 4 (va_up ka j A)), (a3, aN cI 4 (va_up kb j B)), (a4, aI cI 4 (upd zs j (nI 0))), (a5, aI cI 4 (upd pu j (nI 0))), (a6, aN cI 4096 (stO 1024 ce (1024 * j) (fun _ => 0))), (a7, aN cI 1024 pa), (a8, aN cI 1024 tr), (a9, aI cI 256 so), (a10, aN cI 6 pl), (a11, aN cI 6 ot)] H := hP
  have hD : va_D (Aa [hm, a1, a2, a3, a4, a5, a6, a7, a8, a9, a10, a11] H0.size) [(hm, .inr (4, [.int (nI 0), .ref a1, .ref a2, .ref a3, .ref a4, .ref a5, .ref a6, .ref a7, .ref a8, .ref a9, .ref a10, .ref a11])), (a1, aN cI 4 (va_up ki j 1)), (a2, aN cI 4 (va_up ka j A)), (a3, aN cI 4 (va_up kb j B)), (a4, aI cI 4 (upd zs j (nI 0))), (a5, aI cI 4 (upd pu j (nI 0))), (a6, aN cI 4096 (stO 1024 ce (1024 * j) (fun _ => 0))), (a7, aN cI 1024 pa), (a8, aN cI 1024 tr), (a9, aI cI 256 so), (a10, aN cI 6 pl), (a11, aN cI 6 ot)] := va_D.same2 [hm, a1, a2, a3, a4, a5, a6, a7, a8, a9, a10, a11] hD rfl rfl
  exact mx_vret hx hb hr hlk d_M_make_153 (Nat.le_of_ble_eq_true rfl) (Nat.le_of_ble_eq_true rfl) hS.2.2 (⟨rfl, _, _, _, _, _, _, pa, tr, so, pl, ot, hP, pics_up hpic hok ⟨va_up_self _ _ _, fun _ => ⟨va_up_self _ _ _, va_up_self _ _ _, upd_eq⟩, fun _ q h9 => vw_stO h9, fun _ => upd_eq, fun _ i hi => absurd hi (Nat.not_lt_zero _), pic_pa (hpic j hj)⟩ vup_off vup_off vup_off upd_off upd_off offC idP⟩)

set_option maxHeartbeats 4000000 in
set_option maxRecDepth 100000 in
theorem c_M_make_no_2 {l : Launch} {s0 : State} {D : va_G} {cI cF cJ : ClassId} (G : Gx l s0 D cI cF cJ) (hm a1 a2 a3 a4 a5 a6 a7 a8 a9 a10 a11 : Nat) (th : Int32) (S : Nat → FS) (v : Int32) (a b : Int32) {H0 : Heap} {A0 : Nat → Prop} (hM : MP D cI hm a1 a2 a3 a4 a5 a6 a7 a8 a9 a10 a11 th S H0) (hD : va_D A0 (adM hm a1 a2 a3 a4 a5 a6 a7 a8 a9 a10 a11)) (hok : ∀ i, i < 4 → okS (S i)) (hv : isNum v = false) : Mx l s0 y_M_make (.code y_M_make b_M_make 6 none) { frames := 7, cells := 0, slots := 0, locals := 170 } [.ref hm, .int v, .int (nI 2), .int a, .int b] H0 (Aa [hm, a1, a2, a3, a4, a5, a6, a7, a8, a9, a10, a11] H0.size) (Rn (fun H1 => MP D cI hm a1 a2 a3 a4 a5 a6 a7 a8 a9 a10 a11 (nI 1) S H1)) := by
  refine Mx.ofW (own := "FewBitsModel") rfl rfl ?_
  rintro p e s m below meth c ⟨hx, hb, hml, hr, hown, hW, hlk⟩ hnm het hH
  have hK := G.k hW
  have hD0 := hD
  obtain ⟨ki, ka, kb, zs, pu, ce, pa, tr, so, pl, ot, hP, hpic⟩ := hM
  have hD : va_D (Aa [hm, a1, a2, a3, a4, a5, a6, a7, a8, a9, a10, a11] H0.size) [(hm, .inr (4, [.int th, .ref a1, .ref a2, .ref a3, .ref a4, .ref a5, .ref a6, .ref a7, .ref a8, .ref a9, .ref a10, .ref a11])), (a1, aN cI 4 ki), (a2, aN cI 4 ka), (a3, aN cI 4 kb), (a4, aI cI 4 zs), (a5, aI cI 4 pu), (a6, aN cI 4096 ce), (a7, aN cI 1024 pa), (a8, aN cI 1024 tr), (a9, aI cI 256 so), (a10, aN cI 6 pl), (a11, aN cI 6 ot)] := va_D.same2 [hm, a1, a2, a3, a4, a5, a6, a7, a8, a9, a10, a11] (hD.aa (sz := H0.size)) rfl rfl
  have hS : va_S (Aa [hm, a1, a2, a3, a4, a5, a6, a7, a8, a9, a10, a11] H0.size) H0 H0 [] := va_S.rf
  have hl := lv_entry ([.ref hm, .int v, .int (nI 2), .int a, .int b]) (n := 6) (Nat.le_of_ble_eq_true rfl)
  rw [lg_entry_eq]
  generalize (lg_sl ([.ref hm, .int v, .int (nI 2), .int a, .int b]) ++ List.replicate (6 - (lg_sl ([.ref hm, .int v, .int (nI 2), .int a, .int b])).length) Slot.unset).toArray = ls at hl ⊢
  have hl : lv_has ls 6 [(0, .ref hm), (1, .int v), (2, .int (nI 2)), (3, .int a), (4, .int b)] := hl
  refine lv_iload_n hx hb d_M_make_0 rfl (lv_at hl 2 rfl) ?_
  refine lv_iconst (v := (nI 1)) hx hb d_M_make_1 (by decide) ?_
  refine lv_icmp_ne (tgt := 29) hx hb d_M_make_2 (by decide) (fun c_2 => ?_) (fun c_2 => absurd c_2 (by decide))
  refine lv_iload_n hx hb d_M_make_29 rfl (lv_at hl 2 rfl) ?_
  refine lv_iconst (v := (nI 2)) hx hb d_M_make_30 (by decide) ?_
  refine lv_icmp_ne (tgt := 58) hx hb d_M_make_31 (by decide) (fun c_31 => absurd (rfl) c_31) (fun c_31 => ?_)
  refine lv_iload_n hx hb d_M_make_34 rfl (lv_at hl 3 rfl) ?_
  refine lv_iconst (v := (nI 1)) hx hb d_M_make_35 (by decide) ?_
  refine lv_icmp_lt (tgt := 58) hx hb d_M_make_36 (by decide) (fun c_36 => ?_) (fun c_36 => ?_)
  · refine lv_iload_n hx hb d_M_make_58 rfl (lv_at hl 2 rfl) ?_
    refine lv_iconst (v := (nI 3)) hx hb d_M_make_59 (by decide) ?_
    refine lv_icmp_ne (tgt := 91) hx hb d_M_make_60 (by decide) (fun c_60 => ?_) (fun c_60 => absurd c_60 (by decide))
    refine lv_iconst (v := (nI 0)) hx hb d_M_make_91 (by decide) ?_
    refine lv_istore (lv' := [(5, .int (nI 0)), (0, .ref hm), (1, .int v), (2, .int (nI 2)), (3, .int a), (4, .int b)]) hx hb d_M_make_92 hl (by decide) rfl (fun ls hl => ?_)
    refine lv_aload_n hx hb d_M_make_94 rfl (lv_at hl 1 rfl) ?_
    refine lv_iload_n hx hb d_M_make_95 rfl (lv_at hl 2 rfl) ?_
    refine mx_callR (r := .int (bI (isNum v))) (c_M_isNumber G v) hW (iv_M_make_96 G hx hb hown hW [.int v] [.ref hm] rfl) hml hl.1 (by rw [hb]; exact d_M_make_96) (cd_M_isNumber G hW) ⟨Nat.le_of_ble_eq_true rfl, Nat.le_of_ble_eq_true rfl⟩ rfl rfl (Nat.le_of_ble_eq_true rfl) (Nat.le_of_ble_eq_true rfl) (Nat.le_of_ble_eq_true rfl) ?_
    refine tp_i (y := (bI false)) (by rw [hv]) ?_
    refine lv_if_ne (tgt := 106) hx hb d_M_make_99 (by decide) (fun c_99 => absurd (rfl) c_99) (fun c_99 => ?_)
    refine lv_iconst (v := (nI 1)) hx hb d_M_make_102 (by decide) ?_
    refine lv_goto (tgt := 116) hx hb d_M_make_103 (by decide) ?_
    refine va_put (D := D) (ci := 4) (v := .int (nI 1)) (ty := .int) (C := R_M) (T := T_M) (N := 12) hx hb (us_M G hW) (fun _ h => h) t_M to_M nm_M hown hK hP hD hS 0 rfl rfl 0 (by decide) (fl_M_43 G hW) (fun _ h9 => h9) rfl (by decide +kernel) rfl rfl (Nat.le_of_ble_eq_true rfl) d_M_make_116 (fun H locs hP hD hS => ?_)
    have hP : va_P D vcl [(hm, .inr (4, [.int (nI 1), .ref a1, .ref a2, .ref a3, .ref a4, .ref a5, .ref a6, .ref a7, .ref a8, .ref a9, .ref a10, .ref a11])), (a1, aN cI 4 ki), (a2, aN cI 4 ka), (a3, aN cI 4 kb), (a4, aI cI 4 zs), (a5, aI cI 4 pu), (a6, aN cI 4096 ce), (a7, aN cI 1024 pa), (a8, aN cI 1024 tr), (a9, aI cI 256 so), (a10, aN cI 6 pl), (a11, aN cI 6 ot)] H := hP
    have hD : va_D (Aa [hm, a1, a2, a3, a4, a5, a6, a7, a8, a9, a10, a11] H0.size) [(hm, .inr (4, [.int (nI 1), .ref a1, .ref a2, .ref a3, .ref a4, .ref a5, .ref a6, .ref a7, .ref a8, .ref a9, .ref a10, .ref a11])), (a1, aN cI 4 ki), (a2, aN cI 4 ka), (a3, aN cI 4 kb), (a4, aI cI 4 zs), (a5, aI cI 4 pu), (a6, aN cI 4096 ce), (a7, aN cI 1024 pa), (a8, aN cI 1024 tr), (a9, aI cI 256 so), (a10, aN cI 6 pl), (a11, aN cI 6 ot)] := hD
    refine lv_aload_n hx hb d_M_make_119 rfl (lv_at hl 1 rfl) ?_
    refine va_get (D := D) (ci := 4) (v := .int (nI 1)) (C := R_M) (T := T_M) (N := 12) hx hb (us_M G hW) (fun _ h => h) hown hK hP 0 rfl rfl 0 (by decide) (fl_M_43 G hW) (fun _ h9 => h9) rfl d_M_make_120 ?_
    refine lv_if_ne (tgt := 153) hx hb d_M_make_123 (by decide) (fun c_123 => ?_) (fun c_123 => absurd c_123 (by decide))
    exact mx_vret hx hb hr hlk d_M_make_153 (Nat.le_of_ble_eq_true rfl) (Nat.le_of_ble_eq_true rfl) hS.2.2 (⟨rfl, ki, ka, kb, zs, pu, ce, pa, tr, so, pl, ot, hP, hpic⟩)
  · refine lv_iload_n hx hb d_M_make_39 rfl (lv_at hl 3 rfl) ?_
    refine lv_bipush (v := (nI 8)) hx hb d_M_make_40 (by decide) ?_
    refine lv_icmp_gt (tgt := 58) hx hb d_M_make_42 (by decide) (fun c_42 => ?_) (fun c_42 => ?_)
    · refine lv_iload_n hx hb d_M_make_58 rfl (lv_at hl 2 rfl) ?_
      refine lv_iconst (v := (nI 3)) hx hb d_M_make_59 (by decide) ?_
      refine lv_icmp_ne (tgt := 91) hx hb d_M_make_60 (by decide) (fun c_60 => ?_) (fun c_60 => absurd c_60 (by decide))
      refine lv_iconst (v := (nI 0)) hx hb d_M_make_91 (by decide) ?_
      refine lv_istore (lv' := [(5, .int (nI 0)), (0, .ref hm), (1, .int v), (2, .int (nI 2)), (3, .int a), (4, .int b)]) hx hb d_M_make_92 hl (by decide) rfl (fun ls hl => ?_)
      refine lv_aload_n hx hb d_M_make_94 rfl (lv_at hl 1 rfl) ?_
      refine lv_iload_n hx hb d_M_make_95 rfl (lv_at hl 2 rfl) ?_
      refine mx_callR (r := .int (bI (isNum v))) (c_M_isNumber G v) hW (iv_M_make_96 G hx hb hown hW [.int v] [.ref hm] rfl) hml hl.1 (by rw [hb]; exact d_M_make_96) (cd_M_isNumber G hW) ⟨Nat.le_of_ble_eq_true rfl, Nat.le_of_ble_eq_true rfl⟩ rfl rfl (Nat.le_of_ble_eq_true rfl) (Nat.le_of_ble_eq_true rfl) (Nat.le_of_ble_eq_true rfl) ?_
      refine tp_i (y := (bI false)) (by rw [hv]) ?_
      refine lv_if_ne (tgt := 106) hx hb d_M_make_99 (by decide) (fun c_99 => absurd (rfl) c_99) (fun c_99 => ?_)
      refine lv_iconst (v := (nI 1)) hx hb d_M_make_102 (by decide) ?_
      refine lv_goto (tgt := 116) hx hb d_M_make_103 (by decide) ?_
      refine va_put (D := D) (ci := 4) (v := .int (nI 1)) (ty := .int) (C := R_M) (T := T_M) (N := 12) hx hb (us_M G hW) (fun _ h => h) t_M to_M nm_M hown hK hP hD hS 0 rfl rfl 0 (by decide) (fl_M_43 G hW) (fun _ h9 => h9) rfl (by decide +kernel) rfl rfl (Nat.le_of_ble_eq_true rfl) d_M_make_116 (fun H locs hP hD hS => ?_)
      have hP : va_P D vcl [(hm, .inr (4, [.int (nI 1), .ref a1, .ref a2, .ref a3, .ref a4, .ref a5, .ref a6, .ref a7, .ref a8, .ref a9, .ref a10, .ref a11])), (a1, aN cI 4 ki), (a2, aN cI 4 ka), (a3, aN cI 4 kb), (a4, aI cI 4 zs), (a5, aI cI 4 pu), (a6, aN cI 4096 ce), (a7, aN cI 1024 pa), (a8, aN cI 1024 tr), (a9, aI cI 256 so), (a10, aN cI 6 pl), (a11, aN cI 6 ot)] H := hP
      have hD : va_D (Aa [hm, a1, a2, a3, a4, a5, a6, a7, a8, a9, a10, a11] H0.size) [(hm, .inr (4, [.int (nI 1), .ref a1, .ref a2, .ref a3, .ref a4, .ref a5, .ref a6, .ref a7, .ref a8, .ref a9, .ref a10, .ref a11])), (a1, aN cI 4 ki), (a2, aN cI 4 ka), (a3, aN cI 4 kb), (a4, aI cI 4 zs), (a5, aI cI 4 pu), (a6, aN cI 4096 ce), (a7, aN cI 1024 pa), (a8, aN cI 1024 tr), (a9, aI cI 256 so), (a10, aN cI 6 pl), (a11, aN cI 6 ot)] := hD
      refine lv_aload_n hx hb d_M_make_119 rfl (lv_at hl 1 rfl) ?_
      refine va_get (D := D) (ci := 4) (v := .int (nI 1)) (C := R_M) (T := T_M) (N := 12) hx hb (us_M G hW) (fun _ h => h) hown hK hP 0 rfl rfl 0 (by decide) (fl_M_43 G hW) (fun _ h9 => h9) rfl d_M_make_120 ?_
      refine lv_if_ne (tgt := 153) hx hb d_M_make_123 (by decide) (fun c_123 => ?_) (fun c_123 => absurd c_123 (by decide))
      exact mx_vret hx hb hr hlk d_M_make_153 (Nat.le_of_ble_eq_true rfl) (Nat.le_of_ble_eq_true rfl) hS.2.2 (⟨rfl, ki, ka, kb, zs, pu, ce, pa, tr, so, pl, ot, hP, hpic⟩)
    · refine lv_iload hx hb d_M_make_45 (lv_at hl 4 rfl) ?_
      refine lv_iconst (v := (nI 4)) hx hb d_M_make_47 (by decide) ?_
      refine lv_icmp_lt (tgt := 58) hx hb d_M_make_48 (by decide) (fun c_48 => ?_) (fun c_48 => ?_)
      · refine lv_iload_n hx hb d_M_make_58 rfl (lv_at hl 2 rfl) ?_
        refine lv_iconst (v := (nI 3)) hx hb d_M_make_59 (by decide) ?_
        refine lv_icmp_ne (tgt := 91) hx hb d_M_make_60 (by decide) (fun c_60 => ?_) (fun c_60 => absurd c_60 (by decide))
        refine lv_iconst (v := (nI 0)) hx hb d_M_make_91 (by decide) ?_
        refine lv_istore (lv' := [(5, .int (nI 0)), (0, .ref hm), (1, .int v), (2, .int (nI 2)), (3, .int a), (4, .int b)]) hx hb d_M_make_92 hl (by decide) rfl (fun ls hl => ?_)
        refine lv_aload_n hx hb d_M_make_94 rfl (lv_at hl 1 rfl) ?_
        refine lv_iload_n hx hb d_M_make_95 rfl (lv_at hl 2 rfl) ?_
        refine mx_callR (r := .int (bI (isNum v))) (c_M_isNumber G v) hW (iv_M_make_96 G hx hb hown hW [.int v] [.ref hm] rfl) hml hl.1 (by rw [hb]; exact d_M_make_96) (cd_M_isNumber G hW) ⟨Nat.le_of_ble_eq_true rfl, Nat.le_of_ble_eq_true rfl⟩ rfl rfl (Nat.le_of_ble_eq_true rfl) (Nat.le_of_ble_eq_true rfl) (Nat.le_of_ble_eq_true rfl) ?_
        refine tp_i (y := (bI false)) (by rw [hv]) ?_
        refine lv_if_ne (tgt := 106) hx hb d_M_make_99 (by decide) (fun c_99 => absurd (rfl) c_99) (fun c_99 => ?_)
        refine lv_iconst (v := (nI 1)) hx hb d_M_make_102 (by decide) ?_
        refine lv_goto (tgt := 116) hx hb d_M_make_103 (by decide) ?_
        refine va_put (D := D) (ci := 4) (v := .int (nI 1)) (ty := .int) (C := R_M) (T := T_M) (N := 12) hx hb (us_M G hW) (fun _ h => h) t_M to_M nm_M hown hK hP hD hS 0 rfl rfl 0 (by decide) (fl_M_43 G hW) (fun _ h9 => h9) rfl (by decide +kernel) rfl rfl (Nat.le_of_ble_eq_true rfl) d_M_make_116 (fun H locs hP hD hS => ?_)
        have hP : va_P D vcl [(hm, .inr (4, [.int (nI 1), .ref a1, .ref a2, .ref a3, .ref a4, .ref a5, .ref a6, .ref a7, .ref a8, .ref a9, .ref a10, .ref a11])), (a1, aN cI 4 ki), (a2, aN cI 4 ka), (a3, aN cI 4 kb), (a4, aI cI 4 zs), (a5, aI cI 4 pu), (a6, aN cI 4096 ce), (a7, aN cI 1024 pa), (a8, aN cI 1024 tr), (a9, aI cI 256 so), (a10, aN cI 6 pl), (a11, aN cI 6 ot)] H := hP
        have hD : va_D (Aa [hm, a1, a2, a3, a4, a5, a6, a7, a8, a9, a10, a11] H0.size) [(hm, .inr (4, [.int (nI 1), .ref a1, .ref a2, .ref a3, .ref a4, .ref a5, .ref a6, .ref a7, .ref a8, .ref a9, .ref a10, .ref a11])), (a1, aN cI 4 ki), (a2, aN cI 4 ka), (a3, aN cI 4 kb), (a4, aI cI 4 zs), (a5, aI cI 4 pu), (a6, aN cI 4096 ce), (a7, aN cI 1024 pa), (a8, aN cI 1024 tr), (a9, aI cI 256 so), (a10, aN cI 6 pl), (a11, aN cI 6 ot)] := hD
        refine lv_aload_n hx hb d_M_make_119 rfl (lv_at hl 1 rfl) ?_
        refine va_get (D := D) (ci := 4) (v := .int (nI 1)) (C := R_M) (T := T_M) (N := 12) hx hb (us_M G hW) (fun _ h => h) hown hK hP 0 rfl rfl 0 (by decide) (fl_M_43 G hW) (fun _ h9 => h9) rfl d_M_make_120 ?_
        refine lv_if_ne (tgt := 153) hx hb d_M_make_123 (by decide) (fun c_123 => ?_) (fun c_123 => absurd c_123 (by decide))
        exact mx_vret hx hb hr hlk d_M_make_153 (Nat.le_of_ble_eq_true rfl) (Nat.le_of_ble_eq_true rfl) hS.2.2 (⟨rfl, ki, ka, kb, zs, pu, ce, pa, tr, so, pl, ot, hP, hpic⟩)
      · refine lv_iload hx hb d_M_make_51 (lv_at hl 4 rfl) ?_
        refine lv_bipush (v := (nI 16)) hx hb d_M_make_53 (by decide) ?_
        refine lv_icmp_le (tgt := 87) hx hb d_M_make_55 (by decide) (fun c_55 => ?_) (fun c_55 => ?_)
        · refine lv_iconst (v := (nI 1)) hx hb d_M_make_87 (by decide) ?_
          refine lv_goto (tgt := 92) hx hb d_M_make_88 (by decide) ?_
          refine lv_istore (lv' := [(5, .int (nI 1)), (0, .ref hm), (1, .int v), (2, .int (nI 2)), (3, .int a), (4, .int b)]) hx hb d_M_make_92 hl (by decide) rfl (fun ls hl => ?_)
          refine lv_aload_n hx hb d_M_make_94 rfl (lv_at hl 1 rfl) ?_
          refine lv_iload_n hx hb d_M_make_95 rfl (lv_at hl 2 rfl) ?_
          refine mx_callR (r := .int (bI (isNum v))) (c_M_isNumber G v) hW (iv_M_make_96 G hx hb hown hW [.int v] [.ref hm] rfl) hml hl.1 (by rw [hb]; exact d_M_make_96) (cd_M_isNumber G hW) ⟨Nat.le_of_ble_eq_true rfl, Nat.le_of_ble_eq_true rfl⟩ rfl rfl (Nat.le_of_ble_eq_true rfl) (Nat.le_of_ble_eq_true rfl) (Nat.le_of_ble_eq_true rfl) ?_
          refine tp_i (y := (bI false)) (by rw [hv]) ?_
          refine lv_if_ne (tgt := 106) hx hb d_M_make_99 (by decide) (fun c_99 => absurd (rfl) c_99) (fun c_99 => ?_)
          refine lv_iconst (v := (nI 1)) hx hb d_M_make_102 (by decide) ?_
          refine lv_goto (tgt := 116) hx hb d_M_make_103 (by decide) ?_
          refine va_put (D := D) (ci := 4) (v := .int (nI 1)) (ty := .int) (C := R_M) (T := T_M) (N := 12) hx hb (us_M G hW) (fun _ h => h) t_M to_M nm_M hown hK hP hD hS 0 rfl rfl 0 (by decide) (fl_M_43 G hW) (fun _ h9 => h9) rfl (by decide +kernel) rfl rfl (Nat.le_of_ble_eq_true rfl) d_M_make_116 (fun H locs hP hD hS => ?_)
          have hP : va_P D vcl [(hm, .inr (4, [.int (nI 1), .ref a1, .ref a2, .ref a3, .ref a4, .ref a5, .ref a6, .ref a7, .ref a8, .ref a9, .ref a10, .ref a11])), (a1, aN cI 4 ki), (a2, aN cI 4 ka), (a3, aN cI 4 kb), (a4, aI cI 4 zs), (a5, aI cI 4 pu), (a6, aN cI 4096 ce), (a7, aN cI 1024 pa), (a8, aN cI 1024 tr), (a9, aI cI 256 so), (a10, aN cI 6 pl), (a11, aN cI 6 ot)] H := hP
          have hD : va_D (Aa [hm, a1, a2, a3, a4, a5, a6, a7, a8, a9, a10, a11] H0.size) [(hm, .inr (4, [.int (nI 1), .ref a1, .ref a2, .ref a3, .ref a4, .ref a5, .ref a6, .ref a7, .ref a8, .ref a9, .ref a10, .ref a11])), (a1, aN cI 4 ki), (a2, aN cI 4 ka), (a3, aN cI 4 kb), (a4, aI cI 4 zs), (a5, aI cI 4 pu), (a6, aN cI 4096 ce), (a7, aN cI 1024 pa), (a8, aN cI 1024 tr), (a9, aI cI 256 so), (a10, aN cI 6 pl), (a11, aN cI 6 ot)] := hD
          refine lv_aload_n hx hb d_M_make_119 rfl (lv_at hl 1 rfl) ?_
          refine va_get (D := D) (ci := 4) (v := .int (nI 1)) (C := R_M) (T := T_M) (N := 12) hx hb (us_M G hW) (fun _ h => h) hown hK hP 0 rfl rfl 0 (by decide) (fl_M_43 G hW) (fun _ h9 => h9) rfl d_M_make_120 ?_
          refine lv_if_ne (tgt := 153) hx hb d_M_make_123 (by decide) (fun c_123 => ?_) (fun c_123 => absurd c_123 (by decide))
          exact mx_vret hx hb hr hlk d_M_make_153 (Nat.le_of_ble_eq_true rfl) (Nat.le_of_ble_eq_true rfl) hS.2.2 (⟨rfl, ki, ka, kb, zs, pu, ce, pa, tr, so, pl, ot, hP, hpic⟩)
        · refine lv_iload_n hx hb d_M_make_58 rfl (lv_at hl 2 rfl) ?_
          refine lv_iconst (v := (nI 3)) hx hb d_M_make_59 (by decide) ?_
          refine lv_icmp_ne (tgt := 91) hx hb d_M_make_60 (by decide) (fun c_60 => ?_) (fun c_60 => absurd c_60 (by decide))
          refine lv_iconst (v := (nI 0)) hx hb d_M_make_91 (by decide) ?_
          refine lv_istore (lv' := [(5, .int (nI 0)), (0, .ref hm), (1, .int v), (2, .int (nI 2)), (3, .int a), (4, .int b)]) hx hb d_M_make_92 hl (by decide) rfl (fun ls hl => ?_)
          refine lv_aload_n hx hb d_M_make_94 rfl (lv_at hl 1 rfl) ?_
          refine lv_iload_n hx hb d_M_make_95 rfl (lv_at hl 2 rfl) ?_
          refine mx_callR (r := .int (bI (isNum v))) (c_M_isNumber G v) hW (iv_M_make_96 G hx hb hown hW [.int v] [.ref hm] rfl) hml hl.1 (by rw [hb]; exact d_M_make_96) (cd_M_isNumber G hW) ⟨Nat.le_of_ble_eq_true rfl, Nat.le_of_ble_eq_true rfl⟩ rfl rfl (Nat.le_of_ble_eq_true rfl) (Nat.le_of_ble_eq_true rfl) (Nat.le_of_ble_eq_true rfl) ?_
          refine tp_i (y := (bI false)) (by rw [hv]) ?_
          refine lv_if_ne (tgt := 106) hx hb d_M_make_99 (by decide) (fun c_99 => absurd (rfl) c_99) (fun c_99 => ?_)
          refine lv_iconst (v := (nI 1)) hx hb d_M_make_102 (by decide) ?_
          refine lv_goto (tgt := 116) hx hb d_M_make_103 (by decide) ?_
          refine va_put (D := D) (ci := 4) (v := .int (nI 1)) (ty := .int) (C := R_M) (T := T_M) (N := 12) hx hb (us_M G hW) (fun _ h => h) t_M to_M nm_M hown hK hP hD hS 0 rfl rfl 0 (by decide) (fl_M_43 G hW) (fun _ h9 => h9) rfl (by decide +kernel) rfl rfl (Nat.le_of_ble_eq_true rfl) d_M_make_116 (fun H locs hP hD hS => ?_)
          have hP : va_P D vcl [(hm, .inr (4, [.int (nI 1), .ref a1, .ref a2, .ref a3, .ref a4, .ref a5, .ref a6, .ref a7, .ref a8, .ref a9, .ref a10, .ref a11])), (a1, aN cI 4 ki), (a2, aN cI 4 ka), (a3, aN cI 4 kb), (a4, aI cI 4 zs), (a5, aI cI 4 pu), (a6, aN cI 4096 ce), (a7, aN cI 1024 pa), (a8, aN cI 1024 tr), (a9, aI cI 256 so), (a10, aN cI 6 pl), (a11, aN cI 6 ot)] H := hP
          have hD : va_D (Aa [hm, a1, a2, a3, a4, a5, a6, a7, a8, a9, a10, a11] H0.size) [(hm, .inr (4, [.int (nI 1), .ref a1, .ref a2, .ref a3, .ref a4, .ref a5, .ref a6, .ref a7, .ref a8, .ref a9, .ref a10, .ref a11])), (a1, aN cI 4 ki), (a2, aN cI 4 ka), (a3, aN cI 4 kb), (a4, aI cI 4 zs), (a5, aI cI 4 pu), (a6, aN cI 4096 ce), (a7, aN cI 1024 pa), (a8, aN cI 1024 tr), (a9, aI cI 256 so), (a10, aN cI 6 pl), (a11, aN cI 6 ot)] := hD
          refine lv_aload_n hx hb d_M_make_119 rfl (lv_at hl 1 rfl) ?_
          refine va_get (D := D) (ci := 4) (v := .int (nI 1)) (C := R_M) (T := T_M) (N := 12) hx hb (us_M G hW) (fun _ h => h) hown hK hP 0 rfl rfl 0 (by decide) (fl_M_43 G hW) (fun _ h9 => h9) rfl d_M_make_120 ?_
          refine lv_if_ne (tgt := 153) hx hb d_M_make_123 (by decide) (fun c_123 => ?_) (fun c_123 => absurd c_123 (by decide))
          exact mx_vret hx hb hr hlk d_M_make_153 (Nat.le_of_ble_eq_true rfl) (Nat.le_of_ble_eq_true rfl) hS.2.2 (⟨rfl, ki, ka, kb, zs, pu, ce, pa, tr, so, pl, ot, hP, hpic⟩)

set_option maxHeartbeats 4000000 in
set_option maxRecDepth 100000 in
theorem c_M_make_bad_2 {l : Launch} {s0 : State} {D : va_G} {cI cF cJ : ClassId} (G : Gx l s0 D cI cF cJ) (hm a1 a2 a3 a4 a5 a6 a7 a8 a9 a10 a11 : Nat) (th : Int32) (S : Nat → FS) (j : Nat) (a b : Int32) {H0 : Heap} {A0 : Nat → Prop} (hM : MP D cI hm a1 a2 a3 a4 a5 a6 a7 a8 a9 a10 a11 th S H0) (hD : va_D A0 (adM hm a1 a2 a3 a4 a5 a6 a7 a8 a9 a10 a11)) (hok : ∀ i, i < 4 → okS (S i)) (hj : j < 4) (hm9 : mbS (nI 2) a b = false) : Mx l s0 y_M_make (.code y_M_make b_M_make 6 none) { frames := 7, cells := 0, slots := 0, locals := 170 } [.ref hm, .int (nI j), .int (nI 2), .int a, .int b] H0 (Aa [hm, a1, a2, a3, a4, a5, a6, a7, a8, a9, a10, a11] H0.size) (Rn (fun H1 => MP D cI hm a1 a2 a3 a4 a5 a6 a7 a8 a9 a10 a11 (nI 2) S H1)) := by
  refine Mx.ofW (own := "FewBitsModel") rfl rfl ?_
  rintro p e s m below meth c ⟨hx, hb, hml, hr, hown, hW, hlk⟩ hnm het hH
  have hK := G.k hW
  have hD0 := hD
  obtain ⟨ki, ka, kb, zs, pu, ce, pa, tr, so, pl, ot, hP, hpic⟩ := hM
  have hD : va_D (Aa [hm, a1, a2, a3, a4, a5, a6, a7, a8, a9, a10, a11] H0.size) [(hm, .inr (4, [.int th, .ref a1, .ref a2, .ref a3, .ref a4, .ref a5, .ref a6, .ref a7, .ref a8, .ref a9, .ref a10, .ref a11])), (a1, aN cI 4 ki), (a2, aN cI 4 ka), (a3, aN cI 4 kb), (a4, aI cI 4 zs), (a5, aI cI 4 pu), (a6, aN cI 4096 ce), (a7, aN cI 1024 pa), (a8, aN cI 1024 tr), (a9, aI cI 256 so), (a10, aN cI 6 pl), (a11, aN cI 6 ot)] := va_D.same2 [hm, a1, a2, a3, a4, a5, a6, a7, a8, a9, a10, a11] (hD.aa (sz := H0.size)) rfl rfl
  have hS : va_S (Aa [hm, a1, a2, a3, a4, a5, a6, a7, a8, a9, a10, a11] H0.size) H0 H0 [] := va_S.rf
  have hl := lv_entry ([.ref hm, .int (nI j), .int (nI 2), .int a, .int b]) (n := 6) (Nat.le_of_ble_eq_true rfl)
  rw [lg_entry_eq]
  generalize (lg_sl ([.ref hm, .int (nI j), .int (nI 2), .int a, .int b]) ++ List.replicate (6 - (lg_sl ([.ref hm, .int (nI j), .int (nI 2), .int a, .int b])).length) Slot.unset).toArray = ls at hl ⊢
  have hl : lv_has ls 6 [(0, .ref hm), (1, .int (nI j)), (2, .int (nI 2)), (3, .int a), (4, .int b)] := hl
  refine lv_iload_n hx hb d_M_make_0 rfl (lv_at hl 2 rfl) ?_
  refine lv_iconst (v := (nI 1)) hx hb d_M_make_1 (by decide) ?_
  refine lv_icmp_ne (tgt := 29) hx hb d_M_make_2 (by decide) (fun c_2 => ?_) (fun c_2 => absurd c_2 (by decide))
  refine lv_iload_n hx hb d_M_make_29 rfl (lv_at hl 2 rfl) ?_
  refine lv_iconst (v := (nI 2)) hx hb d_M_make_30 (by decide) ?_
  refine lv_icmp_ne (tgt := 58) hx hb d_M_make_31 (by decide) (fun c_31 => absurd (rfl) c_31) (fun c_31 => ?_)
  refine lv_iload_n hx hb d_M_make_34 rfl (lv_at hl 3 rfl) ?_
  refine lv_iconst (v := (nI 1)) hx hb d_M_make_35 (by decide) ?_
  refine lv_icmp_lt (tgt := 58) hx hb d_M_make_36 (by decide) (fun c_36 => ?_) (fun c_36 => ?_)
  · refine lv_iload_n hx hb d_M_make_58 rfl (lv_at hl 2 rfl) ?_
    refine lv_iconst (v := (nI 3)) hx hb d_M_make_59 (by decide) ?_
    refine lv_icmp_ne (tgt := 91) hx hb d_M_make_60 (by decide) (fun c_60 => ?_) (fun c_60 => absurd c_60 (by decide))
    refine lv_iconst (v := (nI 0)) hx hb d_M_make_91 (by decide) ?_
    refine lv_istore (lv' := [(5, .int (nI 0)), (0, .ref hm), (1, .int (nI j)), (2, .int (nI 2)), (3, .int a), (4, .int b)]) hx hb d_M_make_92 hl (by decide) rfl (fun ls hl => ?_)
    refine lv_aload_n hx hb d_M_make_94 rfl (lv_at hl 1 rfl) ?_
    refine lv_iload_n hx hb d_M_make_95 rfl (lv_at hl 2 rfl) ?_
    refine mx_callR (r := .int (bI (isNum (nI j)))) (c_M_isNumber G (nI j)) hW (iv_M_make_96 G hx hb hown hW [.int (nI j)] [.ref hm] rfl) hml hl.1 (by rw [hb]; exact d_M_make_96) (cd_M_isNumber G hW) ⟨Nat.le_of_ble_eq_true rfl, Nat.le_of_ble_eq_true rfl⟩ rfl rfl (Nat.le_of_ble_eq_true rfl) (Nat.le_of_ble_eq_true rfl) (Nat.le_of_ble_eq_true rfl) ?_
    refine tp_i (y := (bI true)) (by rw [isNum_nI hj]) ?_
    refine lv_if_ne (tgt := 106) hx hb d_M_make_99 (by decide) (fun c_99 => ?_) (fun c_99 => absurd c_99 (by decide))
    refine lv_iload hx hb d_M_make_106 (lv_at hl 0 rfl) ?_
    refine lv_if_ne (tgt := 115) hx hb d_M_make_108 (by decide) (fun c_108 => absurd (rfl) c_108) (fun c_108 => ?_)
    refine lv_iconst (v := (nI 2)) hx hb d_M_make_111 (by decide) ?_
    refine lv_goto (tgt := 116) hx hb d_M_make_112 (by decide) ?_
    refine va_put (D := D) (ci := 4) (v := .int (nI 2)) (ty := .int) (C := R_M) (T := T_M) (N := 12) hx hb (us_M G hW) (fun _ h => h) t_M to_M nm_M hown hK hP hD hS 0 rfl rfl 0 (by decide) (fl_M_43 G hW) (fun _ h9 => h9) rfl (by decide +kernel) rfl rfl (Nat.le_of_ble_eq_true rfl) d_M_make_116 (fun H locs hP hD hS => ?_)
    have hP : va_P D vcl [(hm, .inr (4, [.int (nI 2), .ref a1, .ref a2, .ref a3, .ref a4, .ref a5, .ref a6, .ref a7, .ref a8, .ref a9, .ref a10, .ref a11])), (a1, aN cI 4 ki), (a2, aN cI 4 ka), (a3, aN cI 4 kb), (a4, aI cI 4 zs), (a5, aI cI 4 pu), (a6, aN cI 4096 ce), (a7, aN cI 1024 pa), (a8, aN cI 1024 tr), (a9, aI cI 256 so), (a10, aN cI 6 pl), (a11, aN cI 6 ot)] H := hP
    have hD : va_D (Aa [hm, a1, a2, a3, a4, a5, a6, a7, a8, a9, a10, a11] H0.size) [(hm, .inr (4, [.int (nI 2), .ref a1, .ref a2, .ref a3, .ref a4, .ref a5, .ref a6, .ref a7, .ref a8, .ref a9, .ref a10, .ref a11])), (a1, aN cI 4 ki), (a2, aN cI 4 ka), (a3, aN cI 4 kb), (a4, aI cI 4 zs), (a5, aI cI 4 pu), (a6, aN cI 4096 ce), (a7, aN cI 1024 pa), (a8, aN cI 1024 tr), (a9, aI cI 256 so), (a10, aN cI 6 pl), (a11, aN cI 6 ot)] := hD
    refine lv_aload_n hx hb d_M_make_119 rfl (lv_at hl 1 rfl) ?_
    refine va_get (D := D) (ci := 4) (v := .int (nI 2)) (C := R_M) (T := T_M) (N := 12) hx hb (us_M G hW) (fun _ h => h) hown hK hP 0 rfl rfl 0 (by decide) (fl_M_43 G hW) (fun _ h9 => h9) rfl d_M_make_120 ?_
    refine lv_if_ne (tgt := 153) hx hb d_M_make_123 (by decide) (fun c_123 => ?_) (fun c_123 => absurd c_123 (by decide))
    exact mx_vret hx hb hr hlk d_M_make_153 (Nat.le_of_ble_eq_true rfl) (Nat.le_of_ble_eq_true rfl) hS.2.2 (⟨rfl, ki, ka, kb, zs, pu, ce, pa, tr, so, pl, ot, hP, hpic⟩)
  · refine lv_iload_n hx hb d_M_make_39 rfl (lv_at hl 3 rfl) ?_
    refine lv_bipush (v := (nI 8)) hx hb d_M_make_40 (by decide) ?_
    refine lv_icmp_gt (tgt := 58) hx hb d_M_make_42 (by decide) (fun c_42 => ?_) (fun c_42 => ?_)
    · refine lv_iload_n hx hb d_M_make_58 rfl (lv_at hl 2 rfl) ?_
      refine lv_iconst (v := (nI 3)) hx hb d_M_make_59 (by decide) ?_
      refine lv_icmp_ne (tgt := 91) hx hb d_M_make_60 (by decide) (fun c_60 => ?_) (fun c_60 => absurd c_60 (by decide))
      refine lv_iconst (v := (nI 0)) hx hb d_M_make_91 (by decide) ?_
      refine lv_istore (lv' := [(5, .int (nI 0)), (0, .ref hm), (1, .int (nI j)), (2, .int (nI 2)), (3, .int a), (4, .int b)]) hx hb d_M_make_92 hl (by decide) rfl (fun ls hl => ?_)
      refine lv_aload_n hx hb d_M_make_94 rfl (lv_at hl 1 rfl) ?_
      refine lv_iload_n hx hb d_M_make_95 rfl (lv_at hl 2 rfl) ?_
      refine mx_callR (r := .int (bI (isNum (nI j)))) (c_M_isNumber G (nI j)) hW (iv_M_make_96 G hx hb hown hW [.int (nI j)] [.ref hm] rfl) hml hl.1 (by rw [hb]; exact d_M_make_96) (cd_M_isNumber G hW) ⟨Nat.le_of_ble_eq_true rfl, Nat.le_of_ble_eq_true rfl⟩ rfl rfl (Nat.le_of_ble_eq_true rfl) (Nat.le_of_ble_eq_true rfl) (Nat.le_of_ble_eq_true rfl) ?_
      refine tp_i (y := (bI true)) (by rw [isNum_nI hj]) ?_
      refine lv_if_ne (tgt := 106) hx hb d_M_make_99 (by decide) (fun c_99 => ?_) (fun c_99 => absurd c_99 (by decide))
      refine lv_iload hx hb d_M_make_106 (lv_at hl 0 rfl) ?_
      refine lv_if_ne (tgt := 115) hx hb d_M_make_108 (by decide) (fun c_108 => absurd (rfl) c_108) (fun c_108 => ?_)
      refine lv_iconst (v := (nI 2)) hx hb d_M_make_111 (by decide) ?_
      refine lv_goto (tgt := 116) hx hb d_M_make_112 (by decide) ?_
      refine va_put (D := D) (ci := 4) (v := .int (nI 2)) (ty := .int) (C := R_M) (T := T_M) (N := 12) hx hb (us_M G hW) (fun _ h => h) t_M to_M nm_M hown hK hP hD hS 0 rfl rfl 0 (by decide) (fl_M_43 G hW) (fun _ h9 => h9) rfl (by decide +kernel) rfl rfl (Nat.le_of_ble_eq_true rfl) d_M_make_116 (fun H locs hP hD hS => ?_)
      have hP : va_P D vcl [(hm, .inr (4, [.int (nI 2), .ref a1, .ref a2, .ref a3, .ref a4, .ref a5, .ref a6, .ref a7, .ref a8, .ref a9, .ref a10, .ref a11])), (a1, aN cI 4 ki), (a2, aN cI 4 ka), (a3, aN cI 4 kb), (a4, aI cI 4 zs), (a5, aI cI 4 pu), (a6, aN cI 4096 ce), (a7, aN cI 1024 pa), (a8, aN cI 1024 tr), (a9, aI cI 256 so), (a10, aN cI 6 pl), (a11, aN cI 6 ot)] H := hP
      have hD : va_D (Aa [hm, a1, a2, a3, a4, a5, a6, a7, a8, a9, a10, a11] H0.size) [(hm, .inr (4, [.int (nI 2), .ref a1, .ref a2, .ref a3, .ref a4, .ref a5, .ref a6, .ref a7, .ref a8, .ref a9, .ref a10, .ref a11])), (a1, aN cI 4 ki), (a2, aN cI 4 ka), (a3, aN cI 4 kb), (a4, aI cI 4 zs), (a5, aI cI 4 pu), (a6, aN cI 4096 ce), (a7, aN cI 1024 pa), (a8, aN cI 1024 tr), (a9, aI cI 256 so), (a10, aN cI 6 pl), (a11, aN cI 6 ot)] := hD
      refine lv_aload_n hx hb d_M_make_119 rfl (lv_at hl 1 rfl) ?_
      refine va_get (D := D) (ci := 4) (v := .int (nI 2)) (C := R_M) (T := T_M) (N := 12) hx hb (us_M G hW) (fun _ h => h) hown hK hP 0 rfl rfl 0 (by decide) (fl_M_43 G hW) (fun _ h9 => h9) rfl d_M_make_120 ?_
      refine lv_if_ne (tgt := 153) hx hb d_M_make_123 (by decide) (fun c_123 => ?_) (fun c_123 => absurd c_123 (by decide))
      exact mx_vret hx hb hr hlk d_M_make_153 (Nat.le_of_ble_eq_true rfl) (Nat.le_of_ble_eq_true rfl) hS.2.2 (⟨rfl, ki, ka, kb, zs, pu, ce, pa, tr, so, pl, ot, hP, hpic⟩)
    · refine lv_iload hx hb d_M_make_45 (lv_at hl 4 rfl) ?_
      refine lv_iconst (v := (nI 4)) hx hb d_M_make_47 (by decide) ?_
      refine lv_icmp_lt (tgt := 58) hx hb d_M_make_48 (by decide) (fun c_48 => ?_) (fun c_48 => ?_)
      · refine lv_iload_n hx hb d_M_make_58 rfl (lv_at hl 2 rfl) ?_
        refine lv_iconst (v := (nI 3)) hx hb d_M_make_59 (by decide) ?_
        refine lv_icmp_ne (tgt := 91) hx hb d_M_make_60 (by decide) (fun c_60 => ?_) (fun c_60 => absurd c_60 (by decide))
        refine lv_iconst (v := (nI 0)) hx hb d_M_make_91 (by decide) ?_
        refine lv_istore (lv' := [(5, .int (nI 0)), (0, .ref hm), (1, .int (nI j)), (2, .int (nI 2)), (3, .int a), (4, .int b)]) hx hb d_M_make_92 hl (by decide) rfl (fun ls hl => ?_)
        refine lv_aload_n hx hb d_M_make_94 rfl (lv_at hl 1 rfl) ?_
        refine lv_iload_n hx hb d_M_make_95 rfl (lv_at hl 2 rfl) ?_
        refine mx_callR (r := .int (bI (isNum (nI j)))) (c_M_isNumber G (nI j)) hW (iv_M_make_96 G hx hb hown hW [.int (nI j)] [.ref hm] rfl) hml hl.1 (by rw [hb]; exact d_M_make_96) (cd_M_isNumber G hW) ⟨Nat.le_of_ble_eq_true rfl, Nat.le_of_ble_eq_true rfl⟩ rfl rfl (Nat.le_of_ble_eq_true rfl) (Nat.le_of_ble_eq_true rfl) (Nat.le_of_ble_eq_true rfl) ?_
        refine tp_i (y := (bI true)) (by rw [isNum_nI hj]) ?_
        refine lv_if_ne (tgt := 106) hx hb d_M_make_99 (by decide) (fun c_99 => ?_) (fun c_99 => absurd c_99 (by decide))
        refine lv_iload hx hb d_M_make_106 (lv_at hl 0 rfl) ?_
        refine lv_if_ne (tgt := 115) hx hb d_M_make_108 (by decide) (fun c_108 => absurd (rfl) c_108) (fun c_108 => ?_)
        refine lv_iconst (v := (nI 2)) hx hb d_M_make_111 (by decide) ?_
        refine lv_goto (tgt := 116) hx hb d_M_make_112 (by decide) ?_
        refine va_put (D := D) (ci := 4) (v := .int (nI 2)) (ty := .int) (C := R_M) (T := T_M) (N := 12) hx hb (us_M G hW) (fun _ h => h) t_M to_M nm_M hown hK hP hD hS 0 rfl rfl 0 (by decide) (fl_M_43 G hW) (fun _ h9 => h9) rfl (by decide +kernel) rfl rfl (Nat.le_of_ble_eq_true rfl) d_M_make_116 (fun H locs hP hD hS => ?_)
        have hP : va_P D vcl [(hm, .inr (4, [.int (nI 2), .ref a1, .ref a2, .ref a3, .ref a4, .ref a5, .ref a6, .ref a7, .ref a8, .ref a9, .ref a10, .ref a11])), (a1, aN cI 4 ki), (a2, aN cI 4 ka), (a3, aN cI 4 kb), (a4, aI cI 4 zs), (a5, aI cI 4 pu), (a6, aN cI 4096 ce), (a7, aN cI 1024 pa), (a8, aN cI 1024 tr), (a9, aI cI 256 so), (a10, aN cI 6 pl), (a11, aN cI 6 ot)] H := hP
        have hD : va_D (Aa [hm, a1, a2, a3, a4, a5, a6, a7, a8, a9, a10, a11] H0.size) [(hm, .inr (4, [.int (nI 2), .ref a1, .ref a2, .ref a3, .ref a4, .ref a5, .ref a6, .ref a7, .ref a8, .ref a9, .ref a10, .ref a11])), (a1, aN cI 4 ki), (a2, aN cI 4 ka), (a3, aN cI 4 kb), (a4, aI cI 4 zs), (a5, aI cI 4 pu), (a6, aN cI 4096 ce), (a7, aN cI 1024 pa), (a8, aN cI 1024 tr), (a9, aI cI 256 so), (a10, aN cI 6 pl), (a11, aN cI 6 ot)] := hD
        refine lv_aload_n hx hb d_M_make_119 rfl (lv_at hl 1 rfl) ?_
        refine va_get (D := D) (ci := 4) (v := .int (nI 2)) (C := R_M) (T := T_M) (N := 12) hx hb (us_M G hW) (fun _ h => h) hown hK hP 0 rfl rfl 0 (by decide) (fl_M_43 G hW) (fun _ h9 => h9) rfl d_M_make_120 ?_
        refine lv_if_ne (tgt := 153) hx hb d_M_make_123 (by decide) (fun c_123 => ?_) (fun c_123 => absurd c_123 (by decide))
        exact mx_vret hx hb hr hlk d_M_make_153 (Nat.le_of_ble_eq_true rfl) (Nat.le_of_ble_eq_true rfl) hS.2.2 (⟨rfl, ki, ka, kb, zs, pu, ce, pa, tr, so, pl, ot, hP, hpic⟩)
      · refine lv_iload hx hb d_M_make_51 (lv_at hl 4 rfl) ?_
        refine lv_bipush (v := (nI 16)) hx hb d_M_make_53 (by decide) ?_
        refine lv_icmp_le (tgt := 87) hx hb d_M_make_55 (by decide) (fun c_55 => absurd c_55 (fun h9 => mb_2 hm9 c_36 c_42 c_48 h9)) (fun c_55 => ?_)
        refine lv_iload_n hx hb d_M_make_58 rfl (lv_at hl 2 rfl) ?_
        refine lv_iconst (v := (nI 3)) hx hb d_M_make_59 (by decide) ?_
        refine lv_icmp_ne (tgt := 91) hx hb d_M_make_60 (by decide) (fun c_60 => ?_) (fun c_60 => absurd c_60 (by decide))
        refine lv_iconst (v := (nI 0)) hx hb d_M_make_91 (by decide) ?_
        refine lv_istore (lv' := [(5, .int (nI 0)), (0, .ref hm), (1, .int (nI j)), (2, .int (nI 2)), (3, .int a), (4, .int b)]) hx hb d_M_make_92 hl (by decide) rfl (fun ls hl => ?_)
        refine lv_aload_n hx hb d_M_make_94 rfl (lv_at hl 1 rfl) ?_
        refine lv_iload_n hx hb d_M_make_95 rfl (lv_at hl 2 rfl) ?_
        refine mx_callR (r := .int (bI (isNum (nI j)))) (c_M_isNumber G (nI j)) hW (iv_M_make_96 G hx hb hown hW [.int (nI j)] [.ref hm] rfl) hml hl.1 (by rw [hb]; exact d_M_make_96) (cd_M_isNumber G hW) ⟨Nat.le_of_ble_eq_true rfl, Nat.le_of_ble_eq_true rfl⟩ rfl rfl (Nat.le_of_ble_eq_true rfl) (Nat.le_of_ble_eq_true rfl) (Nat.le_of_ble_eq_true rfl) ?_
        refine tp_i (y := (bI true)) (by rw [isNum_nI hj]) ?_
        refine lv_if_ne (tgt := 106) hx hb d_M_make_99 (by decide) (fun c_99 => ?_) (fun c_99 => absurd c_99 (by decide))
        refine lv_iload hx hb d_M_make_106 (lv_at hl 0 rfl) ?_
        refine lv_if_ne (tgt := 115) hx hb d_M_make_108 (by decide) (fun c_108 => absurd (rfl) c_108) (fun c_108 => ?_)
        refine lv_iconst (v := (nI 2)) hx hb d_M_make_111 (by decide) ?_
        refine lv_goto (tgt := 116) hx hb d_M_make_112 (by decide) ?_
        refine va_put (D := D) (ci := 4) (v := .int (nI 2)) (ty := .int) (C := R_M) (T := T_M) (N := 12) hx hb (us_M G hW) (fun _ h => h) t_M to_M nm_M hown hK hP hD hS 0 rfl rfl 0 (by decide) (fl_M_43 G hW) (fun _ h9 => h9) rfl (by decide +kernel) rfl rfl (Nat.le_of_ble_eq_true rfl) d_M_make_116 (fun H locs hP hD hS => ?_)
        have hP : va_P D vcl [(hm, .inr (4, [.int (nI 2), .ref a1, .ref a2, .ref a3, .ref a4, .ref a5, .ref a6, .ref a7, .ref a8, .ref a9, .ref a10, .ref a11])), (a1, aN cI 4 ki), (a2, aN cI 4 ka), (a3, aN cI 4 kb), (a4, aI cI 4 zs), (a5, aI cI 4 pu), (a6, aN cI 4096 ce), (a7, aN cI 1024 pa), (a8, aN cI 1024 tr), (a9, aI cI 256 so), (a10, aN cI 6 pl), (a11, aN cI 6 ot)] H := hP
        have hD : va_D (Aa [hm, a1, a2, a3, a4, a5, a6, a7, a8, a9, a10, a11] H0.size) [(hm, .inr (4, [.int (nI 2), .ref a1, .ref a2, .ref a3, .ref a4, .ref a5, .ref a6, .ref a7, .ref a8, .ref a9, .ref a10, .ref a11])), (a1, aN cI 4 ki), (a2, aN cI 4 ka), (a3, aN cI 4 kb), (a4, aI cI 4 zs), (a5, aI cI 4 pu), (a6, aN cI 4096 ce), (a7, aN cI 1024 pa), (a8, aN cI 1024 tr), (a9, aI cI 256 so), (a10, aN cI 6 pl), (a11, aN cI 6 ot)] := hD
        refine lv_aload_n hx hb d_M_make_119 rfl (lv_at hl 1 rfl) ?_
        refine va_get (D := D) (ci := 4) (v := .int (nI 2)) (C := R_M) (T := T_M) (N := 12) hx hb (us_M G hW) (fun _ h => h) hown hK hP 0 rfl rfl 0 (by decide) (fl_M_43 G hW) (fun _ h9 => h9) rfl d_M_make_120 ?_
        refine lv_if_ne (tgt := 153) hx hb d_M_make_123 (by decide) (fun c_123 => ?_) (fun c_123 => absurd c_123 (by decide))
        exact mx_vret hx hb hr hlk d_M_make_153 (Nat.le_of_ble_eq_true rfl) (Nat.le_of_ble_eq_true rfl) hS.2.2 (⟨rfl, ki, ka, kb, zs, pu, ce, pa, tr, so, pl, ot, hP, hpic⟩)

set_option maxHeartbeats 4000000 in
set_option maxRecDepth 100000 in
theorem c_M_make_2 {l : Launch} {s0 : State} {D : va_G} {cI cF cJ : ClassId} (G : Gx l s0 D cI cF cJ) (hm a1 a2 a3 a4 a5 a6 a7 a8 a9 a10 a11 : Nat) (th : Int32) (S : Nat → FS) (j A B : Nat) (f : Nat → Nat) {H0 : Heap} {A0 : Nat → Prop} (hM : MP D cI hm a1 a2 a3 a4 a5 a6 a7 a8 a9 a10 a11 th S H0) (hD : va_D A0 (adM hm a1 a2 a3 a4 a5 a6 a7 a8 a9 a10 a11)) (hok : ∀ i, i < 4 → okS (S i)) (hj : j < 4) (hm9 : (¬ nI A < nI 1 ∧ nI A ≤ nI 8) ∧ (¬ nI B < nI 4 ∧ nI B ≤ nI 16)) : Mx l s0 y_M_make (.code y_M_make b_M_make 6 none) { frames := 7, cells := 0, slots := 0, locals := 170 } [.ref hm, .int (nI j), .int (nI 2), .int (nI A), .int (nI B)] H0 (Aa [hm, a1, a2, a3, a4, a5, a6, a7, a8, a9, a10, a11] H0.size) (Rn (fun H1 => MP D cI hm a1 a2 a3 a4 a5 a6 a7 a8 a9 a10 a11 (nI 0) (va_up S j (mkS 2 A B f)) H1)) := by
  refine Mx.ofW (own := "FewBitsModel") rfl rfl ?_
  rintro p e s m below meth c ⟨hx, hb, hml, hr, hown, hW, hlk⟩ hnm het hH
  have hK := G.k hW
  have hD0 := hD
  obtain ⟨ki, ka, kb, zs, pu, ce, pa, tr, so, pl, ot, hP, hpic⟩ := hM
  have hD : va_D (Aa [hm, a1, a2, a3, a4, a5, a6, a7, a8, a9, a10, a11] H0.size) [(hm, .inr (4, [.int th, .ref a1, .ref a2, .ref a3, .ref a4, .ref a5, .ref a6, .ref a7, .ref a8, .ref a9, .ref a10, .ref a11])), (a1, aN cI 4 ki), (a2, aN cI 4 ka), (a3, aN cI 4 kb), (a4, aI cI 4 zs), (a5, aI cI 4 pu), (a6, aN cI 4096 ce), (a7, aN cI 1024 pa), (a8, aN cI 1024 tr), (a9, aI cI 256 so), (a10, aN cI 6 pl), (a11, aN cI 6 ot)] := va_D.same2 [hm, a1, a2, a3, a4, a5, a6, a7, a8, a9, a10, a11] (hD.aa (sz := H0.size)) rfl rfl
  have hS : va_S (Aa [hm, a1, a2, a3, a4, a5, a6, a7, a8, a9, a10, a11] H0.size) H0 H0 [] := va_S.rf
  have hl := lv_entry ([.ref hm, .int (nI j), .int (nI 2), .int (nI A), .int (nI B)]) (n := 6) (Nat.le_of_ble_eq_true rfl)
  rw [lg_entry_eq]
  generalize (lg_sl ([.ref hm, .int (nI j), .int (nI 2), .int (nI A), .int (nI B)]) ++ List.replicate (6 - (lg_sl ([.ref hm, .int (nI j), .int (nI 2), .int (nI A), .int (nI B)])).length) Slot.unset).toArray = ls at hl ⊢
  have hl : lv_has ls 6 [(0, .ref hm), (1, .int (nI j)), (2, .int (nI 2)), (3, .int (nI A)), (4, .int (nI B))] := hl
  refine lv_iload_n hx hb d_M_make_0 rfl (lv_at hl 2 rfl) ?_
  refine lv_iconst (v := (nI 1)) hx hb d_M_make_1 (by decide) ?_
  refine lv_icmp_ne (tgt := 29) hx hb d_M_make_2 (by decide) (fun c_2 => ?_) (fun c_2 => absurd c_2 (by decide))
  refine lv_iload_n hx hb d_M_make_29 rfl (lv_at hl 2 rfl) ?_
  refine lv_iconst (v := (nI 2)) hx hb d_M_make_30 (by decide) ?_
  refine lv_icmp_ne (tgt := 58) hx hb d_M_make_31 (by decide) (fun c_31 => absurd (rfl) c_31) (fun c_31 => ?_)
  refine lv_iload_n hx hb d_M_make_34 rfl (lv_at hl 3 rfl) ?_
  refine lv_iconst (v := (nI 1)) hx hb d_M_make_35 (by decide) ?_
  refine lv_icmp_lt (tgt := 58) hx hb d_M_make_36 (by decide) (fun c_36 => absurd c_36 (hm9.1.1)) (fun c_36 => ?_)
  refine lv_iload_n hx hb d_M_make_39 rfl (lv_at hl 3 rfl) ?_
  refine lv_bipush (v := (nI 8)) hx hb d_M_make_40 (by decide) ?_
  refine lv_icmp_gt (tgt := 58) hx hb d_M_make_42 (by decide) (fun c_42 => absurd c_42 (Int32.not_lt.mpr hm9.1.2)) (fun c_42 => ?_)
  refine lv_iload hx hb d_M_make_45 (lv_at hl 4 rfl) ?_
  refine lv_iconst (v := (nI 4)) hx hb d_M_make_47 (by decide) ?_
  refine lv_icmp_lt (tgt := 58) hx hb d_M_make_48 (by decide) (fun c_48 => absurd c_48 (hm9.2.1)) (fun c_48 => ?_)
  refine lv_iload hx hb d_M_make_51 (lv_at hl 4 rfl) ?_
  refine lv_bipush (v := (nI 16)) hx hb d_M_make_53 (by decide) ?_
  refine lv_icmp_le (tgt := 87) hx hb d_M_make_55 (by decide) (fun c_55 => ?_) (fun c_55 => absurd (hm9.2.2) c_55)
  refine lv_iconst (v := (nI 1)) hx hb d_M_make_87 (by decide) ?_
  refine lv_goto (tgt := 92) hx hb d_M_make_88 (by decide) ?_
  refine lv_istore (lv' := [(5, .int (nI 1)), (0, .ref hm), (1, .int (nI j)), (2, .int (nI 2)), (3, .int (nI A)), (4, .int (nI B))]) hx hb d_M_make_92 hl (by decide) rfl (fun ls hl => ?_)
  refine lv_aload_n hx hb d_M_make_94 rfl (lv_at hl 1 rfl) ?_
  refine lv_iload_n hx hb d_M_make_95 rfl (lv_at hl 2 rfl) ?_
  refine mx_callR (r := .int (bI (isNum (nI j)))) (c_M_isNumber G (nI j)) hW (iv_M_make_96 G hx hb hown hW [.int (nI j)] [.ref hm] rfl) hml hl.1 (by rw [hb]; exact d_M_make_96) (cd_M_isNumber G hW) ⟨Nat.le_of_ble_eq_true rfl, Nat.le_of_ble_eq_true rfl⟩ rfl rfl (Nat.le_of_ble_eq_true rfl) (Nat.le_of_ble_eq_true rfl) (Nat.le_of_ble_eq_true rfl) ?_
  refine tp_i (y := (bI true)) (by rw [isNum_nI hj]) ?_
  refine lv_if_ne (tgt := 106) hx hb d_M_make_99 (by decide) (fun c_99 => ?_) (fun c_99 => absurd c_99 (by decide))
  refine lv_iload hx hb d_M_make_106 (lv_at hl 0 rfl) ?_
  refine lv_if_ne (tgt := 115) hx hb d_M_make_108 (by decide) (fun c_108 => ?_) (fun c_108 => absurd c_108 (by decide))
  refine lv_iconst (v := (nI 0)) hx hb d_M_make_115 (by decide) ?_
  refine va_put (D := D) (ci := 4) (v := .int (nI 0)) (ty := .int) (C := R_M) (T := T_M) (N := 12) hx hb (us_M G hW) (fun _ h => h) t_M to_M nm_M hown hK hP hD hS 0 rfl rfl 0 (by decide) (fl_M_43 G hW) (fun _ h9 => h9) rfl (by decide +kernel) rfl rfl (Nat.le_of_ble_eq_true rfl) d_M_make_116 (fun H locs hP hD hS => ?_)
  have hP : va_P D vcl [(hm, .inr (4, [.int (nI 0), .ref a1, .ref a2, .ref a3, .ref a4, .ref a5, .ref a6, .ref a7, .ref a8, .ref a9, .ref a10, .ref a11])), (a1, aN cI 4 ki), (a2, aN cI 4 ka), (a3, aN cI 4 kb), (a4, aI cI 4 zs), (a5, aI cI 4 pu), (a6, aN cI 4096 ce), (a7, aN cI 1024 pa), (a8, aN cI 1024 tr), (a9, aI cI 256 so), (a10, aN cI 6 pl), (a11, aN cI 6 ot)] H := hP
  have hD : va_D (Aa [hm, a1, a2, a3, a4, a5, a6, a7, a8, a9, a10, a11] H0.size) [(hm, .inr (4, [.int (nI 0), .ref a1, .ref a2, .ref a3, .ref a4, .ref a5, .ref a6, .ref a7, .ref a8, .ref a9, .ref a10, .ref a11])), (a1, aN cI 4 ki), (a2, aN cI 4 ka), (a3, aN cI 4 kb), (a4, aI cI 4 zs), (a5, aI cI 4 pu), (a6, aN cI 4096 ce), (a7, aN cI 1024 pa), (a8, aN cI 1024 tr), (a9, aI cI 256 so), (a10, aN cI 6 pl), (a11, aN cI 6 ot)] := hD
  refine lv_aload_n hx hb d_M_make_119 rfl (lv_at hl 1 rfl) ?_
  refine va_get (D := D) (ci := 4) (v := .int (nI 0)) (C := R_M) (T := T_M) (N := 12) hx hb (us_M G hW) (fun _ h => h) hown hK hP 0 rfl rfl 0 (by decide) (fl_M_43 G hW) (fun _ h9 => h9) rfl d_M_make_120 ?_
  refine lv_if_ne (tgt := 153) hx hb d_M_make_123 (by decide) (fun c_123 => absurd (rfl) c_123) (fun c_123 => ?_)
  refine lv_aload_n hx hb d_M_make_126 rfl (lv_at hl 1 rfl) ?_
  refine va_get (D := D) (ci := 4) (v := .ref a1) (C := R_M) (T := T_M) (N := 12) hx hb (us_M G hW) (fun _ h => h) hown hK hP 0 rfl rfl 1 (by decide) (fl_M_7 G hW) (fun _ h9 => h9) rfl d_M_make_127 ?_
  refine lv_iload_n hx hb d_M_make_130 rfl (lv_at hl 2 rfl) ?_
  refine lv_iload_n hx hb d_M_make_131 rfl (lv_at hl 3 rfl) ?_
  refine ia_stN hx hb hK hP hD hS 1 (j := j) (x := 2) (f := ki) rfl (hj) (by decide) d_M_make_132 (fun H locs hP hD hS => ?_)
  have hP : va_P D vcl [(hm, .inr (4, [.int (nI 0), .ref a1, .ref a2, .ref a3, .ref a4, .ref a5, .ref a6, .ref a7, .ref a8, .ref a9, .ref a10, .ref a11])), (a1, aN cI 4 (va_up ki j 2)), (a2, aN cI 4 ka), (a3, aN cI 4 kb), (a4, aI cI 4 zs), (a5, aI cI 4 pu), (a6, aN cI 4096 ce), (a7, aN cI 1024 pa), (a8, aN cI 1024 tr), (a9, aI cI 256 so), (a10, aN cI 6 pl), (a11, aN cI 6 ot)] H := hP
  have hD : va_D (Aa [hm, a1, a2, a3, a4, a5, a6, a7, a8, a9, a10, a11] H0.size) [(hm, .inr (4, [.int (nI 0), .ref a1, .ref a2, .ref a3, .ref a4, .ref a5, .ref a6, .ref a7, .ref a8, .ref a9, .ref a10, .ref a11])), (a1, aN cI 4 (va_up ki j 2)), (a2, aN cI 4 ka), (a3, aN cI 4 kb), (a4, aI cI 4 zs), (a5, aI cI 4 pu), (a6, aN cI 4096 ce), (a7, aN cI 1024 pa), (a8, aN cI 1024 tr), (a9, aI cI 256 so), (a10, aN cI 6 pl), (a11, aN cI 6 ot)] := hD
  refine lv_aload_n hx hb d_M_make_133 rfl (lv_at hl 1 rfl) ?_
  refine va_get (D := D) (ci := 4) (v := .ref a2) (C := R_M) (T := T_M) (N := 12) hx hb (us_M G hW) (fun _ h => h) hown hK hP 0 rfl rfl 2 (by decide) (fl_M_13 G hW) (fun _ h9 => h9) rfl d_M_make_134 ?_
  refine lv_iload_n hx hb d_M_make_137 rfl (lv_at hl 2 rfl) ?_
  refine lv_iload_n hx hb d_M_make_138 rfl (lv_at hl 4 rfl) ?_
  refine ia_stN hx hb hK hP hD hS 2 (j := j) (x := A) (f := ka) rfl (hj) (by decide) d_M_make_139 (fun H locs hP hD hS => ?_)
  have hP : va_P D vcl [(hm, .inr (4, [.int (nI 0), .ref a1, .ref a2, .ref a3, .ref a4, .ref a5, .ref a6, .ref a7, .ref a8, .ref a9, .ref a10, .ref a11])), (a1, aN cI 4 (va_up ki j 2)), (a2, aN cI 4 (va_up ka j A)), (a3, aN cI 4 kb), (a4, aI cI 4 zs), (a5, aI cI 4 pu), (a6, aN cI 4096 ce), (a7, aN cI 1024 pa), (a8, aN cI 1024 tr), (a9, aI cI 256 so), (a10, aN cI 6 pl), (a11, aN cI 6 ot)] H := hP
  have hD : va_D (Aa [hm, a1, a2, a3, a4, a5, a6, a7, a8, a9, a10, a11] H0.size) [(hm, .inr (4, [.int (nI 0), .ref a1, .ref a2, .ref a3, .ref a4, .ref a5, .ref a6, .ref a7, .ref a8, .ref a9, .ref a10, .ref a11])), (a1, aN cI 4 (va_up ki j 2)), (a2, aN cI 4 (va_up ka j A)), (a3, aN cI 4 kb), (a4, aI cI 4 zs), (a5, aI cI 4 pu), (a6, aN cI 4096 ce), (a7, aN cI 1024 pa), (a8, aN cI 1024 tr), (a9, aI cI 256 so), (a10, aN cI 6 pl), (a11, aN cI 6 ot)] := hD
  refine lv_aload_n hx hb d_M_make_140 rfl (lv_at hl 1 rfl) ?_
  refine va_get (D := D) (ci := 4) (v := .ref a3) (C := R_M) (T := T_M) (N := 12) hx hb (us_M G hW) (fun _ h => h) hown hK hP 0 rfl rfl 3 (by decide) (fl_M_16 G hW) (fun _ h9 => h9) rfl d_M_make_141 ?_
  refine lv_iload_n hx hb d_M_make_144 rfl (lv_at hl 2 rfl) ?_
  refine lv_iload hx hb d_M_make_145 (lv_at hl 5 rfl) ?_
  refine ia_stN hx hb hK hP hD hS 3 (j := j) (x := B) (f := kb) rfl (hj) (by decide) d_M_make_147 (fun H locs hP hD hS => ?_)
  have hP : va_P D vcl [(hm, .inr (4, [.int (nI 0), .ref a1, .ref a2, .ref a3, .ref a4, .ref a5, .ref a6, .ref a7, .ref a8, .ref a9, .ref a10, .ref a11])), (a1, aN cI 4 (va_up ki j 2)), (a2, aN cI 4 (va_up ka j A)), (a3, aN cI 4 (va_up kb j B)), (a4, aI cI 4 zs), (a5, aI cI 4 pu), (a6, aN cI 4096 ce), (a7, aN cI 1024 pa), (a8, aN cI 1024 tr), (a9, aI cI 256 so), (a10, aN cI 6 pl), (a11, aN cI 6 ot)] H := hP
  have hD : va_D (Aa [hm, a1, a2, a3, a4, a5, a6, a7, a8, a9, a10, a11] H0.size) [(hm, .inr (4, [.int (nI 0), .ref a1, .ref a2, .ref a3, .ref a4, .ref a5, .ref a6, .ref a7, .ref a8, .ref a9, .ref a10, .ref a11])), (a1, aN cI 4 (va_up ki j 2)), (a2, aN cI 4 (va_up ka j A)), (a3, aN cI 4 (va_up kb j B)), (a4, aI cI 4 zs), (a5, aI cI 4 pu), (a6, aN cI 4096 ce), (a7, aN cI 1024 pa), (a8, aN cI 1024 tr), (a9, aI cI 256 so), (a10, aN cI 6 pl), (a11, aN cI 6 ot)] := hD
  refine lv_aload_n hx hb d_M_make_148 rfl (lv_at hl 1 rfl) ?_
  refine lv_iload_n hx hb d_M_make_149 rfl (lv_at hl 2 rfl) ?_
  refine mx_callN (c_M_empty G hm a1 a2 a3 a4 a5 a6 a7 a8 a9 a10 a11 (nI 0) (va_up ki j 2) (va_up ka j A) (va_up kb j B) zs pu ce pa tr so pl ot j hP hD hj) hW (iv_M_make_150 G hx hb hown hW (va_recv hK hP (ci := 4) (q0 := 0) rfl rfl) [.int (nI j)] [] rfl) hml hl.1 (by rw [hb]; exact d_M_make_150) (cd_M_empty G hW) ⟨Nat.le_of_ble_eq_true rfl, Nat.le_of_ble_eq_true rfl⟩ (Nat.le_of_ble_eq_true rfl) (Nat.le_of_ble_eq_true rfl) (Nat.le_of_ble_eq_true rfl) hS (Aa.mono (fun _ h => h) hS.1) (fun H locs hP _ _ hS => ?_)
  have hP : va_P D vcl [(hm, .inr (4, [.int (nI 0), .ref a1, .ref a2, .ref a3, .ref a4, .ref a5, .ref a6, .ref a7, .ref a8, .ref a9, .ref a10, .ref a11])), (a1, aN cI 4 (va_up ki j 2)), (a2, aN cI 4 (va_up ka j A)), (a3, aN cI 4 (va_up kb j B)), (a4, aI cI 4 (upd zs j (nI 0))), (a5, aI cI 4 (upd pu j (nI 0))), (a6, aN cI 4096 (stO 1024 ce (1024 * j) (fun _ => 0))), (a7, aN cI 1024 pa), (a8, aN cI 1024 tr), (a9, aI cI 256 so), (a10, aN cI 6 pl), (a11, aN cI 6 ot)] H := hP
  have hD : va_D (Aa [hm, a1, a2, a3, a4, a5, a6, a7, a8, a9, a10, a11] H0.size) [(hm, .inr (4, [.int (nI 0), .ref a1, .ref a2, .ref a3, .ref a4, .ref a5, .ref a6, .ref a7, .ref a8, .ref a9, .ref a10, .ref a11])), (a1, aN cI 4 (va_up ki j 2)), (a2, aN cI 4 (va_up ka j A)), (a3, aN cI 4 (va_up kb j B)), (a4, aI cI 4 (upd zs j (nI 0))), (a5, aI cI 4 (upd pu j (nI 0))), (a6, aN cI 4096 (stO 1024 ce (1024 * j) (fun _ => 0))), (a7, aN cI 1024 pa), (a8, aN cI 1024 tr), (a9, aI cI 256 so), (a10, aN cI 6 pl), (a11, aN cI 6 ot)] := va_D.same2 [hm, a1, a2, a3, a4, a5, a6, a7, a8, a9, a10, a11] hD rfl rfl
  exact mx_vret hx hb hr hlk d_M_make_153 (Nat.le_of_ble_eq_true rfl) (Nat.le_of_ble_eq_true rfl) hS.2.2 (⟨rfl, _, _, _, _, _, _, pa, tr, so, pl, ot, hP, pics_up hpic hok ⟨va_up_self _ _ _, fun _ => ⟨va_up_self _ _ _, va_up_self _ _ _, upd_eq⟩, fun _ q h9 => vw_stO h9, fun _ => upd_eq, fun _ i hi => absurd hi (Nat.not_lt_zero _), pic_pa (hpic j hj)⟩ vup_off vup_off vup_off upd_off upd_off offC idP⟩)

set_option maxHeartbeats 4000000 in
set_option maxRecDepth 100000 in
theorem c_M_make_no_3 {l : Launch} {s0 : State} {D : va_G} {cI cF cJ : ClassId} (G : Gx l s0 D cI cF cJ) (hm a1 a2 a3 a4 a5 a6 a7 a8 a9 a10 a11 : Nat) (th : Int32) (S : Nat → FS) (v : Int32) (a b : Int32) {H0 : Heap} {A0 : Nat → Prop} (hM : MP D cI hm a1 a2 a3 a4 a5 a6 a7 a8 a9 a10 a11 th S H0) (hD : va_D A0 (adM hm a1 a2 a3 a4 a5 a6 a7 a8 a9 a10 a11)) (hok : ∀ i, i < 4 → okS (S i)) (hv : isNum v = false) : Mx l s0 y_M_make (.code y_M_make b_M_make 6 none) { frames := 7, cells := 0, slots := 0, locals := 170 } [.ref hm, .int v, .int (nI 3), .int a, .int b] H0 (Aa [hm, a1, a2, a3, a4, a5, a6, a7, a8, a9, a10, a11] H0.size) (Rn (fun H1 => MP D cI hm a1 a2 a3 a4 a5 a6 a7 a8 a9 a10 a11 (nI 1) S H1)) := by
  refine Mx.ofW (own := "FewBitsModel") rfl rfl ?_
  rintro p e s m below meth c ⟨hx, hb, hml, hr, hown, hW, hlk⟩ hnm het hH
  have hK := G.k hW
  have hD0 := hD
  obtain ⟨ki, ka, kb, zs, pu, ce, pa, tr, so, pl, ot, hP, hpic⟩ := hM
  have hD : va_D (Aa [hm, a1, a2, a3, a4, a5, a6, a7, a8, a9, a10, a11] H0.size) [(hm, .inr (4, [.int th, .ref a1, .ref a2, .ref a3, .ref a4, .ref a5, .ref a6, .ref a7, .ref a8, .ref a9, .ref a10, .ref a11])), (a1, aN cI 4 ki), (a2, aN cI 4 ka), (a3, aN cI 4 kb), (a4, aI cI 4 zs), (a5, aI cI 4 pu), (a6, aN cI 4096 ce), (a7, aN cI 1024 pa), (a8, aN cI 1024 tr), (a9, aI cI 256 so), (a10, aN cI 6 pl), (a11, aN cI 6 ot)] := va_D.same2 [hm, a1, a2, a3, a4, a5, a6, a7, a8, a9, a10, a11] (hD.aa (sz := H0.size)) rfl rfl
  have hS : va_S (Aa [hm, a1, a2, a3, a4, a5, a6, a7, a8, a9, a10, a11] H0.size) H0 H0 [] := va_S.rf
  have hl := lv_entry ([.ref hm, .int v, .int (nI 3), .int a, .int b]) (n := 6) (Nat.le_of_ble_eq_true rfl)
  rw [lg_entry_eq]
  generalize (lg_sl ([.ref hm, .int v, .int (nI 3), .int a, .int b]) ++ List.replicate (6 - (lg_sl ([.ref hm, .int v, .int (nI 3), .int a, .int b])).length) Slot.unset).toArray = ls at hl ⊢
  have hl : lv_has ls 6 [(0, .ref hm), (1, .int v), (2, .int (nI 3)), (3, .int a), (4, .int b)] := hl
  refine lv_iload_n hx hb d_M_make_0 rfl (lv_at hl 2 rfl) ?_
  refine lv_iconst (v := (nI 1)) hx hb d_M_make_1 (by decide) ?_
  refine lv_icmp_ne (tgt := 29) hx hb d_M_make_2 (by decide) (fun c_2 => ?_) (fun c_2 => absurd c_2 (by decide))
  refine lv_iload_n hx hb d_M_make_29 rfl (lv_at hl 2 rfl) ?_
  refine lv_iconst (v := (nI 2)) hx hb d_M_make_30 (by decide) ?_
  refine lv_icmp_ne (tgt := 58) hx hb d_M_make_31 (by decide) (fun c_31 => ?_) (fun c_31 => absurd c_31 (by decide))
  refine lv_iload_n hx hb d_M_make_58 rfl (lv_at hl 2 rfl) ?_
  refine lv_iconst (v := (nI 3)) hx hb d_M_make_59 (by decide) ?_
  refine lv_icmp_ne (tgt := 91) hx hb d_M_make_60 (by decide) (fun c_60 => absurd (rfl) c_60) (fun c_60 => ?_)
  refine lv_iload_n hx hb d_M_make_63 rfl (lv_at hl 3 rfl) ?_
  refine lv_iconst (v := (nI 2)) hx hb d_M_make_64 (by decide) ?_
  refine lv_icmp_lt (tgt := 91) hx hb d_M_make_65 (by decide) (fun c_65 => ?_) (fun c_65 => ?_)
  · refine lv_iconst (v := (nI 0)) hx hb d_M_make_91 (by decide) ?_
    refine lv_istore (lv' := [(5, .int (nI 0)), (0, .ref hm), (1, .int v), (2, .int (nI 3)), (3, .int a), (4, .int b)]) hx hb d_M_make_92 hl (by decide) rfl (fun ls hl => ?_)
    refine lv_aload_n hx hb d_M_make_94 rfl (lv_at hl 1 rfl) ?_
    refine lv_iload_n hx hb d_M_make_95 rfl (lv_at hl 2 rfl) ?_
    refine mx_callR (r := .int (bI (isNum v))) (c_M_isNumber G v) hW (iv_M_make_96 G hx hb hown hW [.int v] [.ref hm] rfl) hml hl.1 (by rw [hb]; exact d_M_make_96) (cd_M_isNumber G hW) ⟨Nat.le_of_ble_eq_true rfl, Nat.le_of_ble_eq_true rfl⟩ rfl rfl (Nat.le_of_ble_eq_true rfl) (Nat.le_of_ble_eq_true rfl) (Nat.le_of_ble_eq_true rfl) ?_
    refine tp_i (y := (bI false)) (by rw [hv]) ?_
    refine lv_if_ne (tgt := 106) hx hb d_M_make_99 (by decide) (fun c_99 => absurd (rfl) c_99) (fun c_99 => ?_)
    refine lv_iconst (v := (nI 1)) hx hb d_M_make_102 (by decide) ?_
    refine lv_goto (tgt := 116) hx hb d_M_make_103 (by decide) ?_
    refine va_put (D := D) (ci := 4) (v := .int (nI 1)) (ty := .int) (C := R_M) (T := T_M) (N := 12) hx hb (us_M G hW) (fun _ h => h) t_M to_M nm_M hown hK hP hD hS 0 rfl rfl 0 (by decide) (fl_M_43 G hW) (fun _ h9 => h9) rfl (by decide +kernel) rfl rfl (Nat.le_of_ble_eq_true rfl) d_M_make_116 (fun H locs hP hD hS => ?_)
    have hP : va_P D vcl [(hm, .inr (4, [.int (nI 1), .ref a1, .ref a2, .ref a3, .ref a4, .ref a5, .ref a6, .ref a7, .ref a8, .ref a9, .ref a10, .ref a11])), (a1, aN cI 4 ki), (a2, aN cI 4 ka), (a3, aN cI 4 kb), (a4, aI cI 4 zs), (a5, aI cI 4 pu), (a6, aN cI 4096 ce), (a7, aN cI 1024 pa), (a8, aN cI 1024 tr), (a9, aI cI 256 so), (a10, aN cI 6 pl), (a11, aN cI 6 ot)] H := hP
    have hD : va_D (Aa [hm, a1, a2, a3, a4, a5, a6, a7, a8, a9, a10, a11] H0.size) [(hm, .inr (4, [.int (nI 1), .ref a1, .ref a2, .ref a3, .ref a4, .ref a5, .ref a6, .ref a7, .ref a8, .ref a9, .ref a10, .ref a11])), (a1, aN cI 4 ki), (a2, aN cI 4 ka), (a3, aN cI 4 kb), (a4, aI cI 4 zs), (a5, aI cI 4 pu), (a6, aN cI 4096 ce), (a7, aN cI 1024 pa), (a8, aN cI 1024 tr), (a9, aI cI 256 so), (a10, aN cI 6 pl), (a11, aN cI 6 ot)] := hD
    refine lv_aload_n hx hb d_M_make_119 rfl (lv_at hl 1 rfl) ?_
    refine va_get (D := D) (ci := 4) (v := .int (nI 1)) (C := R_M) (T := T_M) (N := 12) hx hb (us_M G hW) (fun _ h => h) hown hK hP 0 rfl rfl 0 (by decide) (fl_M_43 G hW) (fun _ h9 => h9) rfl d_M_make_120 ?_
    refine lv_if_ne (tgt := 153) hx hb d_M_make_123 (by decide) (fun c_123 => ?_) (fun c_123 => absurd c_123 (by decide))
    exact mx_vret hx hb hr hlk d_M_make_153 (Nat.le_of_ble_eq_true rfl) (Nat.le_of_ble_eq_true rfl) hS.2.2 (⟨rfl, ki, ka, kb, zs, pu, ce, pa, tr, so, pl, ot, hP, hpic⟩)
  · refine lv_iload_n hx hb d_M_make_68 rfl (lv_at hl 3 rfl) ?_
    refine lv_bipush (v := (nI 8)) hx hb d_M_make_69 (by decide) ?_
    refine lv_icmp_gt (tgt := 91) hx hb d_M_make_71 (by decide) (fun c_71 => ?_) (fun c_71 => ?_)
    · refine lv_iconst (v := (nI 0)) hx hb d_M_make_91 (by decide) ?_
      refine lv_istore (lv' := [(5, .int (nI 0)), (0, .ref hm), (1, .int v), (2, .int (nI 3)), (3, .int a), (4, .int b)]) hx hb d_M_make_92 hl (by decide) rfl (fun ls hl => ?_)
      refine lv_aload_n hx hb d_M_make_94 rfl (lv_at hl 1 rfl) ?_
      refine lv_iload_n hx hb d_M_make_95 rfl (lv_at hl 2 rfl) ?_
      refine mx_callR (r := .int (bI (isNum v))) (c_M_isNumber G v) hW (iv_M_make_96 G hx hb hown hW [.int v] [.ref hm] rfl) hml hl.1 (by rw [hb]; exact d_M_make_96) (cd_M_isNumber G hW) ⟨Nat.le_of_ble_eq_true rfl, Nat.le_of_ble_eq_true rfl⟩ rfl rfl (Nat.le_of_ble_eq_true rfl) (Nat.le_of_ble_eq_true rfl) (Nat.le_of_ble_eq_true rfl) ?_
      refine tp_i (y := (bI false)) (by rw [hv]) ?_
      refine lv_if_ne (tgt := 106) hx hb d_M_make_99 (by decide) (fun c_99 => absurd (rfl) c_99) (fun c_99 => ?_)
      refine lv_iconst (v := (nI 1)) hx hb d_M_make_102 (by decide) ?_
      refine lv_goto (tgt := 116) hx hb d_M_make_103 (by decide) ?_
      refine va_put (D := D) (ci := 4) (v := .int (nI 1)) (ty := .int) (C := R_M) (T := T_M) (N := 12) hx hb (us_M G hW) (fun _ h => h) t_M to_M nm_M hown hK hP hD hS 0 rfl rfl 0 (by decide) (fl_M_43 G hW) (fun _ h9 => h9) rfl (by decide +kernel) rfl rfl (Nat.le_of_ble_eq_true rfl) d_M_make_116 (fun H locs hP hD hS => ?_)
      have hP : va_P D vcl [(hm, .inr (4, [.int (nI 1), .ref a1, .ref a2, .ref a3, .ref a4, .ref a5, .ref a6, .ref a7, .ref a8, .ref a9, .ref a10, .ref a11])), (a1, aN cI 4 ki), (a2, aN cI 4 ka), (a3, aN cI 4 kb), (a4, aI cI 4 zs), (a5, aI cI 4 pu), (a6, aN cI 4096 ce), (a7, aN cI 1024 pa), (a8, aN cI 1024 tr), (a9, aI cI 256 so), (a10, aN cI 6 pl), (a11, aN cI 6 ot)] H := hP
      have hD : va_D (Aa [hm, a1, a2, a3, a4, a5, a6, a7, a8, a9, a10, a11] H0.size) [(hm, .inr (4, [.int (nI 1), .ref a1, .ref a2, .ref a3, .ref a4, .ref a5, .ref a6, .ref a7, .ref a8, .ref a9, .ref a10, .ref a11])), (a1, aN cI 4 ki), (a2, aN cI 4 ka), (a3, aN cI 4 kb), (a4, aI cI 4 zs), (a5, aI cI 4 pu), (a6, aN cI 4096 ce), (a7, aN cI 1024 pa), (a8, aN cI 1024 tr), (a9, aI cI 256 so), (a10, aN cI 6 pl), (a11, aN cI 6 ot)] := hD
      refine lv_aload_n hx hb d_M_make_119 rfl (lv_at hl 1 rfl) ?_
      refine va_get (D := D) (ci := 4) (v := .int (nI 1)) (C := R_M) (T := T_M) (N := 12) hx hb (us_M G hW) (fun _ h => h) hown hK hP 0 rfl rfl 0 (by decide) (fl_M_43 G hW) (fun _ h9 => h9) rfl d_M_make_120 ?_
      refine lv_if_ne (tgt := 153) hx hb d_M_make_123 (by decide) (fun c_123 => ?_) (fun c_123 => absurd c_123 (by decide))
      exact mx_vret hx hb hr hlk d_M_make_153 (Nat.le_of_ble_eq_true rfl) (Nat.le_of_ble_eq_true rfl) hS.2.2 (⟨rfl, ki, ka, kb, zs, pu, ce, pa, tr, so, pl, ot, hP, hpic⟩)
    · refine lv_iload hx hb d_M_make_74 (lv_at hl 4 rfl) ?_
      refine lv_iconst (v := (nI 4)) hx hb d_M_make_76 (by decide) ?_
      refine lv_icmp_lt (tgt := 91) hx hb d_M_make_77 (by decide) (fun c_77 => ?_) (fun c_77 => ?_)
      · refine lv_iconst (v := (nI 0)) hx hb d_M_make_91 (by decide) ?_
        refine lv_istore (lv' := [(5, .int (nI 0)), (0, .ref hm), (1, .int v), (2, .int (nI 3)), (3, .int a), (4, .int b)]) hx hb d_M_make_92 hl (by decide) rfl (fun ls hl => ?_)
        refine lv_aload_n hx hb d_M_make_94 rfl (lv_at hl 1 rfl) ?_
        refine lv_iload_n hx hb d_M_make_95 rfl (lv_at hl 2 rfl) ?_
        refine mx_callR (r := .int (bI (isNum v))) (c_M_isNumber G v) hW (iv_M_make_96 G hx hb hown hW [.int v] [.ref hm] rfl) hml hl.1 (by rw [hb]; exact d_M_make_96) (cd_M_isNumber G hW) ⟨Nat.le_of_ble_eq_true rfl, Nat.le_of_ble_eq_true rfl⟩ rfl rfl (Nat.le_of_ble_eq_true rfl) (Nat.le_of_ble_eq_true rfl) (Nat.le_of_ble_eq_true rfl) ?_
        refine tp_i (y := (bI false)) (by rw [hv]) ?_
        refine lv_if_ne (tgt := 106) hx hb d_M_make_99 (by decide) (fun c_99 => absurd (rfl) c_99) (fun c_99 => ?_)
        refine lv_iconst (v := (nI 1)) hx hb d_M_make_102 (by decide) ?_
        refine lv_goto (tgt := 116) hx hb d_M_make_103 (by decide) ?_
        refine va_put (D := D) (ci := 4) (v := .int (nI 1)) (ty := .int) (C := R_M) (T := T_M) (N := 12) hx hb (us_M G hW) (fun _ h => h) t_M to_M nm_M hown hK hP hD hS 0 rfl rfl 0 (by decide) (fl_M_43 G hW) (fun _ h9 => h9) rfl (by decide +kernel) rfl rfl (Nat.le_of_ble_eq_true rfl) d_M_make_116 (fun H locs hP hD hS => ?_)
        have hP : va_P D vcl [(hm, .inr (4, [.int (nI 1), .ref a1, .ref a2, .ref a3, .ref a4, .ref a5, .ref a6, .ref a7, .ref a8, .ref a9, .ref a10, .ref a11])), (a1, aN cI 4 ki), (a2, aN cI 4 ka), (a3, aN cI 4 kb), (a4, aI cI 4 zs), (a5, aI cI 4 pu), (a6, aN cI 4096 ce), (a7, aN cI 1024 pa), (a8, aN cI 1024 tr), (a9, aI cI 256 so), (a10, aN cI 6 pl), (a11, aN cI 6 ot)] H := hP
        have hD : va_D (Aa [hm, a1, a2, a3, a4, a5, a6, a7, a8, a9, a10, a11] H0.size) [(hm, .inr (4, [.int (nI 1), .ref a1, .ref a2, .ref a3, .ref a4, .ref a5, .ref a6, .ref a7, .ref a8, .ref a9, .ref a10, .ref a11])), (a1, aN cI 4 ki), (a2, aN cI 4 ka), (a3, aN cI 4 kb), (a4, aI cI 4 zs), (a5, aI cI 4 pu), (a6, aN cI 4096 ce), (a7, aN cI 1024 pa), (a8, aN cI 1024 tr), (a9, aI cI 256 so), (a10, aN cI 6 pl), (a11, aN cI 6 ot)] := hD
        refine lv_aload_n hx hb d_M_make_119 rfl (lv_at hl 1 rfl) ?_
        refine va_get (D := D) (ci := 4) (v := .int (nI 1)) (C := R_M) (T := T_M) (N := 12) hx hb (us_M G hW) (fun _ h => h) hown hK hP 0 rfl rfl 0 (by decide) (fl_M_43 G hW) (fun _ h9 => h9) rfl d_M_make_120 ?_
        refine lv_if_ne (tgt := 153) hx hb d_M_make_123 (by decide) (fun c_123 => ?_) (fun c_123 => absurd c_123 (by decide))
        exact mx_vret hx hb hr hlk d_M_make_153 (Nat.le_of_ble_eq_true rfl) (Nat.le_of_ble_eq_true rfl) hS.2.2 (⟨rfl, ki, ka, kb, zs, pu, ce, pa, tr, so, pl, ot, hP, hpic⟩)
      · refine lv_iload hx hb d_M_make_80 (lv_at hl 4 rfl) ?_
        refine lv_bipush (v := (nI 20)) hx hb d_M_make_82 (by decide) ?_
        refine lv_icmp_gt (tgt := 91) hx hb d_M_make_84 (by decide) (fun c_84 => ?_) (fun c_84 => ?_)
        · refine lv_iconst (v := (nI 0)) hx hb d_M_make_91 (by decide) ?_
          refine lv_istore (lv' := [(5, .int (nI 0)), (0, .ref hm), (1, .int v), (2, .int (nI 3)), (3, .int a), (4, .int b)]) hx hb d_M_make_92 hl (by decide) rfl (fun ls hl => ?_)
          refine lv_aload_n hx hb d_M_make_94 rfl (lv_at hl 1 rfl) ?_
          refine lv_iload_n hx hb d_M_make_95 rfl (lv_at hl 2 rfl) ?_
          refine mx_callR (r := .int (bI (isNum v))) (c_M_isNumber G v) hW (iv_M_make_96 G hx hb hown hW [.int v] [.ref hm] rfl) hml hl.1 (by rw [hb]; exact d_M_make_96) (cd_M_isNumber G hW) ⟨Nat.le_of_ble_eq_true rfl, Nat.le_of_ble_eq_true rfl⟩ rfl rfl (Nat.le_of_ble_eq_true rfl) (Nat.le_of_ble_eq_true rfl) (Nat.le_of_ble_eq_true rfl) ?_
          refine tp_i (y := (bI false)) (by rw [hv]) ?_
          refine lv_if_ne (tgt := 106) hx hb d_M_make_99 (by decide) (fun c_99 => absurd (rfl) c_99) (fun c_99 => ?_)
          refine lv_iconst (v := (nI 1)) hx hb d_M_make_102 (by decide) ?_
          refine lv_goto (tgt := 116) hx hb d_M_make_103 (by decide) ?_
          refine va_put (D := D) (ci := 4) (v := .int (nI 1)) (ty := .int) (C := R_M) (T := T_M) (N := 12) hx hb (us_M G hW) (fun _ h => h) t_M to_M nm_M hown hK hP hD hS 0 rfl rfl 0 (by decide) (fl_M_43 G hW) (fun _ h9 => h9) rfl (by decide +kernel) rfl rfl (Nat.le_of_ble_eq_true rfl) d_M_make_116 (fun H locs hP hD hS => ?_)
          have hP : va_P D vcl [(hm, .inr (4, [.int (nI 1), .ref a1, .ref a2, .ref a3, .ref a4, .ref a5, .ref a6, .ref a7, .ref a8, .ref a9, .ref a10, .ref a11])), (a1, aN cI 4 ki), (a2, aN cI 4 ka), (a3, aN cI 4 kb), (a4, aI cI 4 zs), (a5, aI cI 4 pu), (a6, aN cI 4096 ce), (a7, aN cI 1024 pa), (a8, aN cI 1024 tr), (a9, aI cI 256 so), (a10, aN cI 6 pl), (a11, aN cI 6 ot)] H := hP
          have hD : va_D (Aa [hm, a1, a2, a3, a4, a5, a6, a7, a8, a9, a10, a11] H0.size) [(hm, .inr (4, [.int (nI 1), .ref a1, .ref a2, .ref a3, .ref a4, .ref a5, .ref a6, .ref a7, .ref a8, .ref a9, .ref a10, .ref a11])), (a1, aN cI 4 ki), (a2, aN cI 4 ka), (a3, aN cI 4 kb), (a4, aI cI 4 zs), (a5, aI cI 4 pu), (a6, aN cI 4096 ce), (a7, aN cI 1024 pa), (a8, aN cI 1024 tr), (a9, aI cI 256 so), (a10, aN cI 6 pl), (a11, aN cI 6 ot)] := hD
          refine lv_aload_n hx hb d_M_make_119 rfl (lv_at hl 1 rfl) ?_
          refine va_get (D := D) (ci := 4) (v := .int (nI 1)) (C := R_M) (T := T_M) (N := 12) hx hb (us_M G hW) (fun _ h => h) hown hK hP 0 rfl rfl 0 (by decide) (fl_M_43 G hW) (fun _ h9 => h9) rfl d_M_make_120 ?_
          refine lv_if_ne (tgt := 153) hx hb d_M_make_123 (by decide) (fun c_123 => ?_) (fun c_123 => absurd c_123 (by decide))
          exact mx_vret hx hb hr hlk d_M_make_153 (Nat.le_of_ble_eq_true rfl) (Nat.le_of_ble_eq_true rfl) hS.2.2 (⟨rfl, ki, ka, kb, zs, pu, ce, pa, tr, so, pl, ot, hP, hpic⟩)
        · refine lv_iconst (v := (nI 1)) hx hb d_M_make_87 (by decide) ?_
          refine lv_goto (tgt := 92) hx hb d_M_make_88 (by decide) ?_
          refine lv_istore (lv' := [(5, .int (nI 1)), (0, .ref hm), (1, .int v), (2, .int (nI 3)), (3, .int a), (4, .int b)]) hx hb d_M_make_92 hl (by decide) rfl (fun ls hl => ?_)
          refine lv_aload_n hx hb d_M_make_94 rfl (lv_at hl 1 rfl) ?_
          refine lv_iload_n hx hb d_M_make_95 rfl (lv_at hl 2 rfl) ?_
          refine mx_callR (r := .int (bI (isNum v))) (c_M_isNumber G v) hW (iv_M_make_96 G hx hb hown hW [.int v] [.ref hm] rfl) hml hl.1 (by rw [hb]; exact d_M_make_96) (cd_M_isNumber G hW) ⟨Nat.le_of_ble_eq_true rfl, Nat.le_of_ble_eq_true rfl⟩ rfl rfl (Nat.le_of_ble_eq_true rfl) (Nat.le_of_ble_eq_true rfl) (Nat.le_of_ble_eq_true rfl) ?_
          refine tp_i (y := (bI false)) (by rw [hv]) ?_
          refine lv_if_ne (tgt := 106) hx hb d_M_make_99 (by decide) (fun c_99 => absurd (rfl) c_99) (fun c_99 => ?_)
          refine lv_iconst (v := (nI 1)) hx hb d_M_make_102 (by decide) ?_
          refine lv_goto (tgt := 116) hx hb d_M_make_103 (by decide) ?_
          refine va_put (D := D) (ci := 4) (v := .int (nI 1)) (ty := .int) (C := R_M) (T := T_M) (N := 12) hx hb (us_M G hW) (fun _ h => h) t_M to_M nm_M hown hK hP hD hS 0 rfl rfl 0 (by decide) (fl_M_43 G hW) (fun _ h9 => h9) rfl (by decide +kernel) rfl rfl (Nat.le_of_ble_eq_true rfl) d_M_make_116 (fun H locs hP hD hS => ?_)
          have hP : va_P D vcl [(hm, .inr (4, [.int (nI 1), .ref a1, .ref a2, .ref a3, .ref a4, .ref a5, .ref a6, .ref a7, .ref a8, .ref a9, .ref a10, .ref a11])), (a1, aN cI 4 ki), (a2, aN cI 4 ka), (a3, aN cI 4 kb), (a4, aI cI 4 zs), (a5, aI cI 4 pu), (a6, aN cI 4096 ce), (a7, aN cI 1024 pa), (a8, aN cI 1024 tr), (a9, aI cI 256 so), (a10, aN cI 6 pl), (a11, aN cI 6 ot)] H := hP
          have hD : va_D (Aa [hm, a1, a2, a3, a4, a5, a6, a7, a8, a9, a10, a11] H0.size) [(hm, .inr (4, [.int (nI 1), .ref a1, .ref a2, .ref a3, .ref a4, .ref a5, .ref a6, .ref a7, .ref a8, .ref a9, .ref a10, .ref a11])), (a1, aN cI 4 ki), (a2, aN cI 4 ka), (a3, aN cI 4 kb), (a4, aI cI 4 zs), (a5, aI cI 4 pu), (a6, aN cI 4096 ce), (a7, aN cI 1024 pa), (a8, aN cI 1024 tr), (a9, aI cI 256 so), (a10, aN cI 6 pl), (a11, aN cI 6 ot)] := hD
          refine lv_aload_n hx hb d_M_make_119 rfl (lv_at hl 1 rfl) ?_
          refine va_get (D := D) (ci := 4) (v := .int (nI 1)) (C := R_M) (T := T_M) (N := 12) hx hb (us_M G hW) (fun _ h => h) hown hK hP 0 rfl rfl 0 (by decide) (fl_M_43 G hW) (fun _ h9 => h9) rfl d_M_make_120 ?_
          refine lv_if_ne (tgt := 153) hx hb d_M_make_123 (by decide) (fun c_123 => ?_) (fun c_123 => absurd c_123 (by decide))
          exact mx_vret hx hb hr hlk d_M_make_153 (Nat.le_of_ble_eq_true rfl) (Nat.le_of_ble_eq_true rfl) hS.2.2 (⟨rfl, ki, ka, kb, zs, pu, ce, pa, tr, so, pl, ot, hP, hpic⟩)

set_option maxHeartbeats 4000000 in
set_option maxRecDepth 100000 in
theorem c_M_make_bad_3 {l : Launch} {s0 : State} {D : va_G} {cI cF cJ : ClassId} (G : Gx l s0 D cI cF cJ) (hm a1 a2 a3 a4 a5 a6 a7 a8 a9 a10 a11 : Nat) (th : Int32) (S : Nat → FS) (j : Nat) (a b : Int32) {H0 : Heap} {A0 : Nat → Prop} (hM : MP D cI hm a1 a2 a3 a4 a5 a6 a7 a8 a9 a10 a11 th S H0) (hD : va_D A0 (adM hm a1 a2 a3 a4 a5 a6 a7 a8 a9 a10 a11)) (hok : ∀ i, i < 4 → okS (S i)) (hj : j < 4) (hm9 : mbS (nI 3) a b = false) : Mx l s0 y_M_make (.code y_M_make b_M_make 6 none) { frames := 7, cells := 0, slots := 0, locals := 170 } [.ref hm, .int (nI j), .int (nI 3), .int a, .int b] H0 (Aa [hm, a1, a2, a3, a4, a5, a6, a7, a8, a9, a10, a11] H0.size) (Rn (fun H1 => MP D cI hm a1 a2 a3 a4 a5 a6 a7 a8 a9 a10 a11 (nI 2) S H1)) := by
  refine Mx.ofW (own := "FewBitsModel") rfl rfl ?_
  rintro p e s m below meth c ⟨hx, hb, hml, hr, hown, hW, hlk⟩ hnm het hH
  have hK := G.k hW
  have hD0 := hD
  obtain ⟨ki, ka, kb, zs, pu, ce, pa, tr, so, pl, ot, hP, hpic⟩ := hM
  have hD : va_D (Aa [hm, a1, a2, a3, a4, a5, a6, a7, a8, a9, a10, a11] H0.size) [(hm, .inr (4, [.int th, .ref a1, .ref a2, .ref a3, .ref a4, .ref a5, .ref a6, .ref a7, .ref a8, .ref a9, .ref a10, .ref a11])), (a1, aN cI 4 ki), (a2, aN cI 4 ka), (a3, aN cI 4 kb), (a4, aI cI 4 zs), (a5, aI cI 4 pu), (a6, aN cI 4096 ce), (a7, aN cI 1024 pa), (a8, aN cI 1024 tr), (a9, aI cI 256 so), (a10, aN cI 6 pl), (a11, aN cI 6 ot)] := va_D.same2 [hm, a1, a2, a3, a4, a5, a6, a7, a8, a9, a10, a11] (hD.aa (sz := H0.size)) rfl rfl
  have hS : va_S (Aa [hm, a1, a2, a3, a4, a5, a6, a7, a8, a9, a10, a11] H0.size) H0 H0 [] := va_S.rf
  have hl := lv_entry ([.ref hm, .int (nI j), .int (nI 3), .int a, .int b]) (n := 6) (Nat.le_of_ble_eq_true rfl)
  rw [lg_entry_eq]
  generalize (lg_sl ([.ref hm, .int (nI j), .int (nI 3), .int a, .int b]) ++ List.replicate (6 - (lg_sl ([.ref hm, .int (nI j), .int (nI 3), .int a, .int b])).length) Slot.unset).toArray = ls at hl ⊢
  have hl : lv_has ls 6 [(0, .ref hm), (1, .int (nI j)), (2, .int (nI 3)), (3, .int a), (4, .int b)] := hl
  refine lv_iload_n hx hb d_M_make_0 rfl (lv_at hl 2 rfl) ?_
  refine lv_iconst (v := (nI 1)) hx hb d_M_make_1 (by decide) ?_
  refine lv_icmp_ne (tgt := 29) hx hb d_M_make_2 (by decide) (fun c_2 => ?_) (fun c_2 => absurd c_2 (by decide))
  refine lv_iload_n hx hb d_M_make_29 rfl (lv_at hl 2 rfl) ?_
  refine lv_iconst (v := (nI 2)) hx hb d_M_make_30 (by decide) ?_
  refine lv_icmp_ne (tgt := 58) hx hb d_M_make_31 (by decide) (fun c_31 => ?_) (fun c_31 => absurd c_31 (by decide))
  refine lv_iload_n hx hb d_M_make_58 rfl (lv_at hl 2 rfl) ?_
  refine lv_iconst (v := (nI 3)) hx hb d_M_make_59 (by decide) ?_
  refine lv_icmp_ne (tgt := 91) hx hb d_M_make_60 (by decide) (fun c_60 => absurd (rfl) c_60) (fun c_60 => ?_)
  refine lv_iload_n hx hb d_M_make_63 rfl (lv_at hl 3 rfl) ?_
  refine lv_iconst (v := (nI 2)) hx hb d_M_make_64 (by decide) ?_
  refine lv_icmp_lt (tgt := 91) hx hb d_M_make_65 (by decide) (fun c_65 => ?_) (fun c_65 => ?_)
  · refine lv_iconst (v := (nI 0)) hx hb d_M_make_91 (by decide) ?_
    refine lv_istore (lv' := [(5, .int (nI 0)), (0, .ref hm), (1, .int (nI j)), (2, .int (nI 3)), (3, .int a), (4, .int b)]) hx hb d_M_make_92 hl (by decide) rfl (fun ls hl => ?_)
    refine lv_aload_n hx hb d_M_make_94 rfl (lv_at hl 1 rfl) ?_
    refine lv_iload_n hx hb d_M_make_95 rfl (lv_at hl 2 rfl) ?_
    refine mx_callR (r := .int (bI (isNum (nI j)))) (c_M_isNumber G (nI j)) hW (iv_M_make_96 G hx hb hown hW [.int (nI j)] [.ref hm] rfl) hml hl.1 (by rw [hb]; exact d_M_make_96) (cd_M_isNumber G hW) ⟨Nat.le_of_ble_eq_true rfl, Nat.le_of_ble_eq_true rfl⟩ rfl rfl (Nat.le_of_ble_eq_true rfl) (Nat.le_of_ble_eq_true rfl) (Nat.le_of_ble_eq_true rfl) ?_
    refine tp_i (y := (bI true)) (by rw [isNum_nI hj]) ?_
    refine lv_if_ne (tgt := 106) hx hb d_M_make_99 (by decide) (fun c_99 => ?_) (fun c_99 => absurd c_99 (by decide))
    refine lv_iload hx hb d_M_make_106 (lv_at hl 0 rfl) ?_
    refine lv_if_ne (tgt := 115) hx hb d_M_make_108 (by decide) (fun c_108 => absurd (rfl) c_108) (fun c_108 => ?_)
    refine lv_iconst (v := (nI 2)) hx hb d_M_make_111 (by decide) ?_
    refine lv_goto (tgt := 116) hx hb d_M_make_112 (by decide) ?_
    refine va_put (D := D) (ci := 4) (v := .int (nI 2)) (ty := .int) (C := R_M) (T := T_M) (N := 12) hx hb (us_M G hW) (fun _ h => h) t_M to_M nm_M hown hK hP hD hS 0 rfl rfl 0 (by decide) (fl_M_43 G hW) (fun _ h9 => h9) rfl (by decide +kernel) rfl rfl (Nat.le_of_ble_eq_true rfl) d_M_make_116 (fun H locs hP hD hS => ?_)
    have hP : va_P D vcl [(hm, .inr (4, [.int (nI 2), .ref a1, .ref a2, .ref a3, .ref a4, .ref a5, .ref a6, .ref a7, .ref a8, .ref a9, .ref a10, .ref a11])), (a1, aN cI 4 ki), (a2, aN cI 4 ka), (a3, aN cI 4 kb), (a4, aI cI 4 zs), (a5, aI cI 4 pu), (a6, aN cI 4096 ce), (a7, aN cI 1024 pa), (a8, aN cI 1024 tr), (a9, aI cI 256 so), (a10, aN cI 6 pl), (a11, aN cI 6 ot)] H := hP
    have hD : va_D (Aa [hm, a1, a2, a3, a4, a5, a6, a7, a8, a9, a10, a11] H0.size) [(hm, .inr (4, [.int (nI 2), .ref a1, .ref a2, .ref a3, .ref a4, .ref a5, .ref a6, .ref a7, .ref a8, .ref a9, .ref a10, .ref a11])), (a1, aN cI 4 ki), (a2, aN cI 4 ka), (a3, aN cI 4 kb), (a4, aI cI 4 zs), (a5, aI cI 4 pu), (a6, aN cI 4096 ce), (a7, aN cI 1024 pa), (a8, aN cI 1024 tr), (a9, aI cI 256 so), (a10, aN cI 6 pl), (a11, aN cI 6 ot)] := hD
    refine lv_aload_n hx hb d_M_make_119 rfl (lv_at hl 1 rfl) ?_
    refine va_get (D := D) (ci := 4) (v := .int (nI 2)) (C := R_M) (T := T_M) (N := 12) hx hb (us_M G hW) (fun _ h => h) hown hK hP 0 rfl rfl 0 (by decide) (fl_M_43 G hW) (fun _ h9 => h9) rfl d_M_make_120 ?_
    refine lv_if_ne (tgt := 153) hx hb d_M_make_123 (by decide) (fun c_123 => ?_) (fun c_123 => absurd c_123 (by decide))
    exact mx_vret hx hb hr hlk d_M_make_153 (Nat.le_of_ble_eq_true rfl) (Nat.le_of_ble_eq_true rfl) hS.2.2 (⟨rfl, ki, ka, kb, zs, pu, ce, pa, tr, so, pl, ot, hP, hpic⟩)
  · refine lv_iload_n hx hb d_M_make_68 rfl (lv_at hl 3 rfl) ?_
    refine lv_bipush (v := (nI 8)) hx hb d_M_make_69 (by decide) ?_
    refine lv_icmp_gt (tgt := 91) hx hb d_M_make_71 (by decide) (fun c_71 => ?_) (fun c_71 => ?_)
    · refine lv_iconst (v := (nI 0)) hx hb d_M_make_91 (by decide) ?_
      refine lv_istore (lv' := [(5, .int (nI 0)), (0, .ref hm), (1, .int (nI j)), (2, .int (nI 3)), (3, .int a), (4, .int b)]) hx hb d_M_make_92 hl (by decide) rfl (fun ls hl => ?_)
      refine lv_aload_n hx hb d_M_make_94 rfl (lv_at hl 1 rfl) ?_
      refine lv_iload_n hx hb d_M_make_95 rfl (lv_at hl 2 rfl) ?_
      refine mx_callR (r := .int (bI (isNum (nI j)))) (c_M_isNumber G (nI j)) hW (iv_M_make_96 G hx hb hown hW [.int (nI j)] [.ref hm] rfl) hml hl.1 (by rw [hb]; exact d_M_make_96) (cd_M_isNumber G hW) ⟨Nat.le_of_ble_eq_true rfl, Nat.le_of_ble_eq_true rfl⟩ rfl rfl (Nat.le_of_ble_eq_true rfl) (Nat.le_of_ble_eq_true rfl) (Nat.le_of_ble_eq_true rfl) ?_
      refine tp_i (y := (bI true)) (by rw [isNum_nI hj]) ?_
      refine lv_if_ne (tgt := 106) hx hb d_M_make_99 (by decide) (fun c_99 => ?_) (fun c_99 => absurd c_99 (by decide))
      refine lv_iload hx hb d_M_make_106 (lv_at hl 0 rfl) ?_
      refine lv_if_ne (tgt := 115) hx hb d_M_make_108 (by decide) (fun c_108 => absurd (rfl) c_108) (fun c_108 => ?_)
      refine lv_iconst (v := (nI 2)) hx hb d_M_make_111 (by decide) ?_
      refine lv_goto (tgt := 116) hx hb d_M_make_112 (by decide) ?_
      refine va_put (D := D) (ci := 4) (v := .int (nI 2)) (ty := .int) (C := R_M) (T := T_M) (N := 12) hx hb (us_M G hW) (fun _ h => h) t_M to_M nm_M hown hK hP hD hS 0 rfl rfl 0 (by decide) (fl_M_43 G hW) (fun _ h9 => h9) rfl (by decide +kernel) rfl rfl (Nat.le_of_ble_eq_true rfl) d_M_make_116 (fun H locs hP hD hS => ?_)
      have hP : va_P D vcl [(hm, .inr (4, [.int (nI 2), .ref a1, .ref a2, .ref a3, .ref a4, .ref a5, .ref a6, .ref a7, .ref a8, .ref a9, .ref a10, .ref a11])), (a1, aN cI 4 ki), (a2, aN cI 4 ka), (a3, aN cI 4 kb), (a4, aI cI 4 zs), (a5, aI cI 4 pu), (a6, aN cI 4096 ce), (a7, aN cI 1024 pa), (a8, aN cI 1024 tr), (a9, aI cI 256 so), (a10, aN cI 6 pl), (a11, aN cI 6 ot)] H := hP
      have hD : va_D (Aa [hm, a1, a2, a3, a4, a5, a6, a7, a8, a9, a10, a11] H0.size) [(hm, .inr (4, [.int (nI 2), .ref a1, .ref a2, .ref a3, .ref a4, .ref a5, .ref a6, .ref a7, .ref a8, .ref a9, .ref a10, .ref a11])), (a1, aN cI 4 ki), (a2, aN cI 4 ka), (a3, aN cI 4 kb), (a4, aI cI 4 zs), (a5, aI cI 4 pu), (a6, aN cI 4096 ce), (a7, aN cI 1024 pa), (a8, aN cI 1024 tr), (a9, aI cI 256 so), (a10, aN cI 6 pl), (a11, aN cI 6 ot)] := hD
      refine lv_aload_n hx hb d_M_make_119 rfl (lv_at hl 1 rfl) ?_
      refine va_get (D := D) (ci := 4) (v := .int (nI 2)) (C := R_M) (T := T_M) (N := 12) hx hb (us_M G hW) (fun _ h => h) hown hK hP 0 rfl rfl 0 (by decide) (fl_M_43 G hW) (fun _ h9 => h9) rfl d_M_make_120 ?_
      refine lv_if_ne (tgt := 153) hx hb d_M_make_123 (by decide) (fun c_123 => ?_) (fun c_123 => absurd c_123 (by decide))
      exact mx_vret hx hb hr hlk d_M_make_153 (Nat.le_of_ble_eq_true rfl) (Nat.le_of_ble_eq_true rfl) hS.2.2 (⟨rfl, ki, ka, kb, zs, pu, ce, pa, tr, so, pl, ot, hP, hpic⟩)
    · refine lv_iload hx hb d_M_make_74 (lv_at hl 4 rfl) ?_
      refine lv_iconst (v := (nI 4)) hx hb d_M_make_76 (by decide) ?_
      refine lv_icmp_lt (tgt := 91) hx hb d_M_make_77 (by decide) (fun c_77 => ?_) (fun c_77 => ?_)
      · refine lv_iconst (v := (nI 0)) hx hb d_M_make_91 (by decide) ?_
        refine lv_istore (lv' := [(5, .int (nI 0)), (0, .ref hm), (1, .int (nI j)), (2, .int (nI 3)), (3, .int a), (4, .int b)]) hx hb d_M_make_92 hl (by decide) rfl (fun ls hl => ?_)
        refine lv_aload_n hx hb d_M_make_94 rfl (lv_at hl 1 rfl) ?_
        refine lv_iload_n hx hb d_M_make_95 rfl (lv_at hl 2 rfl) ?_
        refine mx_callR (r := .int (bI (isNum (nI j)))) (c_M_isNumber G (nI j)) hW (iv_M_make_96 G hx hb hown hW [.int (nI j)] [.ref hm] rfl) hml hl.1 (by rw [hb]; exact d_M_make_96) (cd_M_isNumber G hW) ⟨Nat.le_of_ble_eq_true rfl, Nat.le_of_ble_eq_true rfl⟩ rfl rfl (Nat.le_of_ble_eq_true rfl) (Nat.le_of_ble_eq_true rfl) (Nat.le_of_ble_eq_true rfl) ?_
        refine tp_i (y := (bI true)) (by rw [isNum_nI hj]) ?_
        refine lv_if_ne (tgt := 106) hx hb d_M_make_99 (by decide) (fun c_99 => ?_) (fun c_99 => absurd c_99 (by decide))
        refine lv_iload hx hb d_M_make_106 (lv_at hl 0 rfl) ?_
        refine lv_if_ne (tgt := 115) hx hb d_M_make_108 (by decide) (fun c_108 => absurd (rfl) c_108) (fun c_108 => ?_)
        refine lv_iconst (v := (nI 2)) hx hb d_M_make_111 (by decide) ?_
        refine lv_goto (tgt := 116) hx hb d_M_make_112 (by decide) ?_
        refine va_put (D := D) (ci := 4) (v := .int (nI 2)) (ty := .int) (C := R_M) (T := T_M) (N := 12) hx hb (us_M G hW) (fun _ h => h) t_M to_M nm_M hown hK hP hD hS 0 rfl rfl 0 (by decide) (fl_M_43 G hW) (fun _ h9 => h9) rfl (by decide +kernel) rfl rfl (Nat.le_of_ble_eq_true rfl) d_M_make_116 (fun H locs hP hD hS => ?_)
        have hP : va_P D vcl [(hm, .inr (4, [.int (nI 2), .ref a1, .ref a2, .ref a3, .ref a4, .ref a5, .ref a6, .ref a7, .ref a8, .ref a9, .ref a10, .ref a11])), (a1, aN cI 4 ki), (a2, aN cI 4 ka), (a3, aN cI 4 kb), (a4, aI cI 4 zs), (a5, aI cI 4 pu), (a6, aN cI 4096 ce), (a7, aN cI 1024 pa), (a8, aN cI 1024 tr), (a9, aI cI 256 so), (a10, aN cI 6 pl), (a11, aN cI 6 ot)] H := hP
        have hD : va_D (Aa [hm, a1, a2, a3, a4, a5, a6, a7, a8, a9, a10, a11] H0.size) [(hm, .inr (4, [.int (nI 2), .ref a1, .ref a2, .ref a3, .ref a4, .ref a5, .ref a6, .ref a7, .ref a8, .ref a9, .ref a10, .ref a11])), (a1, aN cI 4 ki), (a2, aN cI 4 ka), (a3, aN cI 4 kb), (a4, aI cI 4 zs), (a5, aI cI 4 pu), (a6, aN cI 4096 ce), (a7, aN cI 1024 pa), (a8, aN cI 1024 tr), (a9, aI cI 256 so), (a10, aN cI 6 pl), (a11, aN cI 6 ot)] := hD
        refine lv_aload_n hx hb d_M_make_119 rfl (lv_at hl 1 rfl) ?_
        refine va_get (D := D) (ci := 4) (v := .int (nI 2)) (C := R_M) (T := T_M) (N := 12) hx hb (us_M G hW) (fun _ h => h) hown hK hP 0 rfl rfl 0 (by decide) (fl_M_43 G hW) (fun _ h9 => h9) rfl d_M_make_120 ?_
        refine lv_if_ne (tgt := 153) hx hb d_M_make_123 (by decide) (fun c_123 => ?_) (fun c_123 => absurd c_123 (by decide))
        exact mx_vret hx hb hr hlk d_M_make_153 (Nat.le_of_ble_eq_true rfl) (Nat.le_of_ble_eq_true rfl) hS.2.2 (⟨rfl, ki, ka, kb, zs, pu, ce, pa, tr, so, pl, ot, hP, hpic⟩)
      · refine lv_iload hx hb d_M_make_80 (lv_at hl 4 rfl) ?_
        refine lv_bipush (v := (nI 20)) hx hb d_M_make_82 (by decide) ?_
        refine lv_icmp_gt (tgt := 91) hx hb d_M_make_84 (by decide) (fun c_84 => ?_) (fun c_84 => absurd (Decidable.of_not_not (fun h9 => mb_3 hm9 c_65 c_71 c_77 h9)) c_84)
        refine lv_iconst (v := (nI 0)) hx hb d_M_make_91 (by decide) ?_
        refine lv_istore (lv' := [(5, .int (nI 0)), (0, .ref hm), (1, .int (nI j)), (2, .int (nI 3)), (3, .int a), (4, .int b)]) hx hb d_M_make_92 hl (by decide) rfl (fun ls hl => ?_)
        refine lv_aload_n hx hb d_M_make_94 rfl (lv_at hl 1 rfl) ?_
        refine lv_iload_n hx hb d_M_make_95 rfl (lv_at hl 2 rfl) ?_
        refine mx_callR (r := .int (bI (isNum (nI j)))) (c_M_isNumber G (nI j)) hW (iv_M_make_96 G hx hb hown hW [.int (nI j)] [.ref hm] rfl) hml hl.1 (by rw [hb]; exact d_M_make_96) (cd_M_isNumber G hW) ⟨Nat.le_of_ble_eq_true rfl, Nat.le_of_ble_eq_true rfl⟩ rfl rfl (Nat.le_of_ble_eq_true rfl) (Nat.le_of_ble_eq_true rfl) (Nat.le_of_ble_eq_true rfl) ?_
        refine tp_i (y := (bI true)) (by rw [isNum_nI hj]) ?_
        refine lv_if_ne (tgt := 106) hx hb d_M_make_99 (by decide) (fun c_99 => ?_) (fun c_99 => absurd c_99 (by decide))
        refine lv_iload hx hb d_M_make_106 (lv_at hl 0 rfl) ?_
        refine lv_if_ne (tgt := 115) hx hb d_M_make_108 (by decide) (fun c_108 => absurd (rfl) c_108) (fun c_108 => ?_)
        refine lv_iconst (v := (nI 2)) hx hb d_M_make_111 (by decide) ?_
        refine lv_goto (tgt := 116) hx hb d_M_make_112 (by decide) ?_
        refine va_put (D := D) (ci := 4) (v := .int (nI 2)) (ty := .int) (C := R_M) (T := T_M) (N := 12) hx hb (us_M G hW) (fun _ h => h) t_M to_M nm_M hown hK hP hD hS 0 rfl rfl 0 (by decide) (fl_M_43 G hW) (fun _ h9 => h9) rfl (by decide +kernel) rfl rfl (Nat.le_of_ble_eq_true rfl) d_M_make_116 (fun H locs hP hD hS => ?_)
        have hP : va_P D vcl [(hm, .inr (4, [.int (nI 2), .ref a1, .ref a2, .ref a3, .ref a4, .ref a5, .ref a6, .ref a7, .ref a8, .ref a9, .ref a10, .ref a11])), (a1, aN cI 4 ki), (a2, aN cI 4 ka), (a3, aN cI 4 kb), (a4, aI cI 4 zs), (a5, aI cI 4 pu), (a6, aN cI 4096 ce), (a7, aN cI 1024 pa), (a8, aN cI 1024 tr), (a9, aI cI 256 so), (a10, aN cI 6 pl), (a11, aN cI 6 ot)] H := hP
        have hD : va_D (Aa [hm, a1, a2, a3, a4, a5, a6, a7, a8, a9, a10, a11] H0.size) [(hm, .inr (4, [.int (nI 2), .ref a1, .ref a2, .ref a3, .ref a4, .ref a5, .ref a6, .ref a7, .ref a8, .ref a9, .ref a10, .ref a11])), (a1, aN cI 4 ki), (a2, aN cI 4 ka), (a3, aN cI 4 kb), (a4, aI cI 4 zs), (a5, aI cI 4 pu), (a6, aN cI 4096 ce), (a7, aN cI 1024 pa), (a8, aN cI 1024 tr), (a9, aI cI 256 so), (a10, aN cI 6 pl), (a11, aN cI 6 ot)] := hD
        refine lv_aload_n hx hb d_M_make_119 rfl (lv_at hl 1 rfl) ?_
        refine va_get (D := D) (ci := 4) (v := .int (nI 2)) (C := R_M) (T := T_M) (N := 12) hx hb (us_M G hW) (fun _ h => h) hown hK hP 0 rfl rfl 0 (by decide) (fl_M_43 G hW) (fun _ h9 => h9) rfl d_M_make_120 ?_
        refine lv_if_ne (tgt := 153) hx hb d_M_make_123 (by decide) (fun c_123 => ?_) (fun c_123 => absurd c_123 (by decide))
        exact mx_vret hx hb hr hlk d_M_make_153 (Nat.le_of_ble_eq_true rfl) (Nat.le_of_ble_eq_true rfl) hS.2.2 (⟨rfl, ki, ka, kb, zs, pu, ce, pa, tr, so, pl, ot, hP, hpic⟩)

set_option maxHeartbeats 4000000 in
set_option maxRecDepth 100000 in
theorem c_M_make_3 {l : Launch} {s0 : State} {D : va_G} {cI cF cJ : ClassId} (G : Gx l s0 D cI cF cJ) (hm a1 a2 a3 a4 a5 a6 a7 a8 a9 a10 a11 : Nat) (th : Int32) (S : Nat → FS) (j A B : Nat) (f : Nat → Nat) {H0 : Heap} {A0 : Nat → Prop} (hM : MP D cI hm a1 a2 a3 a4 a5 a6 a7 a8 a9 a10 a11 th S H0) (hD : va_D A0 (adM hm a1 a2 a3 a4 a5 a6 a7 a8 a9 a10 a11)) (hok : ∀ i, i < 4 → okS (S i)) (hj : j < 4) (hm9 : (¬ nI A < nI 2 ∧ nI A ≤ nI 8) ∧ (¬ nI B < nI 4 ∧ nI B ≤ nI 20)) : Mx l s0 y_M_make (.code y_M_make b_M_make 6 none) { frames := 7, cells := 0, slots := 0, locals := 170 } [.ref hm, .int (nI j), .int (nI 3), .int (nI A), .int (nI B)] H0 (Aa [hm, a1, a2, a3, a4, a5, a6, a7, a8, a9, a10, a11] H0.size) (Rn (fun H1 => MP D cI hm a1 a2 a3 a4 a5 a6 a7 a8 a9 a10 a11 (nI 0) (va_up S j (mkS 3 A B f)) H1)) := by
  refine Mx.ofW (own := "FewBitsModel") rfl rfl ?_
  rintro p e s m below meth c ⟨hx, hb, hml, hr, hown, hW, hlk⟩ hnm het hH
  have hK := G.k hW
  have hD0 := hD
  obtain ⟨ki, ka, kb, zs, pu, ce, pa, tr, so, pl, ot, hP, hpic⟩ := hM
  have hD : va_D (Aa [hm, a1, a2, a3, a4, a5, a6, a7, a8, a9, a10, a11] H0.size) [(hm, .inr (4, [.int th, .ref a1, .ref a2, .ref a3, .ref a4, .ref a5, .ref a6, .ref a7, .ref a8, .ref a9, .ref a10, .ref a11])), (a1, aN cI 4 ki), (a2, aN cI 4 ka), (a3, aN cI 4 kb), (a4, aI cI 4 zs), (a5, aI cI 4 pu), (a6, aN cI 4096 ce), (a7, aN cI 1024 pa), (a8, aN cI 1024 tr), (a9, aI cI 256 so), (a10, aN cI 6 pl), (a11, aN cI 6 ot)] := va_D.same2 [hm, a1, a2, a3, a4, a5, a6, a7, a8, a9, a10, a11] (hD.aa (sz := H0.size)) rfl rfl
  have hS : va_S (Aa [hm, a1, a2, a3, a4, a5, a6, a7, a8, a9, a10, a11] H0.size) H0 H0 [] := va_S.rf
  have hl := lv_entry ([.ref hm, .int (nI j), .int (nI 3), .int (nI A), .int (nI B)]) (n := 6) (Nat.le_of_ble_eq_true rfl)
  rw [lg_entry_eq]
  generalize (lg_sl ([.ref hm, .int (nI j), .int (nI 3), .int (nI A), .int (nI B)]) ++ List.replicate (6 - (lg_sl ([.ref hm, .int (nI j), .int (nI 3), .int (nI A), .int (nI B)])).length) Slot.unset).toArray = ls at hl ⊢
  have hl : lv_has ls 6 [(0, .ref hm), (1, .int (nI j)), (2, .int (nI 3)), (3, .int (nI A)), (4, .int (nI B))] := hl
  refine lv_iload_n hx hb d_M_make_0 rfl (lv_at hl 2 rfl) ?_
  refine lv_iconst (v := (nI 1)) hx hb d_M_make_1 (by decide) ?_
  refine lv_icmp_ne (tgt := 29) hx hb d_M_make_2 (by decide) (fun c_2 => ?_) (fun c_2 => absurd c_2 (by decide))
  refine lv_iload_n hx hb d_M_make_29 rfl (lv_at hl 2 rfl) ?_
  refine lv_iconst (v := (nI 2)) hx hb d_M_make_30 (by decide) ?_
  refine lv_icmp_ne (tgt := 58) hx hb d_M_make_31 (by decide) (fun c_31 => ?_) (fun c_31 => absurd c_31 (by decide))
  refine lv_iload_n hx hb d_M_make_58 rfl (lv_at hl 2 rfl) ?_
  refine lv_iconst (v := (nI 3)) hx hb d_M_make_59 (by decide) ?_
  refine lv_icmp_ne (tgt := 91) hx hb d_M_make_60 (by decide) (fun c_60 => absurd (rfl) c_60) (fun c_60 => ?_)
  refine lv_iload_n hx hb d_M_make_63 rfl (lv_at hl 3 rfl) ?_
  refine lv_iconst (v := (nI 2)) hx hb d_M_make_64 (by decide) ?_
  refine lv_icmp_lt (tgt := 91) hx hb d_M_make_65 (by decide) (fun c_65 => absurd c_65 (hm9.1.1)) (fun c_65 => ?_)
  refine lv_iload_n hx hb d_M_make_68 rfl (lv_at hl 3 rfl) ?_
  refine lv_bipush (v := (nI 8)) hx hb d_M_make_69 (by decide) ?_
  refine lv_icmp_gt (tgt := 91) hx hb d_M_make_71 (by decide) (fun c_71 => absurd c_71 (Int32.not_lt.mpr hm9.1.2)) (fun c_71 => ?_)
  refine lv_iload hx hb d_M_make_74 (lv_at hl 4 rfl) ?_
  refine lv_iconst (v := (nI 4)) hx hb d_M_make_76 (by decide) ?_
  refine lv_icmp_lt (tgt := 91) hx hb d_M_make_77 (by decide) (fun c_77 => absurd c_77 (hm9.2.1)) (fun c_77 => ?_)
  refine lv_iload hx hb d_M_make_80 (lv_at hl 4 rfl) ?_
  refine lv_bipush (v := (nI 20)) hx hb d_M_make_82 (by decide) ?_
  refine lv_icmp_gt (tgt := 91) hx hb d_M_make_84 (by decide) (fun c_84 => absurd c_84 (Int32.not_lt.mpr hm9.2.2)) (fun c_84 => ?_)
  refine lv_iconst (v := (nI 1)) hx hb d_M_make_87 (by decide) ?_
  refine lv_goto (tgt := 92) hx hb d_M_make_88 (by decide) ?_
  refine lv_istore (lv' := [(5, .int (nI 1)), (0, .ref hm), (1, .int (nI j)), (2, .int (nI 3)), (3, .int (nI A)), (4, .int (nI B))]) hx hb d_M_make_92 hl (by decide) rfl (fun ls hl => ?_)
  refine lv_aload_n hx hb d_M_make_94 rfl (lv_at hl 1 rfl) ?_
  refine lv_iload_n hx hb d_M_make_95 rfl (lv_at hl 2 rfl) ?_
  refine mx_callR (r := .int (bI (isNum (nI j)))) (c_M_isNumber G (nI j)) hW (iv_M_make_96 G hx hb hown hW [.int (nI j)] [.ref hm] rfl) hml hl.1 (by rw [hb]; exact d_M_make_96) (cd_M_isNumber G hW) ⟨Nat.le_of_ble_eq_true rfl, Nat.le_of_ble_eq_true rfl⟩ rfl rfl (Nat.le_of_ble_eq_true rfl) (Nat.le_of_ble_eq_true rfl) (Nat.le_of_ble_eq_true rfl) ?_
  refine tp_i (y := (bI true)) (by rw [isNum_nI hj]) ?_
  refine lv_if_ne (tgt := 106) hx hb d_M_make_99 (by decide) (fun c_99 => ?_) (fun c_99 => absurd c_99 (by decide))
  refine lv_iload hx hb d_M_make_106 (lv_at hl 0 rfl) ?_
  refine lv_if_ne (tgt := 115) hx hb d_M_make_108 (by decide) (fun c_108 => ?_) (fun c_108 => absurd c_108 (by decide))
  refine lv_iconst (v := (nI 0)) hx hb d_M_make_115 (by decide) ?_
  refine va_put (D := D) (ci := 4) (v := .int (nI 0)) (ty := .int) (C := R_M) (T := T_M) (N := 12) hx hb (us_M G hW) (fun _ h => h) t_M to_M nm_M hown hK hP hD hS 0 rfl rfl 0 (by decide) (fl_M_43 G hW) (fun _ h9 => h9) rfl (by decide +kernel) rfl rfl (Nat.le_of_ble_eq_true rfl) d_M_make_116 (fun H locs hP hD hS => ?_)
  have hP : va_P D vcl [(hm, .inr (4, [.int (nI 0), .ref a1, .ref a2, .ref a3, .ref a4, .ref a5, .ref a6, .ref a7, .ref a8, .ref a9, .ref a10, .ref a11])), (a1, aN cI 4 ki), (a2, aN cI 4 ka), (a3, aN cI 4 kb), (a4, aI cI 4 zs), (a5, aI cI 4 pu), (a6, aN cI 4096 ce), (a7, aN cI 1024 pa), (a8, aN cI 1024 tr), (a9, aI cI 256 so), (a10, aN cI 6 pl), (a11, aN cI 6 ot)] H := hP
  have hD : va_D (Aa [hm, a1, a2, a3, a4, a5, a6, a7, a8, a9, a10, a11] H0.size) [(hm, .inr (4, [.int (nI 0), .ref a1, .ref a2, .ref a3, .ref a4, .ref a5, .ref a6, .ref a7, .ref a8, .ref a9, .ref a10, .ref a11])), (a1, aN cI 4 ki), (a2, aN cI 4 ka), (a3, aN cI 4 kb), (a4, aI cI 4 zs), (a5, aI cI 4 pu), (a6, aN cI 4096 ce), (a7, aN cI 1024 pa), (a8, aN cI 1024 tr), (a9, aI cI 256 so), (a10, aN cI 6 pl), (a11, aN cI 6 ot)] := hD
  refine lv_aload_n hx hb d_M_make_119 rfl (lv_at hl 1 rfl) ?_
  refine va_get (D := D) (ci := 4) (v := .int (nI 0)) (C := R_M) (T := T_M) (N := 12) hx hb (us_M G hW) (fun _ h => h) hown hK hP 0 rfl rfl 0 (by decide) (fl_M_43 G hW) (fun _ h9 => h9) rfl d_M_make_120 ?_
  refine lv_if_ne (tgt := 153) hx hb d_M_make_123 (by decide) (fun c_123 => absurd (rfl) c_123) (fun c_123 => ?_)
  refine lv_aload_n hx hb d_M_make_126 rfl (lv_at hl 1 rfl) ?_
  refine va_get (D := D) (ci := 4) (v := .ref a1) (C := R_M) (T := T_M) (N := 12) hx hb (us_M G hW) (fun _ h => h) hown hK hP 0 rfl rfl 1 (by decide) (fl_M_7 G hW) (fun _ h9 => h9) rfl d_M_make_127 ?_
  refine lv_iload_n hx hb d_M_make_130 rfl (lv_at hl 2 rfl) ?_
  refine lv_iload_n hx hb d_M_make_131 rfl (lv_at hl 3 rfl) ?_
  refine ia_stN hx hb hK hP hD hS 1 (j := j) (x := 3) (f := ki) rfl (hj) (by decide) d_M_make_132 (fun H locs hP hD hS => ?_)
  have hP : va_P D vcl [(hm, .inr (4, [.int (nI 0), .ref a1, .ref a2, .ref a3, .ref a4, .ref a5, .ref a6, .ref a7, .ref a8, .ref a9, .ref a10, .ref a11])), (a1, aN cI 4 (va_up ki j 3)), (a2, aN cI 4 ka), (a3, aN cI 4 kb), (a4, aI cI 4 zs), (a5, aI cI 4 pu), (a6, aN cI 4096 ce), (a7, aN cI 1024 pa), (a8, aN cI 1024 tr), (a9, aI cI 256 so), (a10, aN cI 6 pl), (a11, aN cI 6 ot)] H := hP
  have hD : va_D (Aa [hm, a1, a2, a3, a4, a5, a6, a7, a8, a9, a10, a11] H0.size) [(hm, .inr (4, [.int (nI 0), .ref a1, .ref a2, .ref a3, .ref a4, .ref a5, .ref a6, .ref a7, .ref a8, .ref a9, .ref a10, .ref a11])), (a1, aN cI 4 (va_up ki j 3)), (a2, aN cI 4 ka), (a3, aN cI 4 kb), (a4, aI cI 4 zs), (a5, aI cI 4 pu), (a6, aN cI 4096 ce), (a7, aN cI 1024 pa), (a8, aN cI 1024 tr), (a9, aI cI 256 so), (a10, aN cI 6 pl), (a11, aN cI 6 ot)] := hD
  refine lv_aload_n hx hb d_M_make_133 rfl (lv_at hl 1 rfl) ?_
  refine va_get (D := D) (ci := 4) (v := .ref a2) (C := R_M) (T := T_M) (N := 12) hx hb (us_M G hW) (fun _ h => h) hown hK hP 0 rfl rfl 2 (by decide) (fl_M_13 G hW) (fun _ h9 => h9) rfl d_M_make_134 ?_
  refine lv_iload_n hx hb d_M_make_137 rfl (lv_at hl 2 rfl) ?_
  refine lv_iload_n hx hb d_M_make_138 rfl (lv_at hl 4 rfl) ?_
  refine ia_stN hx hb hK hP hD hS 2 (j := j) (x := A) (f := ka) rfl (hj) (by decide) d_M_make_139 (fun H locs hP hD hS => ?_)
  have hP : va_P D vcl [(hm, .inr (4, [.int (nI 0), .ref a1, .ref a2, .ref a3, .ref a4, .ref a5, .ref a6, .ref a7, .ref a8, .ref a9, .ref a10, .ref a11])), (a1, aN cI 4 (va_up ki j 3)), (a2, aN cI 4 (va_up ka j A)), (a3, aN cI 4 kb), (a4, aI cI 4 zs), (a5, aI cI 4 pu), (a6, aN cI 4096 ce), (a7, aN cI 1024 pa), (a8, aN cI 1024 tr), (a9, aI cI 256 so), (a10, aN cI 6 pl), (a11, aN cI 6 ot)] H := hP
  have hD : va_D (Aa [hm, a1, a2, a3, a4, a5, a6, a7, a8, a9, a10, a11] H0.size) [(hm, .inr (4, [.int (nI 0), .ref a1, .ref a2, .ref a3, .ref a4, .ref a5, .ref a6, .ref a7, .ref a8, .ref a9, .ref a10, .ref a11])), (a1, aN cI 4 (va_up ki j 3)), (a2, aN cI 4 (va_up ka j A)), (a3, aN cI 4 kb), (a4, aI cI 4 zs), (a5, aI cI 4 pu), (a6, aN cI 4096 ce), (a7, aN cI 1024 pa), (a8, aN cI 1024 tr), (a9, aI cI 256 so), (a10, aN cI 6 pl), (a11, aN cI 6 ot)] := hD
  refine lv_aload_n hx hb d_M_make_140 rfl (lv_at hl 1 rfl) ?_
  refine va_get (D := D) (ci := 4) (v := .ref a3) (C := R_M) (T := T_M) (N := 12) hx hb (us_M G hW) (fun _ h => h) hown hK hP 0 rfl rfl 3 (by decide) (fl_M_16 G hW) (fun _ h9 => h9) rfl d_M_make_141 ?_
  refine lv_iload_n hx hb d_M_make_144 rfl (lv_at hl 2 rfl) ?_
  refine lv_iload hx hb d_M_make_145 (lv_at hl 5 rfl) ?_
  refine ia_stN hx hb hK hP hD hS 3 (j := j) (x := B) (f := kb) rfl (hj) (by decide) d_M_make_147 (fun H locs hP hD hS => ?_)
  have hP : va_P D vcl [(hm, .inr (4, [.int (nI 0), .ref a1, .ref a2, .ref a3, .ref a4, .ref a5, .ref a6, .ref a7, .ref a8, .ref a9, .ref a10, .ref a11])), (a1, aN cI 4 (va_up ki j 3)), (a2, aN cI 4 (va_up ka j A)), (a3, aN cI 4 (va_up kb j B)), (a4, aI cI 4 zs), (a5, aI cI 4 pu), (a6, aN cI 4096 ce), (a7, aN cI 1024 pa), (a8, aN cI 1024 tr), (a9, aI cI 256 so), (a10, aN cI 6 pl), (a11, aN cI 6 ot)] H := hP
  have hD : va_D (Aa [hm, a1, a2, a3, a4, a5, a6, a7, a8, a9, a10, a11] H0.size) [(hm, .inr (4, [.int (nI 0), .ref a1, .ref a2, .ref a3, .ref a4, .ref a5, .ref a6, .ref a7, .ref a8, .ref a9, .ref a10, .ref a11])), (a1, aN cI 4 (va_up ki j 3)), (a2, aN cI 4 (va_up ka j A)), (a3, aN cI 4 (va_up kb j B)), (a4, aI cI 4 zs), (a5, aI cI 4 pu), (a6, aN cI 4096 ce), (a7, aN cI 1024 pa), (a8, aN cI 1024 tr), (a9, aI cI 256 so), (a10, aN cI 6 pl), (a11, aN cI 6 ot)] := hD
  refine lv_aload_n hx hb d_M_make_148 rfl (lv_at hl 1 rfl) ?_
  refine lv_iload_n hx hb d_M_make_149 rfl (lv_at hl 2 rfl) ?_
  refine mx_callN (c_M_empty G hm a1 a2 a3 a4 a5 a6 a7 a8 a9 a10 a11 (nI 0) (va_up ki j 3) (va_up ka j A) (va_up kb j B) zs pu ce pa tr so pl ot j hP hD hj) hW (iv_M_make_150 G hx hb hown hW (va_recv hK hP (ci := 4) (q0 := 0) rfl rfl) [.int (nI j)] [] rfl) hml hl.1 (by rw [hb]; exact d_M_make_150) (cd_M_empty G hW) ⟨Nat.le_of_ble_eq_true rfl, Nat.le_of_ble_eq_true rfl⟩ (Nat.le_of_ble_eq_true rfl) (Nat.le_of_ble_eq_true rfl) (Nat.le_of_ble_eq_true rfl) hS (Aa.mono (fun _ h => h) hS.1) (fun H locs hP _ _ hS => ?_)
  have hP : va_P D vcl [(hm, .inr (4, [.int (nI 0), .ref a1, .ref a2, .ref a3, .ref a4, .ref a5, .ref a6, .ref a7, .ref a8, .ref a9, .ref a10, .ref a11])), (a1, aN cI 4 (va_up ki j 3)), (a2, aN cI 4 (va_up ka j A)), (a3, aN cI 4 (va_up kb j B)), (a4, aI cI 4 (upd zs j (nI 0))), (a5, aI cI 4 (upd pu j (nI 0))), (a6, aN cI 4096 (stO 1024 ce (1024 * j) (fun _ => 0))), (a7, aN cI 1024 pa), (a8, aN cI 1024 tr), (a9, aI cI 256 so), (a10, aN cI 6 pl), (a11, aN cI 6 ot)] H := hP
  have hD : va_D (Aa [hm, a1, a2, a3, a4, a5, a6, a7, a8, a9, a10, a11] H0.size) [(hm, .inr (4, [.int (nI 0), .ref a1, .ref a2, .ref a3, .ref a4, .ref a5, .ref a6, .ref a7, .ref a8, .ref a9, .ref a10, .ref a11])), (a1, aN cI 4 (va_up ki j 3)), (a2, aN cI 4 (va_up ka j A)), (a3, aN cI 4 (va_up kb j B)), (a4, aI cI 4 (upd zs j (nI 0))), (a5, aI cI 4 (upd pu j (nI 0))), (a6, aN cI 4096 (stO 1024 ce (1024 * j) (fun _ => 0))), (a7, aN cI 1024 pa), (a8, aN cI 1024 tr), (a9, aI cI 256 so), (a10, aN cI 6 pl), (a11, aN cI 6 ot)] := va_D.same2 [hm, a1, a2, a3, a4, a5, a6, a7, a8, a9, a10, a11] hD rfl rfl
  exact mx_vret hx hb hr hlk d_M_make_153 (Nat.le_of_ble_eq_true rfl) (Nat.le_of_ble_eq_true rfl) hS.2.2 (⟨rfl, _, _, _, _, _, _, pa, tr, so, pl, ot, hP, pics_up hpic hok ⟨va_up_self _ _ _, fun _ => ⟨va_up_self _ _ _, va_up_self _ _ _, upd_eq⟩, fun _ q h9 => vw_stO h9, fun _ => upd_eq, fun _ i hi => absurd hi (Nat.not_lt_zero _), pic_pa (hpic j hj)⟩ vup_off vup_off vup_off upd_off upd_off offC idP⟩)

set_option maxHeartbeats 4000000 in
set_option maxRecDepth 100000 in
theorem c_M_make_no_n {l : Launch} {s0 : State} {D : va_G} {cI cF cJ : ClassId} (G : Gx l s0 D cI cF cJ) (hm a1 a2 a3 a4 a5 a6 a7 a8 a9 a10 a11 : Nat) (th : Int32) (S : Nat → FS) (v : Int32) (k9 a b : Int32) {H0 : Heap} {A0 : Nat → Prop} (hM : MP D cI hm a1 a2 a3 a4 a5 a6 a7 a8 a9 a10 a11 th S H0) (hD : va_D A0 (adM hm a1 a2 a3 a4 a5 a6 a7 a8 a9 a10 a11)) (hok : ∀ i, i < 4 → okS (S i)) (hv : isNum v = false) (h1 : ¬ k9 = nI 1) (h2 : ¬ k9 = nI 2) (h3 : ¬ k9 = nI 3) : Mx l s0 y_M_make (.code y_M_make b_M_make 6 none) { frames := 7, cells := 0, slots := 0, locals := 170 } [.ref hm, .int v, .int k9, .int a, .int b] H0 (Aa [hm, a1, a2, a3, a4, a5, a6, a7, a8, a9, a10, a11] H0.size) (Rn (fun H1 => MP D cI hm a1 a2 a3 a4 a5 a6 a7 a8 a9 a10 a11 (nI 1) S H1)) := by
  refine Mx.ofW (own := "FewBitsModel") rfl rfl ?_
  rintro p e s m below meth c ⟨hx, hb, hml, hr, hown, hW, hlk⟩ hnm het hH
  have hK := G.k hW
  have hD0 := hD
  obtain ⟨ki, ka, kb, zs, pu, ce, pa, tr, so, pl, ot, hP, hpic⟩ := hM
  have hD : va_D (Aa [hm, a1, a2, a3, a4, a5, a6, a7, a8, a9, a10, a11] H0.size) [(hm, .inr (4, [.int th, .ref a1, .ref a2, .ref a3, .ref a4, .ref a5, .ref a6, .ref a7, .ref a8, .ref a9, .ref a10, .ref a11])), (a1, aN cI 4 ki), (a2, aN cI 4 ka), (a3, aN cI 4 kb), (a4, aI cI 4 zs), (a5, aI cI 4 pu), (a6, aN cI 4096 ce), (a7, aN cI 1024 pa), (a8, aN cI 1024 tr), (a9, aI cI 256 so), (a10, aN cI 6 pl), (a11, aN cI 6 ot)] := va_D.same2 [hm, a1, a2, a3, a4, a5, a6, a7, a8, a9, a10, a11] (hD.aa (sz := H0.size)) rfl rfl
  have hS : va_S (Aa [hm, a1, a2, a3, a4, a5, a6, a7, a8, a9, a10, a11] H0.size) H0 H0 [] := va_S.rf
  have hl := lv_entry ([.ref hm, .int v, .int k9, .int a, .int b]) (n := 6) (Nat.le_of_ble_eq_true rfl)
  rw [lg_entry_eq]
  generalize (lg_sl ([.ref hm, .int v, .int k9, .int a, .int b]) ++ List.replicate (6 - (lg_sl ([.ref hm, .int v, .int k9, .int a, .int b])).length) Slot.unset).toArray = ls at hl ⊢
  have hl : lv_has ls 6 [(0, .ref hm), (1, .int v), (2, .int k9), (3, .int a), (4, .int b)] := hl
  refine lv_iload_n hx hb d_M_make_0 rfl (lv_at hl 2 rfl) ?_
  refine lv_iconst (v := (nI 1)) hx hb d_M_make_1 (by decide) ?_
  refine lv_icmp_ne (tgt := 29) hx hb d_M_make_2 (by decide) (fun c_2 => ?_) (fun c_2 => absurd c_2 (h1))
  refine lv_iload_n hx hb d_M_make_29 rfl (lv_at hl 2 rfl) ?_
  refine lv_iconst (v := (nI 2)) hx hb d_M_make_30 (by decide) ?_
  refine lv_icmp_ne (tgt := 58) hx hb d_M_make_31 (by decide) (fun c_31 => ?_) (fun c_31 => absurd c_31 (h2))
  refine lv_iload_n hx hb d_M_make_58 rfl (lv_at hl 2 rfl) ?_
  refine lv_iconst (v := (nI 3)) hx hb d_M_make_59 (by decide) ?_
  refine lv_icmp_ne (tgt := 91) hx hb d_M_make_60 (by decide) (fun c_60 => ?_) (fun c_60 => absurd c_60 (h3))
  refine lv_iconst (v := (nI 0)) hx hb d_M_make_91 (by decide) ?_
  refine lv_istore (lv' := [(5, .int (nI 0)), (0, .ref hm), (1, .int v), (2, .int k9), (3, .int a), (4, .int b)]) hx hb d_M_make_92 hl (by decide) rfl (fun ls hl => ?_)
  refine lv_aload_n hx hb d_M_make_94 rfl (lv_at hl 1 rfl) ?_
  refine lv_iload_n hx hb d_M_make_95 rfl (lv_at hl 2 rfl) ?_
  refine mx_callR (r := .int (bI (isNum v))) (c_M_isNumber G v) hW (iv_M_make_96 G hx hb hown hW [.int v] [.ref hm] rfl) hml hl.1 (by rw [hb]; exact d_M_make_96) (cd_M_isNumber G hW) ⟨Nat.le_of_ble_eq_true rfl, Nat.le_of_ble_eq_true rfl⟩ rfl rfl (Nat.le_of_ble_eq_true rfl) (Nat.le_of_ble_eq_true rfl) (Nat.le_of_ble_eq_true rfl) ?_
  refine tp_i (y := (bI false)) (by rw [hv]) ?_
  refine lv_if_ne (tgt := 106) hx hb d_M_make_99 (by decide) (fun c_99 => absurd (rfl) c_99) (fun c_99 => ?_)
  refine lv_iconst (v := (nI 1)) hx hb d_M_make_102 (by decide) ?_
  refine lv_goto (tgt := 116) hx hb d_M_make_103 (by decide) ?_
  refine va_put (D := D) (ci := 4) (v := .int (nI 1)) (ty := .int) (C := R_M) (T := T_M) (N := 12) hx hb (us_M G hW) (fun _ h => h) t_M to_M nm_M hown hK hP hD hS 0 rfl rfl 0 (by decide) (fl_M_43 G hW) (fun _ h9 => h9) rfl (by decide +kernel) rfl rfl (Nat.le_of_ble_eq_true rfl) d_M_make_116 (fun H locs hP hD hS => ?_)
  have hP : va_P D vcl [(hm, .inr (4, [.int (nI 1), .ref a1, .ref a2, .ref a3, .ref a4, .ref a5, .ref a6, .ref a7, .ref a8, .ref a9, .ref a10, .ref a11])), (a1, aN cI 4 ki), (a2, aN cI 4 ka), (a3, aN cI 4 kb), (a4, aI cI 4 zs), (a5, aI cI 4 pu), (a6, aN cI 4096 ce), (a7, aN cI 1024 pa), (a8, aN cI 1024 tr), (a9, aI cI 256 so), (a10, aN cI 6 pl), (a11, aN cI 6 ot)] H := hP
  have hD : va_D (Aa [hm, a1, a2, a3, a4, a5, a6, a7, a8, a9, a10, a11] H0.size) [(hm, .inr (4, [.int (nI 1), .ref a1, .ref a2, .ref a3, .ref a4, .ref a5, .ref a6, .ref a7, .ref a8, .ref a9, .ref a10, .ref a11])), (a1, aN cI 4 ki), (a2, aN cI 4 ka), (a3, aN cI 4 kb), (a4, aI cI 4 zs), (a5, aI cI 4 pu), (a6, aN cI 4096 ce), (a7, aN cI 1024 pa), (a8, aN cI 1024 tr), (a9, aI cI 256 so), (a10, aN cI 6 pl), (a11, aN cI 6 ot)] := hD
  refine lv_aload_n hx hb d_M_make_119 rfl (lv_at hl 1 rfl) ?_
  refine va_get (D := D) (ci := 4) (v := .int (nI 1)) (C := R_M) (T := T_M) (N := 12) hx hb (us_M G hW) (fun _ h => h) hown hK hP 0 rfl rfl 0 (by decide) (fl_M_43 G hW) (fun _ h9 => h9) rfl d_M_make_120 ?_
  refine lv_if_ne (tgt := 153) hx hb d_M_make_123 (by decide) (fun c_123 => ?_) (fun c_123 => absurd c_123 (by decide))
  exact mx_vret hx hb hr hlk d_M_make_153 (Nat.le_of_ble_eq_true rfl) (Nat.le_of_ble_eq_true rfl) hS.2.2 (⟨rfl, ki, ka, kb, zs, pu, ce, pa, tr, so, pl, ot, hP, hpic⟩)

set_option maxHeartbeats 4000000 in
set_option maxRecDepth 100000 in
theorem c_M_make_bad_n {l : Launch} {s0 : State} {D : va_G} {cI cF cJ : ClassId} (G : Gx l s0 D cI cF cJ) (hm a1 a2 a3 a4 a5 a6 a7 a8 a9 a10 a11 : Nat) (th : Int32) (S : Nat → FS) (j : Nat) (k9 a b : Int32) {H0 : Heap} {A0 : Nat → Prop} (hM : MP D cI hm a1 a2 a3 a4 a5 a6 a7 a8 a9 a10 a11 th S H0) (hD : va_D A0 (adM hm a1 a2 a3 a4 a5 a6 a7 a8 a9 a10 a11)) (hok : ∀ i, i < 4 → okS (S i)) (hj : j < 4) (hm9 : mbS k9 a b = false) (h1 : ¬ k9 = nI 1) (h2 : ¬ k9 = nI 2) (h3 : ¬ k9 = nI 3) : Mx l s0 y_M_make (.code y_M_make b_M_make 6 none) { frames := 7, cells := 0, slots := 0, locals := 170 } [.ref hm, .int (nI j), .int k9, .int a, .int b] H0 (Aa [hm, a1, a2, a3, a4, a5, a6, a7, a8, a9, a10, a11] H0.size) (Rn (fun H1 => MP D cI hm a1 a2 a3 a4 a5 a6 a7 a8 a9 a10 a11 (nI 2) S H1)) := by
  refine Mx.ofW (own := "FewBitsModel") rfl rfl ?_
  rintro p e s m below meth c ⟨hx, hb, hml, hr, hown, hW, hlk⟩ hnm het hH
  have hK := G.k hW
  have hD0 := hD
  obtain ⟨ki, ka, kb, zs, pu, ce, pa, tr, so, pl, ot, hP, hpic⟩ := hM
  have hD : va_D (Aa [hm, a1, a2, a3, a4, a5, a6, a7, a8, a9, a10, a11] H0.size) [(hm, .inr (4, [.int th, .ref a1, .ref a2, .ref a3, .ref a4, .ref a5, .ref a6, .ref a7, .ref a8, .ref a9, .ref a10, .ref a11])), (a1, aN cI 4 ki), (a2, aN cI 4 ka), (a3, aN cI 4 kb), (a4, aI cI 4 zs), (a5, aI cI 4 pu), (a6, aN cI 4096 ce), (a7, aN cI 1024 pa), (a8, aN cI 1024 tr), (a9, aI cI 256 so), (a10, aN cI 6 pl), (a11, aN cI 6 ot)] := va_D.same2 [hm, a1, a2, a3, a4, a5, a6, a7, a8, a9, a10, a11] (hD.aa (sz := H0.size)) rfl rfl
  have hS : va_S (Aa [hm, a1, a2, a3, a4, a5, a6, a7, a8, a9, a10, a11] H0.size) H0 H0 [] := va_S.rf
  have hl := lv_entry ([.ref hm, .int (nI j), .int k9, .int a, .int b]) (n := 6) (Nat.le_of_ble_eq_true rfl)
  rw [lg_entry_eq]
  generalize (lg_sl ([.ref hm, .int (nI j), .int k9, .int a, .int b]) ++ List.replicate (6 - (lg_sl ([.ref hm, .int (nI j), .int k9, .int a, .int b])).length) Slot.unset).toArray = ls at hl ⊢
  have hl : lv_has ls 6 [(0, .ref hm), (1, .int (nI j)), (2, .int k9), (3, .int a), (4, .int b)] := hl
  refine lv_iload_n hx hb d_M_make_0 rfl (lv_at hl 2 rfl) ?_
  refine lv_iconst (v := (nI 1)) hx hb d_M_make_1 (by decide) ?_
  refine lv_icmp_ne (tgt := 29) hx hb d_M_make_2 (by decide) (fun c_2 => ?_) (fun c_2 => absurd c_2 (h1))
  refine lv_iload_n hx hb d_M_make_29 rfl (lv_at hl 2 rfl) ?_
  refine lv_iconst (v := (nI 2)) hx hb d_M_make_30 (by decide) ?_
  refine lv_icmp_ne (tgt := 58) hx hb d_M_make_31 (by decide) (fun c_31 => ?_) (fun c_31 => absurd c_31 (h2))
  refine lv_iload_n hx hb d_M_make_58 rfl (lv_at hl 2 rfl) ?_
  refine lv_iconst (v := (nI 3)) hx hb d_M_make_59 (by decide) ?_
  refine lv_icmp_ne (tgt := 91) hx hb d_M_make_60 (by decide) (fun c_60 => ?_) (fun c_60 => absurd c_60 (h3))
  refine lv_iconst (v := (nI 0)) hx hb d_M_make_91 (by decide) ?_
  refine lv_istore (lv' := [(5, .int (nI 0)), (0, .ref hm), (1, .int (nI j)), (2, .int k9), (3, .int a), (4, .int b)]) hx hb d_M_make_92 hl (by decide) rfl (fun ls hl => ?_)
  refine lv_aload_n hx hb d_M_make_94 rfl (lv_at hl 1 rfl) ?_
  refine lv_iload_n hx hb d_M_make_95 rfl (lv_at hl 2 rfl) ?_
  refine mx_callR (r := .int (bI (isNum (nI j)))) (c_M_isNumber G (nI j)) hW (iv_M_make_96 G hx hb hown hW [.int (nI j)] [.ref hm] rfl) hml hl.1 (by rw [hb]; exact d_M_make_96) (cd_M_isNumber G hW) ⟨Nat.le_of_ble_eq_true rfl, Nat.le_of_ble_eq_true rfl⟩ rfl rfl (Nat.le_of_ble_eq_true rfl) (Nat.le_of_ble_eq_true rfl) (Nat.le_of_ble_eq_true rfl) ?_
  refine tp_i (y := (bI true)) (by rw [isNum_nI hj]) ?_
  refine lv_if_ne (tgt := 106) hx hb d_M_make_99 (by decide) (fun c_99 => ?_) (fun c_99 => absurd c_99 (by decide))
  refine lv_iload hx hb d_M_make_106 (lv_at hl 0 rfl) ?_
  refine lv_if_ne (tgt := 115) hx hb d_M_make_108 (by decide) (fun c_108 => absurd (rfl) c_108) (fun c_108 => ?_)
  refine lv_iconst (v := (nI 2)) hx hb d_M_make_111 (by decide) ?_
  refine lv_goto (tgt := 116) hx hb d_M_make_112 (by decide) ?_
  refine va_put (D := D) (ci := 4) (v := .int (nI 2)) (ty := .int) (C := R_M) (T := T_M) (N := 12) hx hb (us_M G hW) (fun _ h => h) t_M to_M nm_M hown hK hP hD hS 0 rfl rfl 0 (by decide) (fl_M_43 G hW) (fun _ h9 => h9) rfl (by decide +kernel) rfl rfl (Nat.le_of_ble_eq_true rfl) d_M_make_116 (fun H locs hP hD hS => ?_)
  have hP : va_P D vcl [(hm, .inr (4, [.int (nI 2), .ref a1, .ref a2, .ref a3, .ref a4, .ref a5, .ref a6, .ref a7, .ref a8, .ref a9, .ref a10, .ref a11])), (a1, aN cI 4 ki), (a2, aN cI 4 ka), (a3, aN cI 4 kb), (a4, aI cI 4 zs), (a5, aI cI 4 pu), (a6, aN cI 4096 ce), (a7, aN cI 1024 pa), (a8, aN cI 1024 tr), (a9, aI cI 256 so), (a10, aN cI 6 pl), (a11, aN cI 6 ot)] H := hP
  have hD : va_D (Aa [hm, a1, a2, a3, a4, a5, a6, a7, a8, a9, a10, a11] H0.size) [(hm, .inr (4, [.int (nI 2), .ref a1, .ref a2, .ref a3, .ref a4, .ref a5, .ref a6, .ref a7, .ref a8, .ref a9, .ref a10, .ref a11])), (a1, aN cI 4 ki), (a2, aN cI 4 ka), (a3, aN cI 4 kb), (a4, aI cI 4 zs), (a5, aI cI 4 pu), (a6, aN cI 4096 ce), (a7, aN cI 1024 pa), (a8, aN cI 1024 tr), (a9, aI cI 256 so), (a10, aN cI 6 pl), (a11, aN cI 6 ot)] := hD
  refine lv_aload_n hx hb d_M_make_119 rfl (lv_at hl 1 rfl) ?_
  refine va_get (D := D) (ci := 4) (v := .int (nI 2)) (C := R_M) (T := T_M) (N := 12) hx hb (us_M G hW) (fun _ h => h) hown hK hP 0 rfl rfl 0 (by decide) (fl_M_43 G hW) (fun _ h9 => h9) rfl d_M_make_120 ?_
  refine lv_if_ne (tgt := 153) hx hb d_M_make_123 (by decide) (fun c_123 => ?_) (fun c_123 => absurd c_123 (by decide))
  exact mx_vret hx hb hr hlk d_M_make_153 (Nat.le_of_ble_eq_true rfl) (Nat.le_of_ble_eq_true rfl) hS.2.2 (⟨rfl, ki, ka, kb, zs, pu, ce, pa, tr, so, pl, ot, hP, hpic⟩)

set_option maxHeartbeats 4000000 in
set_option maxRecDepth 100000 in
theorem c_M_grow_k {l : Launch} {s0 : State} {D : va_G} {cI cF cJ : ClassId} (G : Gx l s0 D cI cF cJ) (hm a1 a2 a3 a4 a5 a6 a7 a8 a9 a10 a11 : Nat) (th : Int32) (S : Nat → FS) (j kd A B n : Nat) (hd pv : Int32) (cs f : Nat → Nat) {H0 : Heap} {A0 : Nat → Prop} (hM : MP D cI hm a1 a2 a3 a4 a5 a6 a7 a8 a9 a10 a11 th S H0) (hD : va_D A0 (adM hm a1 a2 a3 a4 a5 a6 a7 a8 a9 a10 a11)) (hok : ∀ i, i < 4 → okS (S i)) (hj : j < 4) (hSj : S j = (kd, A, B, hd, pv, cs, n, f)) (hk0 : kd ≠ 0) (hk3 : kd ≠ 3) : Mx l s0 y_M_grow (.code y_M_grow b_M_grow 6 none) { frames := 7, cells := 0, slots := 0, locals := 170 } [.ref hm, .int (nI j)] H0 (Aa [hm, a1, a2, a3, a4, a5, a6, a7, a8, a9, a10, a11] H0.size) (Rn (fun H1 => MP D cI hm a1 a2 a3 a4 a5 a6 a7 a8 a9 a10 a11 (nI 3) S H1)) := by
  refine Mx.ofW (own := "FewBitsModel") rfl rfl ?_
  rintro p e s m below meth c ⟨hx, hb, hml, hr, hown, hW, hlk⟩ hnm het hH
  have hK := G.k hW
  have hD0 := hD
  obtain ⟨ki, ka, kb, zs, pu, ce, pa, tr, so, pl, ot, hP, hpic⟩ := hM
  have hD : va_D (Aa [hm, a1, a2, a3, a4, a5, a6, a7, a8, a9, a10, a11] H0.size) [(hm, .inr (4, [.int th, .ref a1, .ref a2, .ref a3, .ref a4, .ref a5, .ref a6, .ref a7, .ref a8, .ref a9, .ref a10, .ref a11])), (a1, aN cI 4 ki), (a2, aN cI 4 ka), (a3, aN cI 4 kb), (a4, aI cI 4 zs), (a5, aI cI 4 pu), (a6, aN cI 4096 ce), (a7, aN cI 1024 pa), (a8, aN cI 1024 tr), (a9, aI cI 256 so), (a10, aN cI 6 pl), (a11, aN cI 6 ot)] := va_D.same2 [hm, a1, a2, a3, a4, a5, a6, a7, a8, a9, a10, a11] (hD.aa (sz := H0.size)) rfl rfl
  have hS : va_S (Aa [hm, a1, a2, a3, a4, a5, a6, a7, a8, a9, a10, a11] H0.size) H0 H0 [] := va_S.rf
  have hpj := hpic j hj
  rw [hSj] at hpj
  obtain ⟨p1, -⟩ := hpj.fg hk0
  have hoj := hok j hj
  rw [hSj] at hoj
  have hk4 := (hoj.AB hk0).1
  have h0 : (S j).1 ≠ 0 := by rw [hSj]; exact hk0
  have hl := lv_entry ([.ref hm, .int (nI j)]) (n := 6) (Nat.le_of_ble_eq_true rfl)
  rw [lg_entry_eq]
  generalize (lg_sl ([.ref hm, .int (nI j)]) ++ List.replicate (6 - (lg_sl ([.ref hm, .int (nI j)])).length) Slot.unset).toArray = ls at hl ⊢
  have hl : lv_has ls 6 [(0, .ref hm), (1, .int (nI j))] := hl
  refine lv_aload_n hx hb d_M_grow_0 rfl (lv_at hl 0 rfl) ?_
  refine lv_aload_n hx hb d_M_grow_1 rfl (lv_at hl 0 rfl) ?_
  refine lv_iload_n hx hb d_M_grow_2 rfl (lv_at hl 1 rfl) ?_
  refine mx_callR (r := .int (nI (if (S j).1 = 0 then 2 else 0))) (c_M_wrg G hm a1 a2 a3 a4 a5 a6 a7 a8 a9 a10 a11 th S j ⟨ki, ka, kb, zs, pu, ce, pa, tr, so, pl, ot, hP, hpic⟩ hD0 hok hj) hW (iv_M_grow_3 G hx hb hown hW (va_recv hK hP (ci := 4) (q0 := 0) rfl rfl) [.int (nI j)] [.ref hm] rfl) hml hl.1 (by rw [hb]; exact d_M_grow_3) (cd_M_wrong G hW) ⟨Nat.le_of_ble_eq_true rfl, Nat.le_of_ble_eq_true rfl⟩ rfl rfl (Nat.le_of_ble_eq_true rfl) (Nat.le_of_ble_eq_true rfl) (Nat.le_of_ble_eq_true rfl) ?_
  refine tp_i (y := (nI 0)) (by rw [if_neg h0]) ?_
  refine lv_if_le (tgt := 17) hx hb d_M_grow_6 (by decide) (fun c_6 => ?_) (fun c_6 => absurd (by decide) c_6)
  refine lv_aload_n hx hb d_M_grow_17 rfl (lv_at hl 0 rfl) ?_
  refine va_get (D := D) (ci := 4) (v := .ref a1) (C := R_M) (T := T_M) (N := 12) hx hb (us_M G hW) (fun _ h => h) hown hK hP 0 rfl rfl 1 (by decide) (fl_M_7 G hW) (fun _ h9 => h9) rfl d_M_grow_18 ?_
  refine lv_iload_n hx hb d_M_grow_21 rfl (lv_at hl 1 rfl) ?_
  refine ia_ld hx hb hK hP 1 (j := j) rfl (hj) (by decide) d_M_grow_22 ?_
  refine tp_i (y := (nI (ki j))) rfl ?_
  refine tp_i (y := (nI kd)) (by rw [p1]) ?_
  refine lv_iconst (v := (nI 3)) hx hb d_M_grow_23 (by decide) ?_
  refine lv_icmp_ne (tgt := 48) hx hb d_M_grow_24 (by decide) (fun c_24 => ?_) (fun c_24 => absurd c_24 (fun h9 => hk3 ((nI_eq (by omega) (by decide)).mp h9)))
  refine lv_iconst (v := (nI 3)) hx hb d_M_grow_48 (by decide) ?_
  refine lv_goto (tgt := 53) hx hb d_M_grow_49 (by decide) ?_
  refine va_put (D := D) (ci := 4) (v := .int (nI 3)) (ty := .int) (C := R_M) (T := T_M) (N := 12) hx hb (us_M G hW) (fun _ h => h) t_M to_M nm_M hown hK hP hD hS 0 rfl rfl 0 (by decide) (fl_M_43 G hW) (fun _ h9 => h9) rfl (by decide +kernel) rfl rfl (Nat.le_of_ble_eq_true rfl) d_M_grow_53 (fun H locs hP hD hS => ?_)
  have hP : va_P D vcl [(hm, .inr (4, [.int (nI 3), .ref a1, .ref a2, .ref a3, .ref a4, .ref a5, .ref a6, .ref a7, .ref a8, .ref a9, .ref a10, .ref a11])), (a1, aN cI 4 ki), (a2, aN cI 4 ka), (a3, aN cI 4 kb), (a4, aI cI 4 zs), (a5, aI cI 4 pu), (a6, aN cI 4096 ce), (a7, aN cI 1024 pa), (a8, aN cI 1024 tr), (a9, aI cI 256 so), (a10, aN cI 6 pl), (a11, aN cI 6 ot)] H := hP
  have hD : va_D (Aa [hm, a1, a2, a3, a4, a5, a6, a7, a8, a9, a10, a11] H0.size) [(hm, .inr (4, [.int (nI 3), .ref a1, .ref a2, .ref a3, .ref a4, .ref a5, .ref a6, .ref a7, .ref a8, .ref a9, .ref a10, .ref a11])), (a1, aN cI 4 ki), (a2, aN cI 4 ka), (a3, aN cI 4 kb), (a4, aI cI 4 zs), (a5, aI cI 4 pu), (a6, aN cI 4096 ce), (a7, aN cI 1024 pa), (a8, aN cI 1024 tr), (a9, aI cI 256 so), (a10, aN cI 6 pl), (a11, aN cI 6 ot)] := hD
  refine lv_aload_n hx hb d_M_grow_56 rfl (lv_at hl 0 rfl) ?_
  refine va_get (D := D) (ci := 4) (v := .int (nI 3)) (C := R_M) (T := T_M) (N := 12) hx hb (us_M G hW) (fun _ h => h) hown hK hP 0 rfl rfl 0 (by decide) (fl_M_43 G hW) (fun _ h9 => h9) rfl d_M_grow_57 ?_
  refine lv_if_le (tgt := 64) hx hb d_M_grow_60 (by decide) (fun c_60 => absurd c_60 (by decide)) (fun c_60 => ?_)
  exact mx_vret hx hb hr hlk d_M_grow_63 (Nat.le_of_ble_eq_true rfl) (Nat.le_of_ble_eq_true rfl) hS.2.2 (⟨rfl, ki, ka, kb, zs, pu, ce, pa, tr, so, pl, ot, hP, hpic⟩)

set_option maxHeartbeats 4000000 in
set_option maxRecDepth 100000 in
theorem c_M_grow_no3 {l : Launch} {s0 : State} {D : va_G} {cI cF cJ : ClassId} (G : Gx l s0 D cI cF cJ) (hm a1 a2 a3 a4 a5 a6 a7 a8 a9 a10 a11 : Nat) (th : Int32) (S : Nat → FS) (j A B n : Nat) (hd pv : Int32) (cs f : Nat → Nat) {H0 : Heap} {A0 : Nat → Prop} (hM : MP D cI hm a1 a2 a3 a4 a5 a6 a7 a8 a9 a10 a11 th S H0) (hD : va_D A0 (adM hm a1 a2 a3 a4 a5 a6 a7 a8 a9 a10 a11)) (hok : ∀ i, i < 4 → okS (S i)) (hj : j < 4) (hSj : S j = (3, A, B, hd, pv, cs, n, f)) (hg : A = 8 ∨ B = 4) : Mx l s0 y_M_grow (.code y_M_grow b_M_grow 6 none) { frames := 7, cells := 0, slots := 0, locals := 170 } [.ref hm, .int (nI j)] H0 (Aa [hm, a1, a2, a3, a4, a5, a6, a7, a8, a9, a10, a11] H0.size) (Rn (fun H1 => MP D cI hm a1 a2 a3 a4 a5 a6 a7 a8 a9 a10 a11 (nI 3) S H1)) := by
  refine Mx.ofW (own := "FewBitsModel") rfl rfl ?_
  rintro p e s m below meth c ⟨hx, hb, hml, hr, hown, hW, hlk⟩ hnm het hH
  have hK := G.k hW
  have hD0 := hD
  obtain ⟨ki, ka, kb, zs, pu, ce, pa, tr, so, pl, ot, hP, hpic⟩ := hM
  have hD : va_D (Aa [hm, a1, a2, a3, a4, a5, a6, a7, a8, a9, a10, a11] H0.size) [(hm, .inr (4, [.int th, .ref a1, .ref a2, .ref a3, .ref a4, .ref a5, .ref a6, .ref a7, .ref a8, .ref a9, .ref a10, .ref a11])), (a1, aN cI 4 ki), (a2, aN cI 4 ka), (a3, aN cI 4 kb), (a4, aI cI 4 zs), (a5, aI cI 4 pu), (a6, aN cI 4096 ce), (a7, aN cI 1024 pa), (a8, aN cI 1024 tr), (a9, aI cI 256 so), (a10, aN cI 6 pl), (a11, aN cI 6 ot)] := va_D.same2 [hm, a1, a2, a3, a4, a5, a6, a7, a8, a9, a10, a11] (hD.aa (sz := H0.size)) rfl rfl
  have hS : va_S (Aa [hm, a1, a2, a3, a4, a5, a6, a7, a8, a9, a10, a11] H0.size) H0 H0 [] := va_S.rf
  have hpj := hpic j hj
  rw [hSj] at hpj
  obtain ⟨p1, p2, p3, p4, p5, p6⟩ := hpj.f3
  have hoj := hok j hj
  rw [hSj] at hoj
  have hq := (okS_3.mp hoj).1
  have hhd := (okS_3.mp hoj).2
  have p4n : zs j = nI n := by rw [p4, hhd]
  have hqA : A ≤ 8 := hq.2.1
  have hqB : B ≤ 20 := hq.2.2.2.1
  have h0 : (S j).1 ≠ 0 := by rw [hSj]; exact (by decide : 3 ≠ 0)
  have h8 := p2_le hqA
  have hnn := hq.n
  have hsr := hq.2.2.2.2.2.1
  have hl := lv_entry ([.ref hm, .int (nI j)]) (n := 6) (Nat.le_of_ble_eq_true rfl)
  rw [lg_entry_eq]
  generalize (lg_sl ([.ref hm, .int (nI j)]) ++ List.replicate (6 - (lg_sl ([.ref hm, .int (nI j)])).length) Slot.unset).toArray = ls at hl ⊢
  have hl : lv_has ls 6 [(0, .ref hm), (1, .int (nI j))] := hl
  refine lv_aload_n hx hb d_M_grow_0 rfl (lv_at hl 0 rfl) ?_
  refine lv_aload_n hx hb d_M_grow_1 rfl (lv_at hl 0 rfl) ?_
  refine lv_iload_n hx hb d_M_grow_2 rfl (lv_at hl 1 rfl) ?_
  refine mx_callR (r := .int (nI (if (S j).1 = 0 then 2 else 0))) (c_M_wrg G hm a1 a2 a3 a4 a5 a6 a7 a8 a9 a10 a11 th S j ⟨ki, ka, kb, zs, pu, ce, pa, tr, so, pl, ot, hP, hpic⟩ hD0 hok hj) hW (iv_M_grow_3 G hx hb hown hW (va_recv hK hP (ci := 4) (q0 := 0) rfl rfl) [.int (nI j)] [.ref hm] rfl) hml hl.1 (by rw [hb]; exact d_M_grow_3) (cd_M_wrong G hW) ⟨Nat.le_of_ble_eq_true rfl, Nat.le_of_ble_eq_true rfl⟩ rfl rfl (Nat.le_of_ble_eq_true rfl) (Nat.le_of_ble_eq_true rfl) (Nat.le_of_ble_eq_true rfl) ?_
  refine tp_i (y := (nI 0)) (by rw [if_neg h0]) ?_
  refine lv_if_le (tgt := 17) hx hb d_M_grow_6 (by decide) (fun c_6 => ?_) (fun c_6 => absurd (by decide) c_6)
  refine lv_aload_n hx hb d_M_grow_17 rfl (lv_at hl 0 rfl) ?_
  refine va_get (D := D) (ci := 4) (v := .ref a1) (C := R_M) (T := T_M) (N := 12) hx hb (us_M G hW) (fun _ h => h) hown hK hP 0 rfl rfl 1 (by decide) (fl_M_7 G hW) (fun _ h9 => h9) rfl d_M_grow_18 ?_
  refine lv_iload_n hx hb d_M_grow_21 rfl (lv_at hl 1 rfl) ?_
  refine ia_ld hx hb hK hP 1 (j := j) rfl (hj) (by decide) d_M_grow_22 ?_
  refine tp_i (y := (nI (ki j))) rfl ?_
  refine tp_i (y := (nI 3)) (by rw [p1]) ?_
  refine lv_iconst (v := (nI 3)) hx hb d_M_grow_23 (by decide) ?_
  refine lv_icmp_ne (tgt := 48) hx hb d_M_grow_24 (by decide) (fun c_24 => absurd (rfl) c_24) (fun c_24 => ?_)
  refine lv_aload_n hx hb d_M_grow_27 rfl (lv_at hl 0 rfl) ?_
  refine va_get (D := D) (ci := 4) (v := .ref a2) (C := R_M) (T := T_M) (N := 12) hx hb (us_M G hW) (fun _ h => h) hown hK hP 0 rfl rfl 2 (by decide) (fl_M_13 G hW) (fun _ h9 => h9) rfl d_M_grow_28 ?_
  refine lv_iload_n hx hb d_M_grow_31 rfl (lv_at hl 1 rfl) ?_
  refine ia_ld hx hb hK hP 2 (j := j) rfl (hj) (by decide) d_M_grow_32 ?_
  refine tp_i (y := (nI (ka j))) rfl ?_
  refine tp_i (y := (nI A)) (by rw [p2]) ?_
  refine lv_bipush (v := (nI 8)) hx hb d_M_grow_33 (by decide) ?_
  refine lv_icmp_eq (tgt := 48) hx hb d_M_grow_35 (by decide) (fun c_35 => ?_) (fun c_35 => ?_)
  · refine lv_iconst (v := (nI 3)) hx hb d_M_grow_48 (by decide) ?_
    refine lv_goto (tgt := 53) hx hb d_M_grow_49 (by decide) ?_
    refine va_put (D := D) (ci := 4) (v := .int (nI 3)) (ty := .int) (C := R_M) (T := T_M) (N := 12) hx hb (us_M G hW) (fun _ h => h) t_M to_M nm_M hown hK hP hD hS 0 rfl rfl 0 (by decide) (fl_M_43 G hW) (fun _ h9 => h9) rfl (by decide +kernel) rfl rfl (Nat.le_of_ble_eq_true rfl) d_M_grow_53 (fun H locs hP hD hS => ?_)
    have hP : va_P D vcl [(hm, .inr (4, [.int (nI 3), .ref a1, .ref a2, .ref a3, .ref a4, .ref a5, .ref a6, .ref a7, .ref a8, .ref a9, .ref a10, .ref a11])), (a1, aN cI 4 ki), (a2, aN cI 4 ka), (a3, aN cI 4 kb), (a4, aI cI 4 zs), (a5, aI cI 4 pu), (a6, aN cI 4096 ce), (a7, aN cI 1024 pa), (a8, aN cI 1024 tr), (a9, aI cI 256 so), (a10, aN cI 6 pl), (a11, aN cI 6 ot)] H := hP
    have hD : va_D (Aa [hm, a1, a2, a3, a4, a5, a6, a7, a8, a9, a10, a11] H0.size) [(hm, .inr (4, [.int (nI 3), .ref a1, .ref a2, .ref a3, .ref a4, .ref a5, .ref a6, .ref a7, .ref a8, .ref a9, .ref a10, .ref a11])), (a1, aN cI 4 ki), (a2, aN cI 4 ka), (a3, aN cI 4 kb), (a4, aI cI 4 zs), (a5, aI cI 4 pu), (a6, aN cI 4096 ce), (a7, aN cI 1024 pa), (a8, aN cI 1024 tr), (a9, aI cI 256 so), (a10, aN cI 6 pl), (a11, aN cI 6 ot)] := hD
    refine lv_aload_n hx hb d_M_grow_56 rfl (lv_at hl 0 rfl) ?_
    refine va_get (D := D) (ci := 4) (v := .int (nI 3)) (C := R_M) (T := T_M) (N := 12) hx hb (us_M G hW) (fun _ h => h) hown hK hP 0 rfl rfl 0 (by decide) (fl_M_43 G hW) (fun _ h9 => h9) rfl d_M_grow_57 ?_
    refine lv_if_le (tgt := 64) hx hb d_M_grow_60 (by decide) (fun c_60 => absurd c_60 (by decide)) (fun c_60 => ?_)
    exact mx_vret hx hb hr hlk d_M_grow_63 (Nat.le_of_ble_eq_true rfl) (Nat.le_of_ble_eq_true rfl) hS.2.2 (⟨rfl, ki, ka, kb, zs, pu, ce, pa, tr, so, pl, ot, hP, hpic⟩)
  · refine lv_aload_n hx hb d_M_grow_38 rfl (lv_at hl 0 rfl) ?_
    refine va_get (D := D) (ci := 4) (v := .ref a3) (C := R_M) (T := T_M) (N := 12) hx hb (us_M G hW) (fun _ h => h) hown hK hP 0 rfl rfl 3 (by decide) (fl_M_16 G hW) (fun _ h9 => h9) rfl d_M_grow_39 ?_
    refine lv_iload_n hx hb d_M_grow_42 rfl (lv_at hl 1 rfl) ?_
    refine ia_ld hx hb hK hP 3 (j := j) rfl (hj) (by decide) d_M_grow_43 ?_
    refine tp_i (y := (nI (kb j))) rfl ?_
    refine tp_i (y := (nI B)) (by rw [p3]) ?_
    refine lv_iconst (v := (nI 4)) hx hb d_M_grow_44 (by decide) ?_
    refine lv_icmp_ne (tgt := 52) hx hb d_M_grow_45 (by decide) (fun c_45 => absurd (hg.elim (fun h9 => absurd (by rw [h9]) c_35) (fun h9 => by rw [h9])) c_45) (fun c_45 => ?_)
    refine lv_iconst (v := (nI 3)) hx hb d_M_grow_48 (by decide) ?_
    refine lv_goto (tgt := 53) hx hb d_M_grow_49 (by decide) ?_
    refine va_put (D := D) (ci := 4) (v := .int (nI 3)) (ty := .int) (C := R_M) (T := T_M) (N := 12) hx hb (us_M G hW) (fun _ h => h) t_M to_M nm_M hown hK hP hD hS 0 rfl rfl 0 (by decide) (fl_M_43 G hW) (fun _ h9 => h9) rfl (by decide +kernel) rfl rfl (Nat.le_of_ble_eq_true rfl) d_M_grow_53 (fun H locs hP hD hS => ?_)
    have hP : va_P D vcl [(hm, .inr (4, [.int (nI 3), .ref a1, .ref a2, .ref a3, .ref a4, .ref a5, .ref a6, .ref a7, .ref a8, .ref a9, .ref a10, .ref a11])), (a1, aN cI 4 ki), (a2, aN cI 4 ka), (a3, aN cI 4 kb), (a4, aI cI 4 zs), (a5, aI cI 4 pu), (a6, aN cI 4096 ce), (a7, aN cI 1024 pa), (a8, aN cI 1024 tr), (a9, aI cI 256 so), (a10, aN cI 6 pl), (a11, aN cI 6 ot)] H := hP
    have hD : va_D (Aa [hm, a1, a2, a3, a4, a5, a6, a7, a8, a9, a10, a11] H0.size) [(hm, .inr (4, [.int (nI 3), .ref a1, .ref a2, .ref a3, .ref a4, .ref a5, .ref a6, .ref a7, .ref a8, .ref a9, .ref a10, .ref a11])), (a1, aN cI 4 ki), (a2, aN cI 4 ka), (a3, aN cI 4 kb), (a4, aI cI 4 zs), (a5, aI cI 4 pu), (a6, aN cI 4096 ce), (a7, aN cI 1024 pa), (a8, aN cI 1024 tr), (a9, aI cI 256 so), (a10, aN cI 6 pl), (a11, aN cI 6 ot)] := hD
    refine lv_aload_n hx hb d_M_grow_56 rfl (lv_at hl 0 rfl) ?_
    refine va_get (D := D) (ci := 4) (v := .int (nI 3)) (C := R_M) (T := T_M) (N := 12) hx hb (us_M G hW) (fun _ h => h) hown hK hP 0 rfl rfl 0 (by decide) (fl_M_43 G hW) (fun _ h9 => h9) rfl d_M_grow_57 ?_
    refine lv_if_le (tgt := 64) hx hb d_M_grow_60 (by decide) (fun c_60 => absurd c_60 (by decide)) (fun c_60 => ?_)
    exact mx_vret hx hb hr hlk d_M_grow_63 (Nat.le_of_ble_eq_true rfl) (Nat.le_of_ble_eq_true rfl) hS.2.2 (⟨rfl, ki, ka, kb, zs, pu, ce, pa, tr, so, pl, ot, hP, hpic⟩)

set_option maxHeartbeats 4000000 in
set_option maxRecDepth 100000 in
theorem c_M_grow_ok {l : Launch} {s0 : State} {D : va_G} {cI cF cJ : ClassId} (G : Gx l s0 D cI cF cJ) (hm a1 a2 a3 a4 a5 a6 a7 a8 a9 a10 a11 : Nat) (th : Int32) (S : Nat → FS) (j A B n : Nat) (hd pv : Int32) (cs f : Nat → Nat) {H0 : Heap} {A0 : Nat → Prop} (hM : MP D cI hm a1 a2 a3 a4 a5 a6 a7 a8 a9 a10 a11 th S H0) (hD : va_D A0 (adM hm a1 a2 a3 a4 a5 a6 a7 a8 a9 a10 a11)) (hok : ∀ i, i < 4 → okS (S i)) (hj : j < 4) (hSj : S j = (3, A, B, hd, pv, cs, n, f)) (hg : A ≤ 7 ∧ 5 ≤ B) : Mx l s0 y_M_grow (.code y_M_grow b_M_grow 6 none) { frames := 7, cells := 0, slots := 0, locals := 170 } [.ref hm, .int (nI j)] H0 (Aa [hm, a1, a2, a3, a4, a5, a6, a7, a8, a9, a10, a11] H0.size) (Rn (fun H1 => MP D cI hm a1 a2 a3 a4 a5 a6 a7 a8 a9 a10 a11 (nI 0) (va_up S j (3, A + 1, B - 1, hd, pv, cs, n, f)) H1)) := by
  refine Mx.ofW (own := "FewBitsModel") rfl rfl ?_
  rintro p e s m below meth c ⟨hx, hb, hml, hr, hown, hW, hlk⟩ hnm het hH
  have hK := G.k hW
  have hD0 := hD
  obtain ⟨ki, ka, kb, zs, pu, ce, pa, tr, so, pl, ot, hP, hpic⟩ := hM
  have hD : va_D (Aa [hm, a1, a2, a3, a4, a5, a6, a7, a8, a9, a10, a11] H0.size) [(hm, .inr (4, [.int th, .ref a1, .ref a2, .ref a3, .ref a4, .ref a5, .ref a6, .ref a7, .ref a8, .ref a9, .ref a10, .ref a11])), (a1, aN cI 4 ki), (a2, aN cI 4 ka), (a3, aN cI 4 kb), (a4, aI cI 4 zs), (a5, aI cI 4 pu), (a6, aN cI 4096 ce), (a7, aN cI 1024 pa), (a8, aN cI 1024 tr), (a9, aI cI 256 so), (a10, aN cI 6 pl), (a11, aN cI 6 ot)] := va_D.same2 [hm, a1, a2, a3, a4, a5, a6, a7, a8, a9, a10, a11] (hD.aa (sz := H0.size)) rfl rfl
  have hS : va_S (Aa [hm, a1, a2, a3, a4, a5, a6, a7, a8, a9, a10, a11] H0.size) H0 H0 [] := va_S.rf
  have hpj := hpic j hj
  rw [hSj] at hpj
  obtain ⟨p1, p2, p3, p4, p5, p6⟩ := hpj.f3
  have hoj := hok j hj
  rw [hSj] at hoj
  have hq := (okS_3.mp hoj).1
  have hhd := (okS_3.mp hoj).2
  have p4n : zs j = nI n := by rw [p4, hhd]
  have hqA : A ≤ 8 := hq.2.1
  have hqB : B ≤ 20 := hq.2.2.2.1
  have h0 : (S j).1 ≠ 0 := by rw [hSj]; exact (by decide : 3 ≠ 0)
  have h8 := p2_le hqA
  have hnn := hq.n
  have hsr := hq.2.2.2.2.2.1
  have henc : ∀ i, i < n → enc B (f i) < 2 ^ 28 := fun i hi => enc_lt hqA hqB (hq.2.2.2.2.2.2 i hi)
  have hmod : ∀ i, f i % 2 ^ B < 2 ^ 20 := fun i => Nat.lt_of_lt_of_le (Nat.mod_lt _ (Nat.two_pow_pos B)) (p2_le hqB)
  have hsh : ∀ i, i < n → f i / 2 ^ (B - 1) * 2 ^ 20 < 2 ^ 32 := fun i hi => by have h9 : enc (B - 1) (f i) < 2 ^ 28 := enc_lt (A := A + 1) (by omega) (by omega) (by rw [show A + 1 + (B - 1) = A + B by omega]; exact hq.2.2.2.2.2.2 i hi); exact Nat.lt_of_le_of_lt (Nat.le_add_right _ _) (Nat.lt_trans h9 (by decide))
  have hl := lv_entry ([.ref hm, .int (nI j)]) (n := 6) (Nat.le_of_ble_eq_true rfl)
  rw [lg_entry_eq]
  generalize (lg_sl ([.ref hm, .int (nI j)]) ++ List.replicate (6 - (lg_sl ([.ref hm, .int (nI j)])).length) Slot.unset).toArray = ls at hl ⊢
  have hl : lv_has ls 6 [(0, .ref hm), (1, .int (nI j))] := hl
  refine lv_aload_n hx hb d_M_grow_0 rfl (lv_at hl 0 rfl) ?_
  refine lv_aload_n hx hb d_M_grow_1 rfl (lv_at hl 0 rfl) ?_
  refine lv_iload_n hx hb d_M_grow_2 rfl (lv_at hl 1 rfl) ?_
  refine mx_callR (r := .int (nI (if (S j).1 = 0 then 2 else 0))) (c_M_wrg G hm a1 a2 a3 a4 a5 a6 a7 a8 a9 a10 a11 th S j ⟨ki, ka, kb, zs, pu, ce, pa, tr, so, pl, ot, hP, hpic⟩ hD0 hok hj) hW (iv_M_grow_3 G hx hb hown hW (va_recv hK hP (ci := 4) (q0 := 0) rfl rfl) [.int (nI j)] [.ref hm] rfl) hml hl.1 (by rw [hb]; exact d_M_grow_3) (cd_M_wrong G hW) ⟨Nat.le_of_ble_eq_true rfl, Nat.le_of_ble_eq_true rfl⟩ rfl rfl (Nat.le_of_ble_eq_true rfl) (Nat.le_of_ble_eq_true rfl) (Nat.le_of_ble_eq_true rfl) ?_
  refine tp_i (y := (nI 0)) (by rw [if_neg h0]) ?_
  refine lv_if_le (tgt := 17) hx hb d_M_grow_6 (by decide) (fun c_6 => ?_) (fun c_6 => absurd (by decide) c_6)
  refine lv_aload_n hx hb d_M_grow_17 rfl (lv_at hl 0 rfl) ?_
  refine va_get (D := D) (ci := 4) (v := .ref a1) (C := R_M) (T := T_M) (N := 12) hx hb (us_M G hW) (fun _ h => h) hown hK hP 0 rfl rfl 1 (by decide) (fl_M_7 G hW) (fun _ h9 => h9) rfl d_M_grow_18 ?_
  refine lv_iload_n hx hb d_M_grow_21 rfl (lv_at hl 1 rfl) ?_
  refine ia_ld hx hb hK hP 1 (j := j) rfl (hj) (by decide) d_M_grow_22 ?_
  refine tp_i (y := (nI (ki j))) rfl ?_
  refine tp_i (y := (nI 3)) (by rw [p1]) ?_
  refine lv_iconst (v := (nI 3)) hx hb d_M_grow_23 (by decide) ?_
  refine lv_icmp_ne (tgt := 48) hx hb d_M_grow_24 (by decide) (fun c_24 => absurd (rfl) c_24) (fun c_24 => ?_)
  refine lv_aload_n hx hb d_M_grow_27 rfl (lv_at hl 0 rfl) ?_
  refine va_get (D := D) (ci := 4) (v := .ref a2) (C := R_M) (T := T_M) (N := 12) hx hb (us_M G hW) (fun _ h => h) hown hK hP 0 rfl rfl 2 (by decide) (fl_M_13 G hW) (fun _ h9 => h9) rfl d_M_grow_28 ?_
  refine lv_iload_n hx hb d_M_grow_31 rfl (lv_at hl 1 rfl) ?_
  refine ia_ld hx hb hK hP 2 (j := j) rfl (hj) (by decide) d_M_grow_32 ?_
  refine tp_i (y := (nI (ka j))) rfl ?_
  refine tp_i (y := (nI A)) (by rw [p2]) ?_
  refine lv_bipush (v := (nI 8)) hx hb d_M_grow_33 (by decide) ?_
  refine lv_icmp_eq (tgt := 48) hx hb d_M_grow_35 (by decide) (fun c_35 => absurd c_35 (fun h9 => absurd ((nI_eq (by omega) (by decide)).mp h9) (by omega))) (fun c_35 => ?_)
  refine lv_aload_n hx hb d_M_grow_38 rfl (lv_at hl 0 rfl) ?_
  refine va_get (D := D) (ci := 4) (v := .ref a3) (C := R_M) (T := T_M) (N := 12) hx hb (us_M G hW) (fun _ h => h) hown hK hP 0 rfl rfl 3 (by decide) (fl_M_16 G hW) (fun _ h9 => h9) rfl d_M_grow_39 ?_
  refine lv_iload_n hx hb d_M_grow_42 rfl (lv_at hl 1 rfl) ?_
  refine ia_ld hx hb hK hP 3 (j := j) rfl (hj) (by decide) d_M_grow_43 ?_
  refine tp_i (y := (nI (kb j))) rfl ?_
  refine tp_i (y := (nI B)) (by rw [p3]) ?_
  refine lv_iconst (v := (nI 4)) hx hb d_M_grow_44 (by decide) ?_
  refine lv_icmp_ne (tgt := 52) hx hb d_M_grow_45 (by decide) (fun c_45 => ?_) (fun c_45 => absurd c_45 (fun h9 => absurd ((nI_eq (by omega) (by decide)).mp h9) (by omega)))
  refine lv_iconst (v := (nI 0)) hx hb d_M_grow_52 (by decide) ?_
  refine va_put (D := D) (ci := 4) (v := .int (nI 0)) (ty := .int) (C := R_M) (T := T_M) (N := 12) hx hb (us_M G hW) (fun _ h => h) t_M to_M nm_M hown hK hP hD hS 0 rfl rfl 0 (by decide) (fl_M_43 G hW) (fun _ h9 => h9) rfl (by decide +kernel) rfl rfl (Nat.le_of_ble_eq_true rfl) d_M_grow_53 (fun H locs hP hD hS => ?_)
  have hP : va_P D vcl [(hm, .inr (4, [.int (nI 0), .ref a1, .ref a2, .ref a3, .ref a4, .ref a5, .ref a6, .ref a7, .ref a8, .ref a9, .ref a10, .ref a11])), (a1, aN cI 4 ki), (a2, aN cI 4 ka), (a3, aN cI 4 kb), (a4, aI cI 4 zs), (a5, aI cI 4 pu), (a6, aN cI 4096 ce), (a7, aN cI 1024 pa), (a8, aN cI 1024 tr), (a9, aI cI 256 so), (a10, aN cI 6 pl), (a11, aN cI 6 ot)] H := hP
  have hD : va_D (Aa [hm, a1, a2, a3, a4, a5, a6, a7, a8, a9, a10, a11] H0.size) [(hm, .inr (4, [.int (nI 0), .ref a1, .ref a2, .ref a3, .ref a4, .ref a5, .ref a6, .ref a7, .ref a8, .ref a9, .ref a10, .ref a11])), (a1, aN cI 4 ki), (a2, aN cI 4 ka), (a3, aN cI 4 kb), (a4, aI cI 4 zs), (a5, aI cI 4 pu), (a6, aN cI 4096 ce), (a7, aN cI 1024 pa), (a8, aN cI 1024 tr), (a9, aI cI 256 so), (a10, aN cI 6 pl), (a11, aN cI 6 ot)] := hD
  refine lv_aload_n hx hb d_M_grow_56 rfl (lv_at hl 0 rfl) ?_
  refine va_get (D := D) (ci := 4) (v := .int (nI 0)) (C := R_M) (T := T_M) (N := 12) hx hb (us_M G hW) (fun _ h => h) hown hK hP 0 rfl rfl 0 (by decide) (fl_M_43 G hW) (fun _ h9 => h9) rfl d_M_grow_57 ?_
  refine lv_if_le (tgt := 64) hx hb d_M_grow_60 (by decide) (fun c_60 => ?_) (fun c_60 => absurd (by decide) c_60)
  refine lv_aload_n hx hb d_M_grow_64 rfl (lv_at hl 0 rfl) ?_
  refine va_get (D := D) (ci := 4) (v := .ref a2) (C := R_M) (T := T_M) (N := 12) hx hb (us_M G hW) (fun _ h => h) hown hK hP 0 rfl rfl 2 (by decide) (fl_M_13 G hW) (fun _ h9 => h9) rfl d_M_grow_65 ?_
  refine lv_iload_n hx hb d_M_grow_68 rfl (lv_at hl 1 rfl) ?_
  refine lv_dup2_11 hx hb d_M_grow_69 rfl rfl ?_
  refine ia_ld hx hb hK hP 2 (j := j) rfl (hj) (by decide) d_M_grow_70 ?_
  refine tp_i (y := (nI (ka j))) rfl ?_
  refine tp_i (y := (nI A)) (by rw [p2]) ?_
  refine lv_iconst (v := (nI 1)) hx hb d_M_grow_71 (by decide) ?_
  refine lv_iadd hx hb d_M_grow_72 ?_
  refine tp_i (y := (nI (A + 1))) (nI_add _ _) ?_
  refine ia_stN hx hb hK hP hD hS 2 (j := j) (x := (A + 1)) (f := ka) rfl (hj) (by decide) d_M_grow_73 (fun H locs hP hD hS => ?_)
  have hP : va_P D vcl [(hm, .inr (4, [.int (nI 0), .ref a1, .ref a2, .ref a3, .ref a4, .ref a5, .ref a6, .ref a7, .ref a8, .ref a9, .ref a10, .ref a11])), (a1, aN cI 4 ki), (a2, aN cI 4 (va_up ka j (A + 1))), (a3, aN cI 4 kb), (a4, aI cI 4 zs), (a5, aI cI 4 pu), (a6, aN cI 4096 ce), (a7, aN cI 1024 pa), (a8, aN cI 1024 tr), (a9, aI cI 256 so), (a10, aN cI 6 pl), (a11, aN cI 6 ot)] H := hP
  have hD : va_D (Aa [hm, a1, a2, a3, a4, a5, a6, a7, a8, a9, a10, a11] H0.size) [(hm, .inr (4, [.int (nI 0), .ref a1, .ref a2, .ref a3, .ref a4, .ref a5, .ref a6, .ref a7, .ref a8, .ref a9, .ref a10, .ref a11])), (a1, aN cI 4 ki), (a2, aN cI 4 (va_up ka j (A + 1))), (a3, aN cI 4 kb), (a4, aI cI 4 zs), (a5, aI cI 4 pu), (a6, aN cI 4096 ce), (a7, aN cI 1024 pa), (a8, aN cI 1024 tr), (a9, aI cI 256 so), (a10, aN cI 6 pl), (a11, aN cI 6 ot)] := hD
  refine lv_aload_n hx hb d_M_grow_74 rfl (lv_at hl 0 rfl) ?_
  refine va_get (D := D) (ci := 4) (v := .ref a3) (C := R_M) (T := T_M) (N := 12) hx hb (us_M G hW) (fun _ h => h) hown hK hP 0 rfl rfl 3 (by decide) (fl_M_16 G hW) (fun _ h9 => h9) rfl d_M_grow_75 ?_
  refine lv_iload_n hx hb d_M_grow_78 rfl (lv_at hl 1 rfl) ?_
  refine lv_dup2_11 hx hb d_M_grow_79 rfl rfl ?_
  refine ia_ld hx hb hK hP 3 (j := j) rfl (hj) (by decide) d_M_grow_80 ?_
  refine tp_i (y := (nI (kb j))) rfl ?_
  refine tp_i (y := (nI B)) (by rw [p3]) ?_
  refine lv_iconst (v := (nI 1)) hx hb d_M_grow_81 (by decide) ?_
  refine lv_isub hx hb d_M_grow_82 ?_
  refine tp_i (y := (nI (B - 1))) (pk_sub (by omega)) ?_
  refine ia_stN hx hb hK hP hD hS 3 (j := j) (x := (B - 1)) (f := kb) rfl (hj) (by decide) d_M_grow_83 (fun H locs hP hD hS => ?_)
  have hP : va_P D vcl [(hm, .inr (4, [.int (nI 0), .ref a1, .ref a2, .ref a3, .ref a4, .ref a5, .ref a6, .ref a7, .ref a8, .ref a9, .ref a10, .ref a11])), (a1, aN cI 4 ki), (a2, aN cI 4 (va_up ka j (A + 1))), (a3, aN cI 4 (va_up kb j (B - 1))), (a4, aI cI 4 zs), (a5, aI cI 4 pu), (a6, aN cI 4096 ce), (a7, aN cI 1024 pa), (a8, aN cI 1024 tr), (a9, aI cI 256 so), (a10, aN cI 6 pl), (a11, aN cI 6 ot)] H := hP
  have hD : va_D (Aa [hm, a1, a2, a3, a4, a5, a6, a7, a8, a9, a10, a11] H0.size) [(hm, .inr (4, [.int (nI 0), .ref a1, .ref a2, .ref a3, .ref a4, .ref a5, .ref a6, .ref a7, .ref a8, .ref a9, .ref a10, .ref a11])), (a1, aN cI 4 ki), (a2, aN cI 4 (va_up ka j (A + 1))), (a3, aN cI 4 (va_up kb j (B - 1))), (a4, aI cI 4 zs), (a5, aI cI 4 pu), (a6, aN cI 4096 ce), (a7, aN cI 1024 pa), (a8, aN cI 1024 tr), (a9, aI cI 256 so), (a10, aN cI 6 pl), (a11, aN cI 6 ot)] := hD
  refine lv_iconst (v := (nI 0)) hx hb d_M_grow_84 (by decide) ?_
  refine lv_istore_n (lv' := [(2, .int (nI 0)), (0, .ref hm), (1, .int (nI j))]) hx hb d_M_grow_85 rfl hl (by decide) rfl (fun ls hl => ?_)
  have loop_86 : ∀ (k : Nat) (i : Nat), (i + k = n) → ∀ (H : Heap) (locs : List Loc), va_P D vcl [(hm, .inr (4, [.int (nI 0), .ref a1, .ref a2, .ref a3, .ref a4, .ref a5, .ref a6, .ref a7, .ref a8, .ref a9, .ref a10, .ref a11])), (a1, aN cI 4 ki), (a2, aN cI 4 (va_up ka j (A + 1))), (a3, aN cI 4 (va_up kb j (B - 1))), (a4, aI cI 4 zs), (a5, aI cI 4 pu), (a6, aN cI 4096 ce), (a7, aN cI 1024 (stO 256 pa (256 * j) (rcd (vw pa (256 * j)) (fun q => enc (B - 1) (f q)) i))), (a8, aN cI 1024 tr), (a9, aI cI 256 so), (a10, aN cI 6 pl), (a11, aN cI 6 ot)] H → va_D (Aa [hm, a1, a2, a3, a4, a5, a6, a7, a8, a9, a10, a11] H0.size) [(hm, .inr (4, [.int (nI 0), .ref a1, .ref a2, .ref a3, .ref a4, .ref a5, .ref a6, .ref a7, .ref a8, .ref a9, .ref a10, .ref a11])), (a1, aN cI 4 ki), (a2, aN cI 4 (va_up ka j (A + 1))), (a3, aN cI 4 (va_up kb j (B - 1))), (a4, aI cI 4 zs), (a5, aI cI 4 pu), (a6, aN cI 4096 ce), (a7, aN cI 1024 (stO 256 pa (256 * j) (rcd (vw pa (256 * j)) (fun q => enc (B - 1) (f q)) i))), (a8, aN cI 1024 tr), (a9, aI cI 256 so), (a10, aN cI 6 pl), (a11, aN cI 6 ot)] → va_S (Aa [hm, a1, a2, a3, a4, a5, a6, a7, a8, a9, a10, a11] H0.size) H0 H locs → ∀ (ls : Array Slot), lv_has ls 6 [(2, .int (nI i)), (0, .ref hm), (1, .int (nI j))] → W p l e { frames := 7, cells := 0, slots := 0, locals := 170 } s m ([.ref hm, .int (nI j)] : List Value).toArray below meth c H locs 0 0 (MQx below (Rn (fun H1 => MP D cI hm a1 a2 a3 a4 a5 a6 a7 a8 a9 a10 a11 (nI 0) (va_up S j (3, A + 1, B - 1, hd, pv, cs, n, f)) H1)) s 0 0 (Aa [hm, a1, a2, a3, a4, a5, a6, a7, a8, a9, a10, a11] H0.size)) (F0 m 86 ls []) := by
    intro k
    induction k with
    | zero =>
      intro i hk H locs hP hD hS ls hl
      refine lv_iload_n hx hb d_M_grow_86 rfl (lv_at hl 0 rfl) ?_
      refine lv_aload_n hx hb d_M_grow_87 rfl (lv_at hl 1 rfl) ?_
      refine va_get (D := D) (ci := 4) (v := .ref a4) (C := R_M) (T := T_M) (N := 12) hx hb (us_M G hW) (fun _ h => h) hown hK hP 0 rfl rfl 4 (by decide) (fl_M_19 G hW) (fun _ h9 => h9) rfl d_M_grow_88 ?_
      refine lv_iload_n hx hb d_M_grow_91 rfl (lv_at hl 2 rfl) ?_
      refine ia_ld hx hb hK hP 4 (j := j) rfl (hj) (by decide) d_M_grow_92 ?_
      refine tp_i (y := (nI n)) (p4n) ?_
      refine lv_icmp_ge (tgt := 172) hx hb d_M_grow_93 (by decide) (fun c_93 => ?_) (fun c_93 => absurd (nI_le (by omega) (by omega)) c_93)
      exact mx_vret hx hb hr hlk d_M_grow_172 (Nat.le_of_ble_eq_true rfl) (Nat.le_of_ble_eq_true rfl) hS.2.2 (⟨rfl, ki, _, _, zs, pu, ce, _, tr, so, pl, ot, hP, pics_up hpic hok (PicM.k3 p1 (va_up_self _ _ _) (va_up_self _ _ _) p4 (fun q hq9 => by rw [stO_at (by omega)]; unfold rcd; rw [if_pos (by omega)]) (fun q hq9 => by rw [vw_stO hq9]; unfold rcd; split; (exact enc_lt (A := A + 1) (by omega) (by omega) (by rw [show A + 1 + (B - 1) = A + B by omega]; exact hq.2.2.2.2.2.2 q (by omega))); (exact p6 q hq9))) id_off vup_off vup_off id_off id_off idC offP⟩)
    | succ k ih_86 =>
      intro i hk H locs hP hD hS ls hl
      refine lv_iload_n hx hb d_M_grow_86 rfl (lv_at hl 0 rfl) ?_
      refine lv_aload_n hx hb d_M_grow_87 rfl (lv_at hl 1 rfl) ?_
      refine va_get (D := D) (ci := 4) (v := .ref a4) (C := R_M) (T := T_M) (N := 12) hx hb (us_M G hW) (fun _ h => h) hown hK hP 0 rfl rfl 4 (by decide) (fl_M_19 G hW) (fun _ h9 => h9) rfl d_M_grow_88 ?_
      refine lv_iload_n hx hb d_M_grow_91 rfl (lv_at hl 2 rfl) ?_
      refine ia_ld hx hb hK hP 4 (j := j) rfl (hj) (by decide) d_M_grow_92 ?_
      refine tp_i (y := (nI n)) (p4n) ?_
      refine lv_icmp_ge (tgt := 172) hx hb d_M_grow_93 (by decide) (fun c_93 => absurd c_93 (nI_ge (by omega) (by omega))) (fun c_93 => ?_)
      refine lv_aload_n hx hb d_M_grow_96 rfl (lv_at hl 1 rfl) ?_
      refine va_get (D := D) (ci := 4) (v := .ref a7) (C := R_M) (T := T_M) (N := 12) hx hb (us_M G hW) (fun _ h => h) hown hK hP 0 rfl rfl 7 (by decide) (fl_M_28 G hW) (fun _ h9 => h9) rfl d_M_grow_97 ?_
      refine lv_sipush (v := (nI 256)) hx hb d_M_grow_100 (by decide) ?_
      refine lv_iload_n hx hb d_M_grow_103 rfl (lv_at hl 2 rfl) ?_
      refine lv_imul hx hb d_M_grow_104 ?_
      refine tp_i (y := (nI (256 * j))) (pk_mul _ _) ?_
      refine lv_iload_n hx hb d_M_grow_105 rfl (lv_at hl 0 rfl) ?_
      refine lv_iadd hx hb d_M_grow_106 ?_
      refine tp_i (y := (nI ((256 * j) + i))) (nI_add _ _) ?_
      refine ia_ld hx hb hK hP 7 (j := ((256 * j) + i)) rfl (by omega) (by decide) d_M_grow_107 ?_
      refine tp_i (y := (nI ((stO 256 pa (256 * j) (rcd (vw pa (256 * j)) (fun q => enc (B - 1) (f q)) i)) ((256 * j) + i)))) rfl ?_
      refine tp_i (y := (nI (enc B (f i)))) (by rw [stO_at (by omega)]; unfold rcd; rw [if_neg (by omega)]; exact congrArg nI (p5 i (by omega))) ?_
      refine lv_istore_n (lv' := [(3, .int (nI (enc B (f i)))), (2, .int (nI i)), (0, .ref hm), (1, .int (nI j))]) hx hb d_M_grow_108 rfl hl (by decide) rfl (fun ls hl => ?_)
      refine lv_iload_n hx hb d_M_grow_109 rfl (lv_at hl 0 rfl) ?_
      refine lv_ldc (v := 1048575) hx hb hown (G.1.at 822 rfl rfl _ hW) d_M_grow_110 ?_
      refine lv_iand hx hb d_M_grow_112 ?_
      refine tp_i (y := (nI (f i % 2 ^ B))) (and20 hqB (by have := henc i (by omega); omega)) ?_
      refine lv_istore (lv' := [(4, .int (nI (f i % 2 ^ B))), (3, .int (nI (enc B (f i)))), (2, .int (nI i)), (0, .ref hm), (1, .int (nI j))]) hx hb d_M_grow_113 hl (by decide) rfl (fun ls hl => ?_)
      refine lv_iconst (v := (nI 2)) hx hb d_M_grow_115 (by decide) ?_
      refine lv_iload_n hx hb d_M_grow_116 rfl (lv_at hl 1 rfl) ?_
      refine lv_bipush (v := (nI 20)) hx hb d_M_grow_117 (by decide) ?_
      refine lv_ishr hx hb d_M_grow_119 ?_
      refine tp_i (y := (nI (f i / 2 ^ B))) (by rw [shr_B (by have := henc i (by omega); omega) (by decide), enc_div hqB]) ?_
      refine lv_imul hx hb d_M_grow_120 ?_
      refine tp_i (y := (nI (2 * (f i / 2 ^ B)))) (pk_mul _ _) ?_
      refine lv_iload hx hb d_M_grow_121 (lv_at hl 0 rfl) ?_
      refine lv_aload_n hx hb d_M_grow_123 rfl (lv_at hl 3 rfl) ?_
      refine va_get (D := D) (ci := 4) (v := .ref a3) (C := R_M) (T := T_M) (N := 12) hx hb (us_M G hW) (fun _ h => h) hown hK hP 0 rfl rfl 3 (by decide) (fl_M_16 G hW) (fun _ h9 => h9) rfl d_M_grow_124 ?_
      refine lv_iload_n hx hb d_M_grow_127 rfl (lv_at hl 4 rfl) ?_
      refine ia_ld hx hb hK hP 3 (j := j) rfl (hj) (by decide) d_M_grow_128 ?_
      refine tp_i (y := (nI ((va_up kb j (B - 1)) j))) rfl ?_
      refine tp_i (y := (nI (B - 1))) (by rw [va_up_self]) ?_
      refine lv_ishr hx hb d_M_grow_129 ?_
      refine tp_i (y := (nI (f i % 2 ^ B / 2 ^ (B - 1)))) (shr_B (by have := hmod i; omega) (by omega)) ?_
      refine lv_iconst (v := (nI 1)) hx hb d_M_grow_130 (by decide) ?_
      refine lv_iand hx hb d_M_grow_131 ?_
      refine tp_i (y := (nI (f i % 2 ^ B / 2 ^ (B - 1) % 2))) (and1b (Nat.lt_of_le_of_lt (Nat.div_le_self _ _) (by have := hmod i; omega))) ?_
      refine lv_iadd hx hb d_M_grow_132 ?_
      refine tp_i (y := (nI (f i / 2 ^ (B - 1)))) (by rw [nI_add, grow_q (by omega)]) ?_
      refine lv_istore (lv' := [(5, .int (nI (f i / 2 ^ (B - 1)))), (4, .int (nI (f i % 2 ^ B))), (3, .int (nI (enc B (f i)))), (2, .int (nI i)), (0, .ref hm), (1, .int (nI j))]) hx hb d_M_grow_133 hl (by decide) rfl (fun ls hl => ?_)
      refine lv_aload_n hx hb d_M_grow_135 rfl (lv_at hl 4 rfl) ?_
      refine va_get (D := D) (ci := 4) (v := .ref a7) (C := R_M) (T := T_M) (N := 12) hx hb (us_M G hW) (fun _ h => h) hown hK hP 0 rfl rfl 7 (by decide) (fl_M_28 G hW) (fun _ h9 => h9) rfl d_M_grow_136 ?_
      refine lv_sipush (v := (nI 256)) hx hb d_M_grow_139 (by decide) ?_
      refine lv_iload_n hx hb d_M_grow_142 rfl (lv_at hl 5 rfl) ?_
      refine lv_imul hx hb d_M_grow_143 ?_
      refine tp_i (y := (nI (256 * j))) (pk_mul _ _) ?_
      refine lv_iload_n hx hb d_M_grow_144 rfl (lv_at hl 3 rfl) ?_
      refine lv_iadd hx hb d_M_grow_145 ?_
      refine tp_i (y := (nI ((256 * j) + i))) (nI_add _ _) ?_
      refine lv_iload hx hb d_M_grow_146 (lv_at hl 0 rfl) ?_
      refine lv_bipush (v := (nI 20)) hx hb d_M_grow_148 (by decide) ?_
      refine lv_ishl hx hb d_M_grow_150 ?_
      refine tp_i (y := (nI (f i / 2 ^ (B - 1) * 2 ^ 20))) (shl_B (by decide) (hsh i (by omega))) ?_
      refine lv_iload hx hb d_M_grow_151 (lv_at hl 1 rfl) ?_
      refine lv_iconst (v := (nI 1)) hx hb d_M_grow_153 (by decide) ?_
      refine lv_aload_n hx hb d_M_grow_154 rfl (lv_at hl 4 rfl) ?_
      refine va_get (D := D) (ci := 4) (v := .ref a3) (C := R_M) (T := T_M) (N := 12) hx hb (us_M G hW) (fun _ h => h) hown hK hP 0 rfl rfl 3 (by decide) (fl_M_16 G hW) (fun _ h9 => h9) rfl d_M_grow_155 ?_
      refine lv_iload_n hx hb d_M_grow_158 rfl (lv_at hl 5 rfl) ?_
      refine ia_ld hx hb hK hP 3 (j := j) rfl (hj) (by decide) d_M_grow_159 ?_
      refine tp_i (y := (nI ((va_up kb j (B - 1)) j))) rfl ?_
      refine tp_i (y := (nI (B - 1))) (by rw [va_up_self]) ?_
      refine lv_ishl hx hb d_M_grow_160 ?_
      refine tp_i (y := (nI (2 ^ (B - 1)))) (pw_shl (B - 1) (by omega)) ?_
      refine lv_iconst (v := (nI 1)) hx hb d_M_grow_161 (by decide) ?_
      refine lv_isub hx hb d_M_grow_162 ?_
      refine lv_iand hx hb d_M_grow_163 ?_
      refine tp_i (y := (nI (f i % 2 ^ (B - 1)))) (by rw [msk_B (by have := hmod i; omega) (by omega), grow_r (by omega)]) ?_
      refine lv_ior hx hb d_M_grow_164 ?_
      refine tp_i (y := (nI (enc (B - 1) (f i)))) (enc_or (by omega)) ?_
      refine ia_stN hx hb hK hP hD hS 7 (j := ((256 * j) + i)) (x := (enc (B - 1) (f i))) (f := (stO 256 pa (256 * j) (rcd (vw pa (256 * j)) (fun q => enc (B - 1) (f q)) i))) rfl (by omega) (by decide) d_M_grow_165 (fun H locs hP hD hS => ?_)
      have hP : va_P D vcl [(hm, .inr (4, [.int (nI 0), .ref a1, .ref a2, .ref a3, .ref a4, .ref a5, .ref a6, .ref a7, .ref a8, .ref a9, .ref a10, .ref a11])), (a1, aN cI 4 ki), (a2, aN cI 4 (va_up ka j (A + 1))), (a3, aN cI 4 (va_up kb j (B - 1))), (a4, aI cI 4 zs), (a5, aI cI 4 pu), (a6, aN cI 4096 ce), (a7, aN cI 1024 (va_up (stO 256 pa (256 * j) (rcd (vw pa (256 * j)) (fun q => enc (B - 1) (f q)) i)) ((256 * j) + i) (enc (B - 1) (f i)))), (a8, aN cI 1024 tr), (a9, aI cI 256 so), (a10, aN cI 6 pl), (a11, aN cI 6 ot)] H := hP
      have hD : va_D (Aa [hm, a1, a2, a3, a4, a5, a6, a7, a8, a9, a10, a11] H0.size) [(hm, .inr (4, [.int (nI 0), .ref a1, .ref a2, .ref a3, .ref a4, .ref a5, .ref a6, .ref a7, .ref a8, .ref a9, .ref a10, .ref a11])), (a1, aN cI 4 ki), (a2, aN cI 4 (va_up ka j (A + 1))), (a3, aN cI 4 (va_up kb j (B - 1))), (a4, aI cI 4 zs), (a5, aI cI 4 pu), (a6, aN cI 4096 ce), (a7, aN cI 1024 (va_up (stO 256 pa (256 * j) (rcd (vw pa (256 * j)) (fun q => enc (B - 1) (f q)) i)) ((256 * j) + i) (enc (B - 1) (f i)))), (a8, aN cI 1024 tr), (a9, aI cI 256 so), (a10, aN cI 6 pl), (a11, aN cI 6 ot)] := hD
      rw [stO_up (by omega), show enc (B - 1) (f i) = (fun q => enc (B - 1) (f q)) i from rfl, rcd_s] at hP hD
      refine lv_iinc (v := (nI (i + 1))) (lv' := [(2, .int (nI (i + 1))), (5, .int (nI (f i / 2 ^ (B - 1)))), (4, .int (nI (f i % 2 ^ B))), (3, .int (nI (enc B (f i)))), (0, .ref hm), (1, .int (nI j))]) hx hb d_M_grow_166 hl (k := 3) rfl (nI_1 _) (by decide) rfl (fun ls hl => ?_)
      refine lv_goto (tgt := 86) hx hb d_M_grow_169 (by decide) ?_
      exact ih_86 (i + 1) (by omega) H locs hP hD hS ls (lv_sub hl [0, 4, 5] rfl)
  rw [← stO_rc0 pa (256 * j) (fun q => enc (B - 1) (f q))] at hP hD
  exact loop_86 (n) (0) (by omega) H locs hP hD hS ls (lv_sub hl [0, 1, 2] rfl)
