/-! the law's picture, and what a round of its loop does to it -/
theorem MP.mem {D : va_G} {cI : ClassId} {hm a1 a2 a3 a4 a5 a6 a7 a8 a9 a10 a11 : Nat} {th : Int32} {S : Nat → FS} {H : Heap} (h : MP D cI hm a1 a2 a3 a4 a5 a6 a7 a8 a9 a10 a11 th S H) : ∀ q ∈ ([hm, a1, a2, a3, a4, a5, a6, a7, a8, a9, a10, a11] : List Nat), q < H.size := by
  obtain ⟨ki, ka, kb, zs, pu, ce, pa, tr, so, pl, ot, hP, -⟩ := h
  intro q hq
  obtain ⟨k, hk⟩ := List.getElem?_of_mem hq
  have h1 : ∀ (ws : va_W), va_P D vcl ws H → (ws.map (·.1))[k]? = some q → q < H.size := by
    intro ws hws h9
    rw [List.getElem?_map] at h9
    cases e9 : ws[k]? with
    | none => rw [e9] at h9; cases h9
    | some x =>
      rw [e9] at h9
      cases h9
      exact (hws k x e9).lt
  exact h1 _ hP hk
theorem MP.same {D : va_G} {cI : ClassId} {hm a1 a2 a3 a4 a5 a6 a7 a8 a9 a10 a11 : Nat} {th : Int32} {S : Nat → FS} {H H1 : Heap} (h : MP D cI hm a1 a2 a3 a4 a5 a6 a7 a8 a9 a10 a11 th S H) (hk : ∀ q ∈ ([hm, a1, a2, a3, a4, a5, a6, a7, a8, a9, a10, a11] : List Nat), q < H.size → H1[q]? = H[q]?) : MP D cI hm a1 a2 a3 a4 a5 a6 a7 a8 a9 a10 a11 th S H1 := by
  obtain ⟨ki, ka, kb, zs, pu, ce, pa, tr, so, pl, ot, hP, hpic⟩ := h
  refine ⟨ki, ka, kb, zs, pu, ce, pa, tr, so, pl, ot, hP.kept (fun k x hx => ?_), hpic⟩
  have h1 : ∀ (ws : va_W), ws[k]? = some x → x.1 ∈ ws.map (·.1) := fun ws h9 => List.mem_map.mpr ⟨x, List.mem_of_getElem? h9, rfl⟩
  exact hk x.1 (h1 _ hx) (hP k x hx).lt
theorem MP.ob {l : Launch} {s0 : State} {D : va_G} {cI cF cJ : ClassId} (G : Gx l s0 D cI cF cJ) {hm a1 a2 a3 a4 a5 a6 a7 a8 a9 a10 a11 : Nat} {th : Int32} {S : Nat → FS} {H : Heap} (h : MP D cI hm a1 a2 a3 a4 a5 a6 a7 a8 a9 a10 a11 th S H) : mx_Ob s0 H "FewBitsModel" hm := by
  obtain ⟨ki, ka, kb, zs, pu, ce, pa, tr, so, pl, ot, hP, -⟩ := h
  exact va_recv (G.k (State.WarmedH.refl s0)) hP (ci := 4) (q0 := 0) rfl rfl
def LI (s0 : State) (D : va_G) (cI cF cJ : ClassId) (xo fa ma hm a1 a2 a3 a4 a5 a6 a7 a8 a9 a10 a11 oa : Nat) (H : Heap) : Prop :=
  ∃ (t : Nat → Nat) (S : Nat → FS) (th : Int32) (g : Nat → Int64), PX D cI cF xo fa ma t S H ∧ MP D cI hm a1 a2 a3 a4 a5 a6 a7 a8 a9 a10 a11 th S H ∧ va_P D vcl [(oa, aJ cJ 1 g)] H ∧ (∀ i, i < 4 → okS (S i)) ∧ onS s0 H ∧ (∀ q, q < s0.heap.size → t q = 0) ∧ (∀ q, H.size ≤ q → t q ≤ 13) ∧ (∀ q ∈ ([hm, a1, a2, a3, a4, a5, a6, a7, a8, a9, a10, a11] : List Nat), t q = 20) ∧ t oa = 21
theorem LI.on {s0 : State} {D : va_G} {cI cF cJ : ClassId} {xo fa ma hm a1 a2 a3 a4 a5 a6 a7 a8 a9 a10 a11 oa : Nat} {H : Heap} (h : LI s0 D cI cF cJ xo fa ma hm a1 a2 a3 a4 a5 a6 a7 a8 a9 a10 a11 oa H) : onS s0 H := by
  obtain ⟨t, S, th, g, -, -, -, -, hon, -⟩ := h
  exact hon
/-- a round that asks for a number, or a yes or no (conv: how out bears it) -/
def ArmI (l : Launch) (s0 : State) (D : va_G) (cI cF cJ : ClassId) (xo fa ma hm a1 a2 a3 a4 a5 a6 a7 a8 a9 a10 a11 oa : Nat) (conv : Int32 → Int64) (yL : MethodName) (cwL : Cond) (asL : List Value) (yM : MethodName) (cwM : Cond) (asM : List Value) (H : Heap) : Prop :=
  ∃ (k : Nat) (b : Int32) (P1 P2 : Heap → Prop), k < 5 ∧ Mx l s0 yL cwL { frames := 9, cells := 4, slots := 1094, locals := 215 } asL H (fun q => s0.heap.size ≤ q) (Rw (.int (nI k)) P1) ∧ (∀ H1, P1 H1 → onS s0 H1 ∧ mx_Ob s0 H1 "FewBitsModel" hm ∧ Mx l s0 yM cwM { frames := 7, cells := 0, slots := 0, locals := 170 } asM H1 (fun q => s0.heap.size ≤ q) (Rw (.int b) P2)) ∧
    ∀ H2, P2 H2 → mx_Ob s0 H2 "FewBitsModel" hm ∧ Mx l s0 y_M_thrown (.code y_M_thrown b_M_thrown 1 (some .int)) { frames := 0, cells := 0, slots := 0, locals := 0 } [.ref hm] H2 (fun _ => False) (Rd H2 (.int (nI k))) ∧ LI s0 D cI cF cJ xo fa ma hm a1 a2 a3 a4 a5 a6 a7 a8 a9 a10 a11 oa H2 ∧ ∃ g1 : Nat → Int64, va_P D vcl [(oa, aJ cJ 1 g1)] H2 ∧ (k = 0 → g1 0 = conv b)
/-- a round that asks for nothing -/
def ArmV (l : Launch) (s0 : State) (D : va_G) (cI cF cJ : ClassId) (xo fa ma hm a1 a2 a3 a4 a5 a6 a7 a8 a9 a10 a11 oa : Nat) (yL : MethodName) (cwL : Cond) (asL : List Value) (yM : MethodName) (cwM : Cond) (asM : List Value) (H : Heap) : Prop :=
  ∃ (k : Nat) (P1 P2 : Heap → Prop), k < 5 ∧ Mx l s0 yL cwL { frames := 9, cells := 4, slots := 1094, locals := 215 } asL H (fun q => s0.heap.size ≤ q) (Rw (.int (nI k)) P1) ∧ (∀ H1, P1 H1 → onS s0 H1 ∧ mx_Ob s0 H1 "FewBitsModel" hm ∧ Mx l s0 yM cwM { frames := 7, cells := 0, slots := 0, locals := 170 } asM H1 (fun q => s0.heap.size ≤ q) (Rn P2)) ∧
    ∀ H2, P2 H2 → mx_Ob s0 H2 "FewBitsModel" hm ∧ Mx l s0 y_M_thrown (.code y_M_thrown b_M_thrown 1 (some .int)) { frames := 0, cells := 0, slots := 0, locals := 0 } [.ref hm] H2 (fun _ => False) (Rd H2 (.int (nI k))) ∧ LI s0 D cI cF cJ xo fa ma hm a1 a2 a3 a4 a5 a6 a7 a8 a9 a10 a11 oa H2

theorem cd5 (cs : List (Option String × Nat)) (h : cs.all (fun x => decide (x.2 < 5)) = true) : ∀ c k, (c, k) ∈ cs → k < 5 := fun c k hm => of_decide_eq_true (List.all_eq_true.mp h (c, k) hm)

theorem arm_I_of {l : Launch} {s0 : State} {D : va_G} {cI cF cJ : ClassId} (G : Gx l s0 D cI cF cJ) {xo fa ma hm a1 a2 a3 a4 a5 a6 a7 a8 a9 a10 a11 oa : Nat} {t : Nat → Nat} {S : Nat → FS} {th : Int32} {g : Nat → Int64} {H : Heap} (hX : PX D cI cF xo fa ma t S H) (hM : MP D cI hm a1 a2 a3 a4 a5 a6 a7 a8 a9 a10 a11 th S H) (hPo : va_P D vcl [(oa, aJ cJ 1 g)] H) (hon : onS s0 H) (ht0 : ∀ q, q < s0.heap.size → t q = 0) (hts : ∀ q, H.size ≤ q → t q ≤ 13) (htm : ∀ q ∈ ([hm, a1, a2, a3, a4, a5, a6, a7, a8, a9, a10, a11] : List Nat), t q = 20) (hto : t oa = 21) {yF : MethodName} {cwF : Cond} {asF : List Value} {yL : MethodName} {cwL : Cond} {asL : List Value} {yM : MethodName} {cwM : Cond} {asM : List Value} {codes : List (Option String × Nat)} {conv : Int32 → Int64} (hst : StI l s0 D cI cF xo fa ma hm a1 a2 a3 a4 a5 a6 a7 a8 a9 a10 a11 t S H yF cwF asF yM cwM asM codes) (hcd : ∀ c k, (c, k) ∈ codes → k < 5) (hw : ∀ (c0 : Option String) (k0 : Nat) (w : Int32) (P : Heap → Prop) (F : Nat → Prop), (c0, k0) ∈ codes → Mx l s0 yF cwF { frames := 8, cells := 4, slots := 1094, locals := 180 } asF H F (Rq s0 c0 (some (.int w)) P) → ¬ F oa → (∀ H1 H2 : Heap, P H1 → H2.size = H1.size → (∀ q : Nat, q ≠ oa → H2[q]? = H1[q]?) → P H2) → Mx l s0 yL cwL { frames := 9, cells := 4, slots := 1094, locals := 215 } asL H (fun q => F q ∨ q = oa) (Rw (.int (nI k0)) (fun H1 => P H1 ∧ ∃ g1 : Nat → Int64, va_P D vcl [(oa, aJ cJ 1 g1)] H1 ∧ (k0 = 0 → g1 0 = conv w)))) : ArmI l s0 D cI cF cJ xo fa ma hm a1 a2 a3 a4 a5 a6 a7 a8 a9 a10 a11 oa conv yL cwL asL yM cwM asM H := by
  have hoS : s0.heap.size ≤ oa := Nat.not_lt.mp (fun h => by rw [ht0 oa h] at hto; cases hto)
  have hol : oa < H.size := (hPo 0 _ rfl).lt
  have hml := hM.mem
  have hmS : ∀ q ∈ ([hm, a1, a2, a3, a4, a5, a6, a7, a8, a9, a10, a11] : List Nat), s0.heap.size ≤ q := fun q hq => Nat.not_lt.mp (fun h => by have h1 := htm q hq; rw [ht0 q h] at h1; cases h1)
  have hFm : ∀ q ∈ ([hm, a1, a2, a3, a4, a5, a6, a7, a8, a9, a10, a11] : List Nat), ¬ FX t H.size q := fun q hq h => by
    have h1 := htm q hq
    have h2 := hml q hq
    rcases h with h | h <;> omega
  have hFo : ¬ FX t H.size oa := fun h => by rcases h with h | h <;> omega
  have hF0 : ∀ q, q < s0.heap.size → ¬ FX t H.size q := fun q hq h => by
    have h1 := ht0 q hq
    have h2 := hon.le
    rcases h with h | h <;> omega
  have hmo : oa ∉ ([hm, a1, a2, a3, a4, a5, a6, a7, a8, a9, a10, a11] : List Nat) := fun h => by have h1 := htm oa h; omega
  obtain ⟨c, k, w, b, S2, hck, hok2, hwb, hC, hMd⟩ := hst
  have hL := hw c k w _ _ hck hC hFo (fun H1 H2 hp hz ho => by
    obtain ⟨t2, e1, e2, hX2⟩ := hp
    refine ⟨t2, e1, e2, hX2.same (fun q hq h1 h2 => ho q (fun h9 => ?_))⟩
    rw [h9, e1 oa hol, hto] at h2
    omega)
  refine ⟨k, b, (fun H1 => onS s0 H1 ∧ H.size ≤ H1.size ∧ MP D cI hm a1 a2 a3 a4 a5 a6 a7 a8 a9 a10 a11 th S H1 ∧ PXn D cI cF xo fa ma t H.size S2 H1 ∧ ∃ g1 : Nat → Int64, va_P D vcl [(oa, aJ cJ 1 g1)] H1 ∧ (k = 0 → g1 0 = conv w)), (fun H2 => MP D cI hm a1 a2 a3 a4 a5 a6 a7 a8 a9 a10 a11 (nI k) S2 H2 ∧ LI s0 D cI cF cJ xo fa ma hm a1 a2 a3 a4 a5 a6 a7 a8 a9 a10 a11 oa H2 ∧ ∃ g1 : Nat → Int64, va_P D vcl [(oa, aJ cJ 1 g1)] H2 ∧ (k = 0 → g1 0 = conv b)), hcd c k hck, Mx.mono hL (Nat.le_refl _) (Nat.le_refl _) (Nat.le_refl _) (Nat.le_refl _) (fun q h => ?_) (fun o H1 hz hk hq => ?_), fun H1 hp => ?_, fun H2 hp => ?_⟩
  · rcases h with h | h
    · rcases Nat.lt_or_ge q s0.heap.size with h9 | h9
      · exact absurd h (hF0 q h9)
      · exact h9
    · show s0.heap.size ≤ q
      rw [h]; exact hoS
  · obtain ⟨e1, hp, g1, hp1, hg1⟩ := hq
    refine ⟨e1, fun q hq => ?_, hz, hM.same (fun q hq h9 => hk q h9 (fun h => ?_)), hp, g1, hp1, hg1⟩
    · rw [hk q (Nat.lt_of_lt_of_le hq hon.le) (fun h => ?_)]
      · exact hon q hq
      · rcases h with h | h
        · exact hF0 q hq h
        · rw [h] at hq; omega
    · rcases h with h | h
      · exact hFm q hq h
      · rw [h] at hq; exact hmo hq
  · obtain ⟨hon1, hz1, hM1, ⟨t2, e1, e2, hX2⟩, g1, hp1, hg1⟩ := hp
    refine ⟨hon1, hM1.ob G, Mx.mono (hMd th H1 hM1) (Nat.le_refl _) (Nat.le_refl _) (Nat.le_refl _) (Nat.le_refl _) (fun q h => ?_) (fun o H2 hz hk hq => ?_)⟩
    · rcases h with h | h
      · exact hmS q h
      · exact Nat.le_trans hon1.le h
    · obtain ⟨e9, hM2⟩ := hq
      have hno : ∀ q, q < H1.size → q ∉ ([hm, a1, a2, a3, a4, a5, a6, a7, a8, a9, a10, a11] : List Nat) → H2[q]? = H1[q]? := fun q h1 h2 => hk q h1 (fun h => h.elim h2 (fun h3 => by omega))
      have hp2 : va_P D vcl [(oa, aJ cJ 1 g1)] H2 := kept1 hp1 (fun h => hno oa h hmo)
      refine ⟨e9, hM2, ⟨t2, S2, _, g1, hX2.same (fun q h1 h2 h3 => hno q h1 (fun h => ?_)), hM2, hp2, hok2, fun q hq => ?_, fun q hq => ?_, fun q hq => ?_, fun q hq => ?_, ?_⟩, g1, hp2, fun h => by rw [hg1 h, hwb h]⟩
      · rw [e1 q (hml q h), htm q h] at h3; omega
      · rw [hno q (Nat.lt_of_lt_of_le hq hon1.le) (fun h => by have := hmS q h; omega)]
        exact hon1 q hq
      · rw [e1 q (Nat.lt_of_lt_of_le hq hon.le)]; exact ht0 q hq
      · exact e2 q (by omega)
      · rw [e1 q (hml q hq)]; exact htm q hq
      · rw [e1 oa hol]; exact hto
  · exact ⟨hp.1.ob G, m_thrown G hm a1 a2 a3 a4 a5 a6 a7 a8 a9 a10 a11 _ S2 hp.1, hp.2.1, hp.2.2⟩

theorem arm_V_of {l : Launch} {s0 : State} {D : va_G} {cI cF cJ : ClassId} (G : Gx l s0 D cI cF cJ) {xo fa ma hm a1 a2 a3 a4 a5 a6 a7 a8 a9 a10 a11 oa : Nat} {t : Nat → Nat} {S : Nat → FS} {th : Int32} {g : Nat → Int64} {H : Heap} (hX : PX D cI cF xo fa ma t S H) (hM : MP D cI hm a1 a2 a3 a4 a5 a6 a7 a8 a9 a10 a11 th S H) (hPo : va_P D vcl [(oa, aJ cJ 1 g)] H) (hon : onS s0 H) (ht0 : ∀ q, q < s0.heap.size → t q = 0) (hts : ∀ q, H.size ≤ q → t q ≤ 13) (htm : ∀ q ∈ ([hm, a1, a2, a3, a4, a5, a6, a7, a8, a9, a10, a11] : List Nat), t q = 20) (hto : t oa = 21) {yF : MethodName} {cwF : Cond} {asF : List Value} {yL : MethodName} {cwL : Cond} {asL : List Value} {yM : MethodName} {cwM : Cond} {asM : List Value} {codes : List (Option String × Nat)} (hst : StV l s0 D cI cF xo fa ma hm a1 a2 a3 a4 a5 a6 a7 a8 a9 a10 a11 t S H yF cwF asF yM cwM asM codes) (hcd : ∀ c k, (c, k) ∈ codes → k < 5) (hw : ∀ (c0 : Option String) (k0 : Nat) (P : Heap → Prop) (F : Nat → Prop), (c0, k0) ∈ codes → Mx l s0 yF cwF { frames := 8, cells := 4, slots := 1094, locals := 180 } asF H F (Rq s0 c0 none P) → Mx l s0 yL cwL { frames := 9, cells := 4, slots := 1094, locals := 215 } asL H F (Rw (.int (nI k0)) P)) : ArmV l s0 D cI cF cJ xo fa ma hm a1 a2 a3 a4 a5 a6 a7 a8 a9 a10 a11 oa yL cwL asL yM cwM asM H := by
  have hoS : s0.heap.size ≤ oa := Nat.not_lt.mp (fun h => by rw [ht0 oa h] at hto; cases hto)
  have hol : oa < H.size := (hPo 0 _ rfl).lt
  have hml := hM.mem
  have hmS : ∀ q ∈ ([hm, a1, a2, a3, a4, a5, a6, a7, a8, a9, a10, a11] : List Nat), s0.heap.size ≤ q := fun q hq => Nat.not_lt.mp (fun h => by have h1 := htm q hq; rw [ht0 q h] at h1; cases h1)
  have hFm : ∀ q ∈ ([hm, a1, a2, a3, a4, a5, a6, a7, a8, a9, a10, a11] : List Nat), ¬ FX t H.size q := fun q hq h => by
    have h1 := htm q hq
    have h2 := hml q hq
    rcases h with h | h <;> omega
  have hFo : ¬ FX t H.size oa := fun h => by rcases h with h | h <;> omega
  have hF0 : ∀ q, q < s0.heap.size → ¬ FX t H.size q := fun q hq h => by
    have h1 := ht0 q hq
    have h2 := hon.le
    rcases h with h | h <;> omega
  have hmo : oa ∉ ([hm, a1, a2, a3, a4, a5, a6, a7, a8, a9, a10, a11] : List Nat) := fun h => by have h1 := htm oa h; omega
  obtain ⟨c, k, S2, hck, hok2, hC, hMd⟩ := hst
  have hL := hw c k _ _ hck hC
  refine ⟨k, (fun H1 => onS s0 H1 ∧ H.size ≤ H1.size ∧ MP D cI hm a1 a2 a3 a4 a5 a6 a7 a8 a9 a10 a11 th S H1 ∧ PXn D cI cF xo fa ma t H.size S2 H1 ∧ ∃ g1 : Nat → Int64, va_P D vcl [(oa, aJ cJ 1 g1)] H1), (fun H2 => MP D cI hm a1 a2 a3 a4 a5 a6 a7 a8 a9 a10 a11 (nI k) S2 H2 ∧ LI s0 D cI cF cJ xo fa ma hm a1 a2 a3 a4 a5 a6 a7 a8 a9 a10 a11 oa H2), hcd c k hck, Mx.mono hL (Nat.le_refl _) (Nat.le_refl _) (Nat.le_refl _) (Nat.le_refl _) (fun q h => ?_) (fun o H1 hz hk hq => ?_), fun H1 hp => ?_, fun H2 hp => ?_⟩
  · rcases Nat.lt_or_ge q s0.heap.size with h9 | h9
    · exact absurd h (hF0 q h9)
    · exact h9
  · obtain ⟨e1, hp⟩ := hq
    refine ⟨e1, fun q hq => ?_, hz, hM.same (fun q hq h9 => hk q h9 (hFm q hq)), hp, g, kept1 hPo (fun h => hk oa h hFo)⟩
    rw [hk q (Nat.lt_of_lt_of_le hq hon.le) (hF0 q hq)]
    exact hon q hq
  · obtain ⟨hon1, hz1, hM1, ⟨t2, e1, e2, hX2⟩, g1, hp1⟩ := hp
    refine ⟨hon1, hM1.ob G, Mx.mono (hMd th H1 hM1) (Nat.le_refl _) (Nat.le_refl _) (Nat.le_refl _) (Nat.le_refl _) (fun q h => ?_) (fun o H2 hz hk hq => ?_)⟩
    · rcases h with h | h
      · exact hmS q h
      · exact Nat.le_trans hon1.le h
    · obtain ⟨e9, hM2⟩ := hq
      have hno : ∀ q, q < H1.size → q ∉ ([hm, a1, a2, a3, a4, a5, a6, a7, a8, a9, a10, a11] : List Nat) → H2[q]? = H1[q]? := fun q h1 h2 => hk q h1 (fun h => h.elim h2 (fun h3 => by omega))
      have hp2 : va_P D vcl [(oa, aJ cJ 1 g1)] H2 := kept1 hp1 (fun h => hno oa h hmo)
      refine ⟨e9, hM2, ⟨t2, S2, _, g1, hX2.same (fun q h1 h2 h3 => hno q h1 (fun h => ?_)), hM2, hp2, hok2, fun q hq => ?_, fun q hq => ?_, fun q hq => ?_, fun q hq => ?_, ?_⟩⟩
      · rw [e1 q (hml q h), htm q h] at h3; omega
      · rw [hno q (Nat.lt_of_lt_of_le hq hon1.le) (fun h => by have := hmS q h; omega)]
        exact hon1 q hq
      · rw [e1 q (Nat.lt_of_lt_of_le hq hon.le)]; exact ht0 q hq
      · exact e2 q (by omega)
      · rw [e1 q (hml q hq)]; exact htm q hq
      · rw [e1 oa hol]; exact hto
  · exact ⟨hp.1.ob G, m_thrown G hm a1 a2 a3 a4 a5 a6 a7 a8 a9 a10 a11 _ S2 hp.1, hp.2⟩

theorem arm_make {l : Launch} {s0 : State} {D : va_G} {cI cF cJ : ClassId} (G : Gx l s0 D cI cF cJ) (xo fa ma hm a1 a2 a3 a4 a5 a6 a7 a8 a9 a10 a11 oa : Nat) (v : Int32) (k9 : Int32) (a : Int32) (b : Int32) {H : Heap} {A0 : Nat → Prop} (hDm : va_D A0 (adM hm a1 a2 a3 a4 a5 a6 a7 a8 a9 a10 a11)) (hLI : LI s0 D cI cF cJ xo fa ma hm a1 a2 a3 a4 a5 a6 a7 a8 a9 a10 a11 oa H) : ArmV l s0 D cI cF cJ xo fa ma hm a1 a2 a3 a4 a5 a6 a7 a8 a9 a10 a11 oa y_L_make (.codeWith y_L_make b_L_make 6 (some .int) [(0, 9, 12, 13), (0, 9, 16, 15)]) [.ref xo, .int v, .int k9, .int a, .int b] y_M_make (.code y_M_make b_M_make 6 none) [.ref hm, .int v, .int k9, .int a, .int b] H := by
  obtain ⟨t, S, th, g, hX, hM, hPo, hok, hon, ht0, hts, htm, hto⟩ := hLI
  have hX9 := hX
  obtain ⟨fi, mk, O, hP9, -⟩ := hX9
  have hPx : va_P D vcl [(xo, .inr (3, [.ref fa, .ref ma]))] H := hP9.sub [0] rfl
  exact arm_V_of G hX hM hPo hon ht0 hts htm hto (s_make G v k9 a b hm a1 a2 a3 a4 a5 a6 a7 a8 a9 a10 a11 xo fa ma t S hX hok hon ht0 hts hDm) (cd5 _ rfl) (fun c0 k0 P F hck hC => w_make G xo fa ma v k9 a b hck hC hPx)

theorem arm_add {l : Launch} {s0 : State} {D : va_G} {cI cF cJ : ClassId} (G : Gx l s0 D cI cF cJ) (xo fa ma hm a1 a2 a3 a4 a5 a6 a7 a8 a9 a10 a11 oa : Nat) (v : Int32) (x : Int64) {H : Heap} {A0 : Nat → Prop} (hDm : va_D A0 (adM hm a1 a2 a3 a4 a5 a6 a7 a8 a9 a10 a11)) (hLI : LI s0 D cI cF cJ xo fa ma hm a1 a2 a3 a4 a5 a6 a7 a8 a9 a10 a11 oa H) : ArmI l s0 D cI cF cJ xo fa ma hm a1 a2 a3 a4 a5 a6 a7 a8 a9 a10 a11 oa Int32.toInt64 y_L_add (.codeWith y_L_add b_L_add 6 (some .int) [(0, 11, 14, 13), (0, 11, 18, 21), (0, 11, 22, 23)]) [.ref xo, .int v, .long x, .ref oa] y_M_add (.code y_M_add b_M_add 4 (some .int)) [.ref hm, .int v, .long x] H := by
  obtain ⟨t, S, th, g, hX, hM, hPo, hok, hon, ht0, hts, htm, hto⟩ := hLI
  have hX9 := hX
  obtain ⟨fi, mk, O, hP9, -⟩ := hX9
  have hPx : va_P D vcl [(xo, .inr (3, [.ref fa, .ref ma]))] H := hP9.sub [0] rfl
  exact arm_I_of G hX hM hPo hon ht0 hts htm hto (s_add G v x hm a1 a2 a3 a4 a5 a6 a7 a8 a9 a10 a11 xo fa ma t S hX hok hon ht0 hts hDm) (cd5 _ rfl) (fun c0 k0 w P F hck hC h1 h2 => w_add G xo fa ma oa v x hck hC hPx hPo h1 h2)

theorem arm_addAll {l : Launch} {s0 : State} {D : va_G} {cI cF cJ : ClassId} (G : Gx l s0 D cI cF cJ) (xo fa ma hm a1 a2 a3 a4 a5 a6 a7 a8 a9 a10 a11 oa : Nat) (v : Int32) (x : Int64) (st : Int64) (nv : Int32) {H : Heap} {A0 : Nat → Prop} (hDm : va_D A0 (adM hm a1 a2 a3 a4 a5 a6 a7 a8 a9 a10 a11)) (hLI : LI s0 D cI cF cJ xo fa ma hm a1 a2 a3 a4 a5 a6 a7 a8 a9 a10 a11 oa H) : ArmI l s0 D cI cF cJ xo fa ma hm a1 a2 a3 a4 a5 a6 a7 a8 a9 a10 a11 oa Int32.toInt64 y_L_addAll (.codeWith y_L_addAll b_L_addAll 9 (some .int) [(0, 15, 18, 13), (0, 15, 22, 21), (0, 15, 26, 15)]) [.ref xo, .int v, .long x, .long st, .int nv, .ref oa] y_M_addAll (.code y_M_addAll b_M_addAll 8 (some .int)) [.ref hm, .int v, .long x, .long st, .int nv] H := by
  obtain ⟨t, S, th, g, hX, hM, hPo, hok, hon, ht0, hts, htm, hto⟩ := hLI
  have hX9 := hX
  obtain ⟨fi, mk, O, hP9, -⟩ := hX9
  have hPx : va_P D vcl [(xo, .inr (3, [.ref fa, .ref ma]))] H := hP9.sub [0] rfl
  exact arm_I_of G hX hM hPo hon ht0 hts htm hto (s_addAll G v x st nv hm a1 a2 a3 a4 a5 a6 a7 a8 a9 a10 a11 xo fa ma t S hX hok hon ht0 hts hDm) (cd5 _ rfl) (fun c0 k0 w P F hck hC h1 h2 => w_addAll G xo fa ma oa v x st nv hck hC hPx hPo h1 h2)

theorem arm_remove {l : Launch} {s0 : State} {D : va_G} {cI cF cJ : ClassId} (G : Gx l s0 D cI cF cJ) (xo fa ma hm a1 a2 a3 a4 a5 a6 a7 a8 a9 a10 a11 oa : Nat) (v : Int32) (x : Int64) {H : Heap} {A0 : Nat → Prop} (hDm : va_D A0 (adM hm a1 a2 a3 a4 a5 a6 a7 a8 a9 a10 a11)) (hLI : LI s0 D cI cF cJ xo fa ma hm a1 a2 a3 a4 a5 a6 a7 a8 a9 a10 a11 oa H) : ArmI l s0 D cI cF cJ xo fa ma hm a1 a2 a3 a4 a5 a6 a7 a8 a9 a10 a11 oa Int32.toInt64 y_L_remove (.codeWith y_L_remove b_L_remove 6 (some .int) [(0, 11, 14, 13), (0, 11, 18, 21), (0, 11, 22, 32)]) [.ref xo, .int v, .long x, .ref oa] y_M_remove (.code y_M_remove b_M_remove 8 (some .int)) [.ref hm, .int v, .long x] H := by
  obtain ⟨t, S, th, g, hX, hM, hPo, hok, hon, ht0, hts, htm, hto⟩ := hLI
  have hX9 := hX
  obtain ⟨fi, mk, O, hP9, -⟩ := hX9
  have hPx : va_P D vcl [(xo, .inr (3, [.ref fa, .ref ma]))] H := hP9.sub [0] rfl
  exact arm_I_of G hX hM hPo hon ht0 hts htm hto (s_remove G v x hm a1 a2 a3 a4 a5 a6 a7 a8 a9 a10 a11 xo fa ma t S hX hok hon ht0 hts hDm) (cd5 _ rfl) (fun c0 k0 w P F hck hC h1 h2 => w_remove G xo fa ma oa v x hck hC hPx hPo h1 h2)

theorem arm_has {l : Launch} {s0 : State} {D : va_G} {cI cF cJ : ClassId} (G : Gx l s0 D cI cF cJ) (xo fa ma hm a1 a2 a3 a4 a5 a6 a7 a8 a9 a10 a11 oa : Nat) (v : Int32) (x : Int64) {H : Heap} {A0 : Nat → Prop} (hDm : va_D A0 (adM hm a1 a2 a3 a4 a5 a6 a7 a8 a9 a10 a11)) (hLI : LI s0 D cI cF cJ xo fa ma hm a1 a2 a3 a4 a5 a6 a7 a8 a9 a10 a11 oa H) : ArmI l s0 D cI cF cJ xo fa ma hm a1 a2 a3 a4 a5 a6 a7 a8 a9 a10 a11 oa zl y_L_has (.codeWith y_L_has b_L_has 6 (some .int) [(0, 18, 21, 13), (0, 18, 25, 21)]) [.ref xo, .int v, .long x, .ref oa] y_M_has (.code y_M_has b_M_has 4 (some .boolean)) [.ref hm, .int v, .long x] H := by
  obtain ⟨t, S, th, g, hX, hM, hPo, hok, hon, ht0, hts, htm, hto⟩ := hLI
  have hX9 := hX
  obtain ⟨fi, mk, O, hP9, -⟩ := hX9
  have hPx : va_P D vcl [(xo, .inr (3, [.ref fa, .ref ma]))] H := hP9.sub [0] rfl
  exact arm_I_of G hX hM hPo hon ht0 hts htm hto (s_has G v x hm a1 a2 a3 a4 a5 a6 a7 a8 a9 a10 a11 xo fa ma t S hX hok hon ht0 hts hDm) (cd5 _ rfl) (fun c0 k0 w P F hck hC h1 h2 => w_has G xo fa ma oa v x hck hC hPx hPo h1 h2)

theorem arm_hasAll {l : Launch} {s0 : State} {D : va_G} {cI cF cJ : ClassId} (G : Gx l s0 D cI cF cJ) (xo fa ma hm a1 a2 a3 a4 a5 a6 a7 a8 a9 a10 a11 oa : Nat) (v : Int32) (x : Int64) (st : Int64) (nv : Int32) {H : Heap} {A0 : Nat → Prop} (hDm : va_D A0 (adM hm a1 a2 a3 a4 a5 a6 a7 a8 a9 a10 a11)) (hLI : LI s0 D cI cF cJ xo fa ma hm a1 a2 a3 a4 a5 a6 a7 a8 a9 a10 a11 oa H) : ArmI l s0 D cI cF cJ xo fa ma hm a1 a2 a3 a4 a5 a6 a7 a8 a9 a10 a11 oa Int32.toInt64 y_L_hasAll (.codeWith y_L_hasAll b_L_hasAll 9 (some .int) [(0, 15, 18, 13), (0, 15, 22, 21), (0, 15, 26, 15)]) [.ref xo, .int v, .long x, .long st, .int nv, .ref oa] y_M_hasAll (.code y_M_hasAll b_M_hasAll 9 (some .int)) [.ref hm, .int v, .long x, .long st, .int nv] H := by
  obtain ⟨t, S, th, g, hX, hM, hPo, hok, hon, ht0, hts, htm, hto⟩ := hLI
  have hX9 := hX
  obtain ⟨fi, mk, O, hP9, -⟩ := hX9
  have hPx : va_P D vcl [(xo, .inr (3, [.ref fa, .ref ma]))] H := hP9.sub [0] rfl
  exact arm_I_of G hX hM hPo hon ht0 hts htm hto (s_hasAll G v x st nv hm a1 a2 a3 a4 a5 a6 a7 a8 a9 a10 a11 xo fa ma t S hX hok hon ht0 hts hDm) (cd5 _ rfl) (fun c0 k0 w P F hck hC h1 h2 => w_hasAll G xo fa ma oa v x st nv hck hC hPx hPo h1 h2)

theorem arm_same {l : Launch} {s0 : State} {D : va_G} {cI cF cJ : ClassId} (G : Gx l s0 D cI cF cJ) (xo fa ma hm a1 a2 a3 a4 a5 a6 a7 a8 a9 a10 a11 oa : Nat) (v : Int32) (x : Int64) (y : Int64) {H : Heap} {A0 : Nat → Prop} (hDm : va_D A0 (adM hm a1 a2 a3 a4 a5 a6 a7 a8 a9 a10 a11)) (hLI : LI s0 D cI cF cJ xo fa ma hm a1 a2 a3 a4 a5 a6 a7 a8 a9 a10 a11 oa H) : ArmI l s0 D cI cF cJ xo fa ma hm a1 a2 a3 a4 a5 a6 a7 a8 a9 a10 a11 oa zl y_L_same (.codeWith y_L_same b_L_same 8 (some .int) [(0, 20, 23, 13), (0, 20, 27, 21)]) [.ref xo, .int v, .long x, .long y, .ref oa] y_M_same (.code y_M_same b_M_same 9 (some .boolean)) [.ref hm, .int v, .long x, .long y] H := by
  obtain ⟨t, S, th, g, hX, hM, hPo, hok, hon, ht0, hts, htm, hto⟩ := hLI
  have hX9 := hX
  obtain ⟨fi, mk, O, hP9, -⟩ := hX9
  have hPx : va_P D vcl [(xo, .inr (3, [.ref fa, .ref ma]))] H := hP9.sub [0] rfl
  exact arm_I_of G hX hM hPo hon ht0 hts htm hto (s_same G v x y hm a1 a2 a3 a4 a5 a6 a7 a8 a9 a10 a11 xo fa ma t S hX hok hon ht0 hts hDm) (cd5 _ rfl) (fun c0 k0 w P F hck hC h1 h2 => w_same G xo fa ma oa v x y hck hC hPx hPo h1 h2)

theorem arm_count {l : Launch} {s0 : State} {D : va_G} {cI cF cJ : ClassId} (G : Gx l s0 D cI cF cJ) (xo fa ma hm a1 a2 a3 a4 a5 a6 a7 a8 a9 a10 a11 oa : Nat) (v : Int32) (wv : Int32) {H : Heap} {A0 : Nat → Prop} (hDm : va_D A0 (adM hm a1 a2 a3 a4 a5 a6 a7 a8 a9 a10 a11)) (hLI : LI s0 D cI cF cJ xo fa ma hm a1 a2 a3 a4 a5 a6 a7 a8 a9 a10 a11 oa H) : ArmI l s0 D cI cF cJ xo fa ma hm a1 a2 a3 a4 a5 a6 a7 a8 a9 a10 a11 oa Int32.toInt64 y_L_count (.codeWith y_L_count b_L_count 5 (some .int) [(0, 10, 13, 13), (0, 10, 17, 21), (0, 10, 21, 15)]) [.ref xo, .int v, .int wv, .ref oa] y_M_count (.code y_M_count b_M_count 7 (some .int)) [.ref hm, .int v, .int wv] H := by
  obtain ⟨t, S, th, g, hX, hM, hPo, hok, hon, ht0, hts, htm, hto⟩ := hLI
  have hX9 := hX
  obtain ⟨fi, mk, O, hP9, -⟩ := hX9
  have hPx : va_P D vcl [(xo, .inr (3, [.ref fa, .ref ma]))] H := hP9.sub [0] rfl
  exact arm_I_of G hX hM hPo hon ht0 hts htm hto (s_count G v wv hm a1 a2 a3 a4 a5 a6 a7 a8 a9 a10 a11 xo fa ma t S hX hok hon ht0 hts hDm) (cd5 _ rfl) (fun c0 k0 w P F hck hC h1 h2 => w_count G xo fa ma oa v wv hck hC hPx hPo h1 h2)

theorem arm_cell {l : Launch} {s0 : State} {D : va_G} {cI cF cJ : ClassId} (G : Gx l s0 D cI cF cJ) (xo fa ma hm a1 a2 a3 a4 a5 a6 a7 a8 a9 a10 a11 oa : Nat) (v : Int32) (iv : Int32) {H : Heap} {A0 : Nat → Prop} (hDm : va_D A0 (adM hm a1 a2 a3 a4 a5 a6 a7 a8 a9 a10 a11)) (hLI : LI s0 D cI cF cJ xo fa ma hm a1 a2 a3 a4 a5 a6 a7 a8 a9 a10 a11 oa H) : ArmI l s0 D cI cF cJ xo fa ma hm a1 a2 a3 a4 a5 a6 a7 a8 a9 a10 a11 oa Int32.toInt64 y_L_cell (.codeWith y_L_cell b_L_cell 5 (some .int) [(0, 10, 13, 21), (0, 10, 17, 13)]) [.ref xo, .int v, .int iv, .ref oa] y_M_cell (.code y_M_cell b_M_cell 4 (some .int)) [.ref hm, .int v, .int iv] H := by
  obtain ⟨t, S, th, g, hX, hM, hPo, hok, hon, ht0, hts, htm, hto⟩ := hLI
  have hX9 := hX
  obtain ⟨fi, mk, O, hP9, -⟩ := hX9
  have hPx : va_P D vcl [(xo, .inr (3, [.ref fa, .ref ma]))] H := hP9.sub [0] rfl
  exact arm_I_of G hX hM hPo hon ht0 hts htm hto (s_cell G v iv hm a1 a2 a3 a4 a5 a6 a7 a8 a9 a10 a11 xo fa ma t S hX hok hon ht0 hts hDm) (cd5 _ rfl) (fun c0 k0 w P F hck hC h1 h2 => w_cell G xo fa ma oa v iv hck hC hPx hPo h1 h2)

theorem arm_merge {l : Launch} {s0 : State} {D : va_G} {cI cF cJ : ClassId} (G : Gx l s0 D cI cF cJ) (xo fa ma hm a1 a2 a3 a4 a5 a6 a7 a8 a9 a10 a11 oa : Nat) (v : Int32) (u : Int32) {H : Heap} {A0 : Nat → Prop} (hDm : va_D A0 (adM hm a1 a2 a3 a4 a5 a6 a7 a8 a9 a10 a11)) (hLI : LI s0 D cI cF cJ xo fa ma hm a1 a2 a3 a4 a5 a6 a7 a8 a9 a10 a11 oa H) : ArmI l s0 D cI cF cJ xo fa ma hm a1 a2 a3 a4 a5 a6 a7 a8 a9 a10 a11 oa Int32.toInt64 y_L_merge (.codeWith y_L_merge b_L_merge 5 (some .int) [(0, 10, 13, 13), (0, 10, 17, 21), (0, 10, 21, 15), (0, 10, 25, 23)]) [.ref xo, .int v, .int u, .ref oa] y_M_merge (.code y_M_merge b_M_merge 9 (some .int)) [.ref hm, .int v, .int u] H := by
  obtain ⟨t, S, th, g, hX, hM, hPo, hok, hon, ht0, hts, htm, hto⟩ := hLI
  have hX9 := hX
  obtain ⟨fi, mk, O, hP9, -⟩ := hX9
  have hPx : va_P D vcl [(xo, .inr (3, [.ref fa, .ref ma]))] H := hP9.sub [0] rfl
  exact arm_I_of G hX hM hPo hon ht0 hts htm hto (s_merge G v u hm a1 a2 a3 a4 a5 a6 a7 a8 a9 a10 a11 xo fa ma t S hX hok hon ht0 hts hDm) (cd5 _ rfl) (fun c0 k0 w P F hck hC h1 h2 => w_merge G xo fa ma oa v u hck hC hPx hPo h1 h2)

theorem arm_grow {l : Launch} {s0 : State} {D : va_G} {cI cF cJ : ClassId} (G : Gx l s0 D cI cF cJ) (xo fa ma hm a1 a2 a3 a4 a5 a6 a7 a8 a9 a10 a11 oa : Nat) (v : Int32) {H : Heap} {A0 : Nat → Prop} (hDm : va_D A0 (adM hm a1 a2 a3 a4 a5 a6 a7 a8 a9 a10 a11)) (hLI : LI s0 D cI cF cJ xo fa ma hm a1 a2 a3 a4 a5 a6 a7 a8 a9 a10 a11 oa H) : ArmV l s0 D cI cF cJ xo fa ma hm a1 a2 a3 a4 a5 a6 a7 a8 a9 a10 a11 oa y_L_grow (.codeWith y_L_grow b_L_grow 3 (some .int) [(0, 5, 8, 13), (0, 5, 11, 21), (0, 5, 14, 15)]) [.ref xo, .int v] y_M_grow (.code y_M_grow b_M_grow 6 none) [.ref hm, .int v] H := by
  obtain ⟨t, S, th, g, hX, hM, hPo, hok, hon, ht0, hts, htm, hto⟩ := hLI
  have hX9 := hX
  obtain ⟨fi, mk, O, hP9, -⟩ := hX9
  have hPx : va_P D vcl [(xo, .inr (3, [.ref fa, .ref ma]))] H := hP9.sub [0] rfl
  exact arm_V_of G hX hM hPo hon ht0 hts htm hto (s_grow G v hm a1 a2 a3 a4 a5 a6 a7 a8 a9 a10 a11 xo fa ma t S hX hok hon ht0 hts hDm) (cd5 _ rfl) (fun c0 k0 P F hck hC => w_grow G xo fa ma v hck hC hPx)

theorem arm_clear {l : Launch} {s0 : State} {D : va_G} {cI cF cJ : ClassId} (G : Gx l s0 D cI cF cJ) (xo fa ma hm a1 a2 a3 a4 a5 a6 a7 a8 a9 a10 a11 oa : Nat) (v : Int32) {H : Heap} {A0 : Nat → Prop} (hDm : va_D A0 (adM hm a1 a2 a3 a4 a5 a6 a7 a8 a9 a10 a11)) (hLI : LI s0 D cI cF cJ xo fa ma hm a1 a2 a3 a4 a5 a6 a7 a8 a9 a10 a11 oa H) : ArmI l s0 D cI cF cJ xo fa ma hm a1 a2 a3 a4 a5 a6 a7 a8 a9 a10 a11 oa Int32.toInt64 y_L_clear (.codeWith y_L_clear b_L_clear 4 (some .int) [(0, 9, 12, 13), (0, 9, 15, 21)]) [.ref xo, .int v, .ref oa] y_M_clear (.code y_M_clear b_M_clear 3 (some .int)) [.ref hm, .int v] H := by
  obtain ⟨t, S, th, g, hX, hM, hPo, hok, hon, ht0, hts, htm, hto⟩ := hLI
  have hX9 := hX
  obtain ⟨fi, mk, O, hP9, -⟩ := hX9
  have hPx : va_P D vcl [(xo, .inr (3, [.ref fa, .ref ma]))] H := hP9.sub [0] rfl
  exact arm_I_of G hX hM hPo hon ht0 hts htm hto (s_clear G v hm a1 a2 a3 a4 a5 a6 a7 a8 a9 a10 a11 xo fa ma t S hX hok hon ht0 hts hDm) (cd5 _ rfl) (fun c0 k0 w P F hck hC h1 h2 => w_clear G xo fa ma oa v hck hC hPx hPo h1 h2)

/-- the round that mixes -/
def ArmX (l : Launch) (s0 : State) (D : va_G) (cI cF cJ : ClassId) (xo fa ma hm a1 a2 a3 a4 a5 a6 a7 a8 a9 a10 a11 oa : Nat) (x : Int64) (sk : Int32) (H : Heap) : Prop :=
  ∃ (r : Int64) (P1 P2 : Heap → Prop), mx_Ob s0 H "FewBits" xo ∧ Mx l s0 y_F_mix (.code y_F_mix b_F_mix 4 (some .long)) { frames := 8, cells := 4, slots := 1094, locals := 180 } [.ref xo, .long x, .int sk] H (fun q => s0.heap.size ≤ q) (Rw (.long r) P1) ∧ (∀ H1, P1 H1 → onS s0 H1 ∧ mx_Ob s0 H1 "FewBitsModel" hm ∧ Mx l s0 y_M_mix (.code y_M_mix b_M_mix 4 (some .long)) { frames := 7, cells := 0, slots := 0, locals := 170 } [.ref hm, .long x, .int sk] H1 (fun q => s0.heap.size ≤ q) (Rw (.long r) P2)) ∧
    ∀ H2, P2 H2 → LI s0 D cI cF cJ xo fa ma hm a1 a2 a3 a4 a5 a6 a7 a8 a9 a10 a11 oa H2
theorem arm_mix {l : Launch} {s0 : State} {D : va_G} {cI cF cJ : ClassId} (G : Gx l s0 D cI cF cJ) (xo fa ma hm a1 a2 a3 a4 a5 a6 a7 a8 a9 a10 a11 oa : Nat) (x : Int64) (sk : Int32) {H : Heap} {A0 : Nat → Prop} (hDm : va_D A0 (adM hm a1 a2 a3 a4 a5 a6 a7 a8 a9 a10 a11)) (hLI : LI s0 D cI cF cJ xo fa ma hm a1 a2 a3 a4 a5 a6 a7 a8 a9 a10 a11 oa H) : ArmX l s0 D cI cF cJ xo fa ma hm a1 a2 a3 a4 a5 a6 a7 a8 a9 a10 a11 oa x sk H := by
  obtain ⟨t, S, th, g, hX, hM, hPo, hok, hon, ht0, hts, htm, hto⟩ := hLI
  have hX9 := hX
  obtain ⟨fi, mk, O, hP9, -⟩ := hX9
  refine ⟨mx x sk.toInt64, fun H1 => H1 = H, fun H2 => LI s0 D cI cF cJ xo fa ma hm a1 a2 a3 a4 a5 a6 a7 a8 a9 a10 a11 oa H2, va_recv (G.k (State.WarmedH.refl s0)) hP9 (ci := 3) (q0 := 0) rfl rfl, Mx.mono (c_F_mix G xo x sk) (Nat.le_of_ble_eq_true rfl) (Nat.le_of_ble_eq_true rfl) (Nat.le_of_ble_eq_true rfl) (Nat.le_of_ble_eq_true rfl) (fun _ h => h.elim) (fun o H1 hz hk hq => ⟨hq.1, hq.2⟩), fun H1 hp => ?_, fun H2 hp => hp⟩
  subst hp
  have hmS : ∀ q ∈ ([hm, a1, a2, a3, a4, a5, a6, a7, a8, a9, a10, a11] : List Nat), s0.heap.size ≤ q := fun q hq => Nat.not_lt.mp (fun h => by have h1 := htm q hq; rw [ht0 q h] at h1; cases h1)
  have hmo : oa ∉ ([hm, a1, a2, a3, a4, a5, a6, a7, a8, a9, a10, a11] : List Nat) := fun h => by have h1 := htm oa h; omega
  refine ⟨hon, hM.ob G, Mx.mono (m_mix G hm a1 a2 a3 a4 a5 a6 a7 a8 a9 a10 a11 th S x sk hM hDm hok) (Nat.le_refl _) (Nat.le_refl _) (Nat.le_refl _) (Nat.le_refl _) (fun q h => ?_) (fun o H2 hz hk hq => ?_)⟩
  · rcases h with h | h
    · exact hmS q h
    · exact Nat.le_trans hon.le h
  · obtain ⟨e9, hM2⟩ := hq
    have hno : ∀ q, q < H1.size → q ∉ ([hm, a1, a2, a3, a4, a5, a6, a7, a8, a9, a10, a11] : List Nat) → H2[q]? = H1[q]? := fun q h1 h2 => hk q h1 (fun h => h.elim h2 (fun h3 => by omega))
    refine ⟨e9, t, S, _, g, hX.same (fun q h1 h2 h3 => hno q h1 (fun h => ?_)), hM2, kept1 hPo (fun h => hno oa h hmo), hok, fun q hq => ?_, ht0, fun q hq => hts q (by omega), htm, hto⟩
    · rw [htm q h] at h3; omega
    · rw [hno q (Nat.lt_of_lt_of_le hq hon.le) (fun h => by have := hmS q h; omega)]
      exact hon q hq
