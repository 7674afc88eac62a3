/-! WHAT IS DONE, over the abstract state, and that it keeps the ranges. -/
def roadS (A : Mem) (a b n th : Int) : Mem := mset (mset (mset (mset (mset (mset A 11 (A 10 0) a) 12 (A 10 0) b) 13 (A 10 0) n) 14 (A 10 0) th) 1 (A 10 0) th) 10 0 (A 10 0 + 1)
def goerS (A : Mem) (t m : Int) : Mem := mset (mset (mset (mset (mset A 15 (A 10 1) m) 16 (A 10 1) t) 2 (A 10 1) t) 3 (A 10 1) 0) 10 1 (A 10 1 + 1)
def canLayS (A : Mem) (r : Int) : Bool := decide ((0 ≤ r ∧ r < A 10 0) ∧ A 1 r < A 14 r ∧ A 13 r ≤ A 0 0)
def layS (A : Mem) (r : Int) : Mem := mset (mset A 1 r (A 14 r)) 0 0 (A 0 0 - A 13 r)
def coilS (A : Mem) (m : Int) : Mem := mset A 0 0 (A 0 0 + m)
def acrS (A : Mem) (r t : Int) : Int := if A 11 r = t then A 12 r else A 11 r
def canGo (A : Mem) (tx : Nat → Txt) (g r : Int) : Bool := decide ((A 11 r = A 2 g ∨ A 12 r = A 2 g) ∧ skS A tx (A 10 4) g r ≤ A 1 r)
def canGoV (A : Mem) (tx : Nat → Txt) (g r : Int) : Bool := decide ((0 ≤ g ∧ g < A 10 1) ∧ (0 ≤ r ∧ r < A 10 0)) && canGo A tx g r
/-- GONE -/
def goneS (A : Mem) (tx : Nat → Txt) (g r : Int) : Mem := walkS A g r (acrS A r (A 2 g)) (skS A tx (A 10 4) g r)
theorem InvA.road {A : Mem} {a b n th : Int} (h : InvA A) (h16 : A 10 0 < 16) (hab : 0 ≤ a ∧ a ≤ 7 ∧ 0 ≤ b ∧ b ≤ 7 ∧ a ≠ b) (hn : 1 ≤ n ∧ n ≤ 9) (ht : 1 ≤ th ∧ th ≤ 99) : InvA (roadS A a b n th) := by
  obtain ⟨i0, i1, i2, i3, i4, i5⟩ := h
  unfold roadS InvA
  refine ⟨?_, fun r h1 h2 => ?_, fun g h1 h2 => ?_, ?_, fun i h1 h2 => ?_, fun i h1 h2 => ?_⟩
  · simp (disch := omega) only [mset_off, mset_hit, mset_miss, mcpy_off, mcpy_hit, mcpy_miss, mrow_off, mrow_same]; omega
  · simp (disch := omega) only [mset_hit] at h2
    by_cases e : r = A 10 0
    · subst e; simp (disch := omega) only [mset_off, mset_hit, mset_miss, mcpy_off, mcpy_hit, mcpy_miss, mrow_off, mrow_same]; omega
    · simp (disch := omega) only [mset_off, mset_hit, mset_miss, mcpy_off, mcpy_hit, mcpy_miss, mrow_off, mrow_same]; exact i1 r h1 (by omega)
  · simp (disch := omega) only [mset_off, mset_miss] at h2
    simp (disch := omega) only [mset_off, mset_hit, mset_miss, mcpy_off, mcpy_hit, mcpy_miss, mrow_off, mrow_same]; exact i2 g h1 h2
  · simp (disch := omega) only [mset_off, mset_hit, mset_miss, mcpy_off, mcpy_hit, mcpy_miss, mrow_off, mrow_same]; exact i3
  · simp (disch := omega) only [mset_off] at h2
    simp (disch := omega) only [mset_off, mset_hit, mset_miss, mcpy_off, mcpy_hit, mcpy_miss, mrow_off, mrow_same]; exact i4 i h1 h2
  · simp (disch := omega) only [mset_off, mset_miss] at h2
    have := i5 i h1 h2
    simp (disch := omega) only [mset_off, mset_hit, mset_miss, mcpy_off, mcpy_hit, mcpy_miss, mrow_off, mrow_same]; omega
theorem InvA.goer {A : Mem} {t m : Int} (h : InvA A) (h6 : A 10 1 < 6) (ht : 0 ≤ t ∧ t ≤ 7) (hm : 1 ≤ m ∧ m ≤ 9) : InvA (goerS A t m) := by
  obtain ⟨i0, i1, i2, i3, i4, i5⟩ := h
  unfold goerS InvA
  refine ⟨?_, fun r h1 h2 => ?_, fun g h1 h2 => ?_, ?_, fun i h1 h2 => ?_, fun i h1 h2 => ?_⟩
  · simp (disch := omega) only [mset_off, mset_hit, mset_miss, mcpy_off, mcpy_hit, mcpy_miss, mrow_off, mrow_same]; omega
  · simp (disch := omega) only [mset_off, mset_miss] at h2
    simp (disch := omega) only [mset_off, mset_hit, mset_miss, mcpy_off, mcpy_hit, mcpy_miss, mrow_off, mrow_same]; exact i1 r h1 h2
  · simp (disch := omega) only [mset_hit] at h2
    by_cases e : g = A 10 1
    · subst e; simp (disch := omega) only [mset_off, mset_hit, mset_miss, mcpy_off, mcpy_hit, mcpy_miss, mrow_off, mrow_same]; omega
    · simp (disch := omega) only [mset_off, mset_hit, mset_miss, mcpy_off, mcpy_hit, mcpy_miss, mrow_off, mrow_same]; exact i2 g h1 (by omega)
  · simp (disch := omega) only [mset_off, mset_hit, mset_miss, mcpy_off, mcpy_hit, mcpy_miss, mrow_off, mrow_same]; exact i3
  · simp (disch := omega) only [mset_off] at h2
    simp (disch := omega) only [mset_off, mset_hit, mset_miss, mcpy_off, mcpy_hit, mcpy_miss, mrow_off, mrow_same]; exact i4 i h1 h2
  · simp (disch := omega) only [mset_off, mset_miss] at h2
    have := i5 i h1 h2
    simp (disch := omega) only [mset_off, mset_hit, mset_miss, mcpy_off, mcpy_hit, mcpy_miss, mrow_off, mrow_same]; omega
/-- a scalar of the core changes -/
theorem InvA.core {A : Mem} {k v : Int} (h : InvA A) (hk : k ≠ 4) (hv : (k = 0 → 0 ≤ v ∧ v ≤ 999) ∧ (k = 1 → 0 ≤ v ∧ v ≤ 1) ∧ (k = 2 → 0 ≤ v ∧ v ≤ 9999) ∧ (k = 3 → 0 ≤ v ∧ v ≤ 30726)) : InvA (mset A 0 k v) := by
  obtain ⟨i0, i1, i2, i3, i4, i5⟩ := h
  refine ⟨by simp (disch := omega) only [mset_off, mset_hit, mset_miss, mcpy_off, mcpy_hit, mcpy_miss, mrow_off, mrow_same]; exact i0, fun r h1 h2 => ?_, fun g h1 h2 => ?_, ?_, fun i h1 h2 => ?_, fun i h1 h2 => ?_⟩
  · simp (disch := omega) only [mset_off] at h2 ⊢; exact i1 r h1 h2
  · simp (disch := omega) only [mset_off] at h2 ⊢; exact i2 g h1 h2
  · unfold mset; simp only [true_and]; grind
  · simp (disch := omega) only [mset_miss] at h2
    simp (disch := omega) only [mset_off]; exact i4 i h1 h2
  · simp (disch := omega) only [mset_off] at h2 ⊢; exact i5 i h1 h2
theorem InvA.thick {A : Mem} {r v : Int} (h : InvA A) (hv : 0 ≤ r → r < A 10 0 → 0 ≤ v ∧ v ≤ A 14 r) : InvA (mset A 1 r v) := by
  obtain ⟨i0, i1, i2, i3, i4, i5⟩ := h
  refine ⟨by simp (disch := omega) only [mset_off, mset_hit, mset_miss, mcpy_off, mcpy_hit, mcpy_miss, mrow_off, mrow_same]; exact i0, fun q h1 h2 => ?_, fun g h1 h2 => ?_, ?_, fun i h1 h2 => ?_, fun i h1 h2 => ?_⟩
  · simp (disch := omega) only [mset_off] at h2 ⊢
    have := i1 q h1 h2
    by_cases e : q = r
    · subst e
      have := hv h1 h2
      simp (disch := omega) only [mset_hit]; omega
    · simp (disch := omega) only [mset_miss]; exact this
  · simp (disch := omega) only [mset_off] at h2 ⊢; exact i2 g h1 h2
  · simp (disch := omega) only [mset_off]; exact i3
  · simp (disch := omega) only [mset_off] at h2 ⊢; exact i4 i h1 h2
  · simp (disch := omega) only [mset_off] at h2 ⊢; exact i5 i h1 h2
theorem InvA.lay {A : Mem} {r : Int} (h : InvA A) (hc : canLayS A r = true) : InvA (layS A r) := by
  unfold canLayS at hc
  have hc := of_decide_eq_true hc
  have h1 := h.2.1 r hc.1.1 hc.1.2
  have h2 := h.2.2.2.1
  unfold layS
  exact (h.thick (fun _ _ => by omega)).core (by omega) ⟨fun _ => by omega, fun h => by omega, fun h => by omega, fun h => by omega⟩
theorem InvA.walk {A : Mem} {g r t much : Int} (h : InvA A) (hg : 0 ≤ g ∧ g < A 10 1) (hr : 0 ≤ r ∧ r < A 10 0) (ht : 0 ≤ t ∧ t ≤ 7) (hm : 0 ≤ much ∧ much ≤ A 1 r) : InvA (walkS A g r t much) := by
  have hc := h.cnt
  unfold Cnt at hc
  obtain ⟨i0, i1, i2, i3, i4, i5⟩ := h
  have k1 := i1 r hr.1 hr.2
  have k2 := i2 g hg.1 hg.2
  have o10 : bkS A g r much 10 = A 10 := bkS_off (by omega)
  unfold walkS
  refine ⟨?_, fun q h1 h2 => ?_, fun q h1 h2 => ?_, ?_, fun i h1 h2 => ?_, fun i h1 h2 => ?_⟩
  · simp (disch := omega) only [mset_off]; rw [o10]; exact i0
  · simp (disch := omega) only [mset_off] at h2 ⊢
    rw [o10] at h2
    rw [bkS_off (by omega), bkS_off (by omega), bkS_off (by omega), bkS_off (by omega)]
    have := i1 q h1 h2
    by_cases e : q = r
    · subst e; simp (disch := omega) only [mset_hit]; omega
    · simp (disch := omega) only [mset_miss, bkS_off]; exact this
  · simp (disch := omega) only [mset_off] at h2 ⊢
    rw [o10] at h2
    rw [bkS_off (by omega), bkS_off (by omega)]
    have := i2 q h1 h2
    by_cases e : q = g
    · subst e; simp (disch := omega) only [mset_off, mset_hit]; omega
    · simp (disch := omega) only [mset_off, mset_miss, bkS_off]; exact this
  · simp (disch := omega) only [mset_off]
    rw [bkS_0 (by omega), bkS_0 (by omega), bkS_0 (by omega), bkS_0 (by omega), bkS_n (by omega)]
    split <;> omega
  · simp (disch := omega) only [mset_off] at h2 ⊢
    rw [bkS_n (by omega)] at h2
    unfold bkS
    split
    · rename_i hlt
      rw [if_pos hlt] at h2
      by_cases e : i = A 0 4
      · simp (disch := omega) only [mset_off, mset_hit]; omega
      · simp (disch := omega) only [mset_off, mset_miss]; exact i4 i h1 (by omega)
    · rename_i hlt
      rw [if_neg hlt] at h2
      simp (disch := omega) only [mrow_off, mrow_same]
      by_cases e : i = 29
      · simp only [if_pos e]; omega
      · simp only [if_neg e]; exact i4 (i + 1) (by omega) (by omega)
  · simp (disch := omega) only [mset_off] at h2 ⊢
    rw [o10] at h2 ⊢
    rw [bkS_off (by omega), bkS_off (by omega), bkS_off (by omega)]
    exact i5 i h1 h2
theorem acrS_r {A : Mem} {r t : Int} (h : InvA A) (hr : 0 ≤ r ∧ r < A 10 0) : 0 ≤ acrS A r t ∧ acrS A r t ≤ 7 := by
  have := h.2.1 r hr.1 hr.2
  unfold acrS
  split <;> omega
theorem InvA.gone {A : Mem} {tx : Nat → Txt} {g r : Int} (h : InvA A) (hg : 0 ≤ g ∧ g < A 10 1) (hr : 0 ≤ r ∧ r < A 10 0) (hc : canGo A tx g r = true) : InvA (goneS A tx g r) := by
  have hc := (of_decide_eq_true hc).2
  exact h.walk hg hr (acrS_r h hr) ⟨(skS_r h hg).1, hc⟩

theorem toldC_same {σ : Mem} {p : Nat} {A A' : Mem} (h : toldC σ p A) (he : ∀ q, 8 ≤ q → A' q = A q) : toldC σ p A' := by
  unfold toldC at *
  rw [he 10 (by omega), he 11 (by omega), he 12 (by omega), he 13 (by omega), he 14 (by omega), he 15 (by omega), he 17 (by omega), he 18 (by omega), he 19 (by omega)]
  exact h
theorem walkS_told {A : Mem} {g r t much : Int} {q : Nat} (h : 8 ≤ q) : walkS A g r t much q = A q := by
  unfold walkS; rw [mset_ne (by omega), mset_ne (by omega), mset_ne (by omega), bkS_off (by omega)]
