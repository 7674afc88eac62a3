/-! COLOURS: sets of towns as numbers below 256 -/
def subB (p s : Nat) : Bool := decide (p &&& s = p)
def dif (s p : Nat) : Nat := s ^^^ (s &&& p)
theorem dif_bit (s p i : Nat) : (dif s p).testBit i = (s.testBit i && !p.testBit i) := by
  unfold dif
  rw [Nat.testBit_xor, Nat.testBit_and]
  cases s.testBit i <;> cases p.testBit i <;> rfl
theorem sub_bit {p s : Nat} (h : subB p s = true) (i : Nat) (hi : p.testBit i = true) : s.testBit i = true := by
  have h := of_decide_eq_true h
  have := congrArg (fun x => x.testBit i) h
  simp only [Nat.testBit_and] at this
  rw [hi] at this; simpa using this
theorem sub_of {p s : Nat} (h : ∀ i, p.testBit i = true → s.testBit i = true) : subB p s = true := by
  refine decide_eq_true (Nat.eq_of_testBit_eq (fun i => ?_))
  rw [Nat.testBit_and]
  cases hp : p.testBit i with
  | false => rfl
  | true => rw [h i hp]; rfl
theorem sub_le {p s : Nat} (h : subB p s = true) : p ≤ s := by
  have h := of_decide_eq_true h
  rw [← h]; exact Nat.and_le_right
theorem dif_sub (s p : Nat) : subB (dif s p) s = true := sub_of (fun i hi => by rw [dif_bit, Bool.and_eq_true] at hi; exact hi.1)
theorem ex_bit {p : Nat} (h : p < 65536) (h0 : p ≠ 0) : ∃ i, i < 16 ∧ p.testBit i = true := ⟨lowN 16 p, (lowN_bit 16 p h0 h).2.1, (lowN_bit 16 p h0 h).1⟩
theorem dif_lt {s p : Nat} (hs : s < 65536) (hp : subB p s = true) (h0 : p ≠ 0) : dif s p < s := by
  have h1 := sub_le (dif_sub s p)
  have h2 := sub_le hp
  obtain ⟨i, -, hi⟩ := ex_bit (p := p) (by omega) h0
  by_cases e : dif s p = s
  · have := dif_bit s p i
    rw [e, hi, sub_bit hp i hi] at this; simp at this
  · omega
theorem dif_xor {s p : Nat} (h : subB p s = true) : s ^^^ p = dif s p := Nat.eq_of_testBit_eq (fun i => by
  rw [dif_bit, Nat.testBit_xor]
  cases hp : p.testBit i with
  | false => cases s.testBit i <;> rfl
  | true => rw [sub_bit h i hp]; rfl)
/-- between a part and the next part below there is none -/
theorem sub_next : ∀ (n s p q : Nat), p < 2 ^ n → subB p s = true → subB q s = true → q < p → q ≤ (p - 1) &&& s
  | 0, s, p, q, hp, _, _, hq => by have : p = 0 := by simpa using hp
                                   omega
  | n + 1, s, p, q, hp, h1, h2, hq => by
    have hhalf : ∀ x y : Nat, subB x y = true → subB (x / 2) (y / 2) = true := fun x y h => sub_of (fun i hi => by
      rw [Nat.testBit_div_two] at hi ⊢; exact sub_bit h (i + 1) hi)
    have hmod : ∀ x y : Nat, subB x y = true → x % 2 ≤ y % 2 := fun x y h => by
      have b := sub_bit h 0
      rw [Nat.testBit_zero, Nat.testBit_zero] at b
      by_cases hx : x % 2 = 1
      · have := of_decide_eq_true (b (decide_eq_true hx)); omega
      · omega
    have hpow : (2 : Nat) ^ (n + 1) = 2 * 2 ^ n := by rw [Nat.pow_succ]; omega
    have eand : (p - 1) &&& s = 2 * (((p - 1) / 2) &&& (s / 2)) + (((p - 1) &&& s) % 2) := by
      have := Nat.and_div_two (a := p - 1) (b := s)
      omega
    by_cases ha : p % 2 = 1
    · have e1 : (p - 1) / 2 = p / 2 := by omega
      have e2 : (p / 2) &&& (s / 2) = p / 2 := of_decide_eq_true (hhalf p s h1)
      rw [eand, e1, e2]; omega
    · have e1 : (p - 1) / 2 = p / 2 - 1 := by omega
      have hm : (p - 1) % 2 = 1 := by omega
      have hb : ((p - 1) &&& s) % 2 = s % 2 := by
        have t0 := Nat.testBit_and (p - 1) s 0
        rw [Nat.testBit_zero, Nat.testBit_zero, Nat.testBit_zero, decide_eq_true hm] at t0
        by_cases hs : s % 2 = 1
        · rw [decide_eq_true hs] at t0; have := of_decide_eq_true t0; omega
        · rw [decide_eq_false hs] at t0; have := of_decide_eq_false t0; omega
      have ih := sub_next n (s / 2) (p / 2) (q / 2) (by omega) (hhalf p s h1) (hhalf q s h2) (by omega)
      have := hmod q s h2
      rw [eand, e1, hb]; omega
theorem and_sub (x s : Nat) : subB (x &&& s) s = true := sub_of (fun i hi => by rw [Nat.testBit_and, Bool.and_eq_true] at hi; exact hi.2)
/-- no road within p -/
def inN (A : Mem) (p : Nat) : Nat → Bool
  | 0 => true
  | n + 1 => inN A p n && (!netB A (n : Int) || !(p.testBit (A 11 (n : Int)).toNat && p.testBit (A 12 (n : Int)).toNat))
def indS (A : Mem) (p : Nat) : Bool := inN A p (A 10 0).toNat
theorem inN_iff {A : Mem} {p : Nat} : ∀ n : Nat, inN A p n = true ↔ ∀ r : Nat, r < n → netB A (r : Int) = true → ¬ (p.testBit (A 11 (r : Int)).toNat = true ∧ p.testBit (A 12 (r : Int)).toNat = true)
  | 0 => by simp [inN]
  | n + 1 => by
    unfold inN
    rw [Bool.and_eq_true, inN_iff n]
    constructor
    · intro ⟨h1, h2⟩ r hr hn
      by_cases e : r = n
      · subst e
        rw [hn] at h2
        intro ⟨q1, q2⟩
        rw [q1, q2] at h2; simp at h2
      · exact h1 r (by omega) hn
    · intro h
      refine ⟨fun r hr => h r (by omega), ?_⟩
      have := h n (by omega)
      cases hn : netB A (n : Int) with
      | false => rfl
      | true =>
        have := this hn
        cases h1 : p.testBit (A 11 (n : Int)).toNat with
        | false => rfl
        | true =>
          cases h2 : p.testBit (A 12 (n : Int)).toNat with
          | false => rfl
          | true => exact absurd ⟨h1, h2⟩ this
theorem ind_sub {A : Mem} {p q : Nat} (h : indS A p = true) (hq : subB q p = true) : indS A q = true := by
  unfold indS at *
  rw [inN_iff] at *
  intro r hr hn ⟨q1, q2⟩
  exact h r hr hn ⟨sub_bit hq _ q1, sub_bit hq _ q2⟩
def mcD (A : Mem) (F : Nat → Int) (s : Nat) : Nat → Int
  | 0 => 1000000
  | k + 1 => if subB (s - k) s = true ∧ (s - k).testBit (lowN 16 s) = true ∧ indS A (s - k) = true then min (mcD A F s k) (1 + F (dif s (s - k))) else mcD A F s k
def mnD (A : Mem) (F : Nat → Int) (s : Nat) : Nat → Int
  | 0 => 8
  | k + 1 => if subB (s - k) s = true ∧ indS A (s - k) = true then min (mnD A F s k) (F (dif s (s - k)) + 1) else mnD A F s k
def isC (A : Mem) (F : Nat → Int) (n : Nat) : Prop := ∀ s, s < n → F s = if s = 0 then 0 else mcD A F s s
def isM (A : Mem) (F : Nat → Int) (n : Nat) : Prop := ∀ s, s < n → F s = if s = 0 then 0 else mnD A F s s
theorem mcD_le {A : Mem} {F : Nat → Int} {s p : Nat} (h1 : subB p s = true) (h2 : p.testBit (lowN 16 s) = true) (h3 : indS A p = true) : ∀ k, k ≤ s → s - p < k → mcD A F s k ≤ 1 + F (dif s p)
  | 0, _, h => by omega
  | k + 1, hk, h => by
    have hps := sub_le h1
    by_cases e : s - p = k
    · have ep : s - k = p := by omega
      unfold mcD
      rw [ep, if_pos ⟨h1, h2, h3⟩]; omega
    · have ih := mcD_le (F := F) h1 h2 h3 k (by omega) (by omega)
      unfold mcD
      split <;> omega
theorem mcD_is {A : Mem} {F : Nat → Int} {s : Nat} : ∀ k, k ≤ s → mcD A F s k = 1000000 ∨ ∃ p, (s - k < p ∧ p ≤ s) ∧ subB p s = true ∧ p.testBit (lowN 16 s) = true ∧ indS A p = true ∧ mcD A F s k = 1 + F (dif s p)
  | 0, _ => Or.inl rfl
  | k + 1, hk => by
    have ih := mcD_is (A := A) (F := F) (s := s) k (by omega)
    unfold mcD
    split
    · rename_i hc
      rcases (show min (mcD A F s k) (1 + F (dif s (s - k))) = mcD A F s k ∨ min (mcD A F s k) (1 + F (dif s (s - k))) = 1 + F (dif s (s - k)) by omega) with e | e
      · rw [e]
        rcases ih with h | ⟨p, h1, h2⟩
        · exact Or.inl h
        · exact Or.inr ⟨p, by omega, h2⟩
      · rw [e]; exact Or.inr ⟨s - k, by omega, hc.1, hc.2.1, hc.2.2, rfl⟩
    · rcases ih with h | ⟨p, h1, h2⟩
      · exact Or.inl h
      · exact Or.inr ⟨p, by omega, h2⟩
theorem mnD_le {A : Mem} {F : Nat → Int} {s p : Nat} (h1 : subB p s = true) (h3 : indS A p = true) : ∀ k, k ≤ s → s - p < k → mnD A F s k ≤ F (dif s p) + 1
  | 0, _, h => by omega
  | k + 1, hk, h => by
    have hps := sub_le h1
    by_cases e : s - p = k
    · have ep : s - k = p := by omega
      unfold mnD
      rw [ep, if_pos ⟨h1, h3⟩]; omega
    · have ih := mnD_le (F := F) h1 h3 k (by omega) (by omega)
      unfold mnD
      split <;> omega
theorem mnD_8 {A : Mem} {F : Nat → Int} {s : Nat} : ∀ k, mnD A F s k ≤ 8
  | 0 => Int.le_refl _
  | k + 1 => by have := mnD_8 (A := A) (F := F) (s := s) k; unfold mnD; split <;> omega
theorem mnD_is {A : Mem} {F : Nat → Int} {s : Nat} : ∀ k, k ≤ s → mnD A F s k = 8 ∨ ∃ p, (s - k < p ∧ p ≤ s) ∧ subB p s = true ∧ indS A p = true ∧ mnD A F s k = F (dif s p) + 1
  | 0, _ => Or.inl rfl
  | k + 1, hk => by
    have ih := mnD_is (A := A) (F := F) (s := s) k (by omega)
    unfold mnD
    split
    · rename_i hc
      rcases (show min (mnD A F s k) (F (dif s (s - k)) + 1) = mnD A F s k ∨ min (mnD A F s k) (F (dif s (s - k)) + 1) = F (dif s (s - k)) + 1 by omega) with e | e
      · rw [e]
        rcases ih with h | ⟨p, h1, h2⟩
        · exact Or.inl h
        · exact Or.inr ⟨p, by omega, h2⟩
      · rw [e]; exact Or.inr ⟨s - k, by omega, hc.1, hc.2, rfl⟩
    · rcases ih with h | ⟨p, h1, h2⟩
      · exact Or.inl h
      · exact Or.inr ⟨p, by omega, h2⟩
/-- lowest towns -/
theorem low_sub {s x : Nat} (hs : s < 65536) (h0 : s ≠ 0) (hx : subB x s = true) (hb : x.testBit (lowN 16 s) = true) : lowN 16 x = lowN 16 s := by
  have hxs := sub_le hx
  have hx0 : x ≠ 0 := fun h => by rw [h] at hb; simp at hb
  have l1 := lowN_bit 16 s h0 hs
  have l2 := lowN_bit 16 x hx0 (by omega)
  rcases Nat.lt_trichotomy (lowN 16 x) (lowN 16 s) with h | h | h
  · have := l1.2.2 _ h
    rw [sub_bit hx _ l2.1] at this; cases this
  · exact h
  · have := l2.2.2 _ h
    rw [hb] at this; cases this
theorem one_ind {A : Mem} (hI : InvA A) {p i : Nat} (h : ∀ j, p.testBit j = true → j = i) : indS A p = true := by
  unfold indS
  rw [inN_iff]
  intro r hr hn ⟨q1, q2⟩
  have hl := (hI.2.1 (r : Int) (by omega) (by omega)).1
  have a1 := h _ q1
  have a2 := h _ q2
  omega
