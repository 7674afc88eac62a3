theorem clr_bitK : ∀ (k n : Nat), n ≠ 0 → n < 2 ^ k → ∀ i, (n.testBit i && !decide (lowN k n = i)) = (n.testBit i && (n - 1).testBit i)
  | 0, n, h0, h, i => by simp at h; omega
  | k + 1, n, h0, h, i => by
    rw [Nat.pow_succ] at h
    unfold lowN
    by_cases hm : n % 2 = 1
    · rw [if_pos hm]
      have e : (n - 1) / 2 = n / 2 := by omega
      cases i with
      | zero =>
        rw [Nat.testBit_zero, Nat.testBit_zero, decide_eq_true hm, decide_eq_false (show ¬ (n - 1) % 2 = 1 by omega)]; rfl
      | succ i =>
        rw [Nat.testBit_succ, Nat.testBit_succ, e]
        cases (n / 2).testBit i <;> simp
    · rw [if_neg hm]
      have e : (n - 1) / 2 = n / 2 - 1 := by omega
      cases i with
      | zero =>
        rw [Nat.testBit_zero, decide_eq_false hm]; rfl
      | succ i =>
        have ih := clr_bitK k (n / 2) (by omega) (by omega) i
        rw [Nat.testBit_succ, Nat.testBit_succ, e, ← ih]
        congr 2
        by_cases q : lowN k (n / 2) = i
        · rw [decide_eq_true q, decide_eq_true (by omega)]
        · rw [decide_eq_false q, decide_eq_false (by omega)]
theorem clr_bit {n : Nat} (h : n < 65536) (h0 : n ≠ 0) (i : Nat) : (n.testBit i && !decide (lowN 16 n = i)) = (n.testBit i && (n - 1).testBit i) := clr_bitK 16 n h0 h i
theorem low_dif {s : Nat} (hs : s < 65536) (h0 : s ≠ 0) : ∃ p : Nat, subB p s = true ∧ p ≠ 0 ∧ (∀ j, p.testBit j = true → j = lowN 16 s) ∧ p.testBit (lowN 16 s) = true ∧ dif s p = s &&& (s - 1) := by
  have l1 := lowN_bit 16 s h0 hs
  have hle : s &&& (s - 1) ≤ s := Nat.and_le_left
  refine ⟨2 ^ (lowN 16 s), ?_, ?_, ?_, ?_, ?_⟩
  · refine sub_of (fun i hi => ?_)
    rw [Nat.testBit_two_pow] at hi
    rw [← of_decide_eq_true hi]; exact l1.1
  · have := Nat.two_pow_pos (lowN 16 s); omega
  · intro j hj
    rw [Nat.testBit_two_pow] at hj
    exact (of_decide_eq_true hj).symm
  · rw [Nat.testBit_two_pow]; exact decide_eq_true rfl
  · refine Nat.eq_of_testBit_eq (fun i => ?_)
    rw [dif_bit, Nat.testBit_two_pow, Nat.testBit_and]
    exact clr_bit hs h0 i
theorem F_le {A : Mem} {F : Nat → Int} (hI : InvA A) (hF : isC A F 256) : ∀ (n s : Nat), s < n → s < 256 → F s ≤ ((pcN 16 s : Nat) : Int) ∧ F s ≤ 8
  | 0, s, h, _ => by omega
  | n + 1, s, h, h2 => by
    have hp8 : pcN 16 s ≤ 8 := by
      have : ∀ s : Nat, s < 256 → pcN 16 s ≤ 8 := by decide +kernel
      exact this s h2
    by_cases h0 : s = 0
    · subst h0
      have := hF 0 (by omega)
      rw [if_pos rfl] at this
      rw [this]; omega
    · obtain ⟨p, q1, q2, q3, q4, q5⟩ := low_dif (s := s) (by omega) h0
      have e := hF s h2
      rw [if_neg h0] at e
      have hps := sub_le q1
      have hle := mcD_le (A := A) (F := F) q1 q4 (one_ind hI q3) s (Nat.le_refl _) (by omega)
      have hlt := dif_lt (by omega) q1 q2
      have ih := F_le hI hF n (dif s p) (by omega) (by omega)
      have hpc := clr_pc (n := s) (by omega) h0
      rw [q5] at ih hle
      omega
theorem FG {A : Mem} {F G : Nat → Int} (hI : InvA A) (hF : isC A F 256) (hG : isM A G 256) : ∀ (n s : Nat), s < n → s < 256 → F s = G s
  | 0, s, h, _ => by omega
  | n + 1, s, h, h2 => by
    have ih := FG hI hF hG n
    by_cases h0 : s = 0
    · subst h0
      have e1 := hF 0 (by omega)
      have e2 := hG 0 (by omega)
      rw [if_pos rfl] at e1 e2
      rw [e1, e2]
    · have e1 := hF s h2
      have e2 := hG s h2
      rw [if_neg h0] at e1 e2
      have hF8 := (F_le hI hF 256 s h2 h2).2
      have key : F s ≤ G s := by
        rcases mnD_is (A := A) (F := G) (s := s) s (Nat.le_refl _) with h8 | ⟨p, p1, p2, p3, p4⟩
        · rw [e2, h8]; exact hF8
        · have hp0 : p ≠ 0 := by omega
          have hlt := dif_lt (s := s) (p := p) (by omega) p2 hp0
          have ihp := ih (dif s p) (by omega) (by omega)
          cases hb : p.testBit (lowN 16 s) with
          | true =>
            have := mcD_le (A := A) (F := F) p2 hb p3 s (Nat.le_refl _) (by omega)
            omega
          | false =>
            have l1 := lowN_bit 16 s h0 (by omega)
            have hsb : (dif s p).testBit (lowN 16 s) = true := by rw [dif_bit, l1.1, hb]; rfl
            have hd0 : dif s p ≠ 0 := fun h => by rw [h] at hsb; simp at hsb
            have elow := low_sub (by omega) h0 (dif_sub s p) hsb
            have e3 := hF (dif s p) (by omega)
            rw [if_neg hd0] at e3
            have hd8 := (F_le hI hF 256 (dif s p) (by omega) (by omega)).2
            rcases mcD_is (A := A) (F := F) (s := dif s p) (dif s p) (Nat.le_refl _) with h6 | ⟨q, q1, q2, q3, q4, q5⟩
            · omega
            · rw [elow] at q3
              have hq0 : q ≠ 0 := by omega
              have hqs : subB q s = true := sub_of (fun i hi => sub_bit (dif_sub s p) i (sub_bit q2 i hi))
              have hqle := sub_le hqs
              have c1 := mcD_le (A := A) (F := F) hqs q3 q4 s (Nat.le_refl _) (by omega)
              have hlt2 := dif_lt (s := s) (p := q) (by omega) hqs hq0
              have ihq := ih (dif s q) (by omega) (by omega)
              have hps : subB p (dif s q) = true := sub_of (fun i hi => by
                rw [dif_bit, sub_bit p2 i hi]
                cases hqi : q.testBit i with
                | false => rfl
                | true =>
                  have := sub_bit q2 i hqi
                  rw [dif_bit, hi] at this; simp at this)
              have hple := sub_le hps
              have e4 := hG (dif s q) (by omega)
              rw [if_neg (show dif s q ≠ 0 by omega)] at e4
              have c2 := mnD_le (A := A) (F := G) hps p3 (dif s q) (Nat.le_refl _) (by omega)
              have edd : dif (dif s q) p = dif (dif s p) q := Nat.eq_of_testBit_eq (fun i => by
                rw [dif_bit, dif_bit, dif_bit, dif_bit]
                cases s.testBit i <;> cases p.testBit i <;> cases q.testBit i <;> rfl)
              rw [edd] at c2
              have hlt3 := dif_lt (s := dif s p) (p := q) (by omega) q2 hq0
              have ihd := ih (dif (dif s p) q) (by omega) (by omega)
              omega
      have key2 : G s ≤ F s := by
        rcases mcD_is (A := A) (F := F) (s := s) s (Nat.le_refl _) with h6 | ⟨p, p1, p2, p3, p4, p5⟩
        · omega
        · have hp0 : p ≠ 0 := by omega
          have hlt := dif_lt (s := s) (p := p) (by omega) p2 hp0
          have ihp := ih (dif s p) (by omega) (by omega)
          have := mnD_le (A := A) (F := G) p2 p4 s (Nat.le_refl _) (by omega)
          omega
      omega
/-- the table as the class lays it -/
def colC (A : Mem) : Nat → (Nat → Int)
  | 0 => fun _ => 0
  | n + 1 => fun s => if s = n then (if n = 0 then 0 else mcD A (colC A n) n n) else colC A n s
def colF (A : Mem) (s : Nat) : Int := colC A (s + 1) s
theorem colC_at {A : Mem} {s : Nat} : ∀ n, s < n → colC A n s = colF A s
  | 0, h => by omega
  | n + 1, h => by
    by_cases e : s = n
    · subst e; rfl
    · show (if s = n then _ else colC A n s) = _
      rw [if_neg e]; exact colC_at n (by omega)
theorem mcD_congr {A : Mem} {F G : Nat → Int} {s : Nat} (hs : s < 65536) (h : ∀ x, x < s → F x = G x) : ∀ k, k ≤ s → mcD A F s k = mcD A G s k
  | 0, _ => rfl
  | k + 1, hk => by
    unfold mcD
    rw [mcD_congr hs h k (by omega)]
    by_cases hc : subB (s - k) s = true ∧ (s - k).testBit (lowN 16 s) = true ∧ indS A (s - k) = true
    · rw [if_pos hc, if_pos hc, h _ (dif_lt hs hc.1 (by omega))]
    · rw [if_neg hc, if_neg hc]
theorem mnD_congr {A : Mem} {F G : Nat → Int} {s : Nat} (hs : s < 65536) (h : ∀ x, x < s → F x = G x) : ∀ k, k ≤ s → mnD A F s k = mnD A G s k
  | 0, _ => rfl
  | k + 1, hk => by
    unfold mnD
    rw [mnD_congr hs h k (by omega)]
    by_cases hc : subB (s - k) s = true ∧ indS A (s - k) = true
    · rw [if_pos hc, if_pos hc, h _ (dif_lt hs hc.1 (by omega))]
    · rw [if_neg hc, if_neg hc]
theorem colF_ok (A : Mem) : isC A (colF A) 256 := fun s hs => by
  show (if s = s then (if s = 0 then 0 else mcD A (colC A s) s s) else colC A s s) = _
  rw [if_pos rfl]
  by_cases h0 : s = 0
  · rw [if_pos h0, if_pos h0]
  · rw [if_neg h0, if_neg h0]
    exact mcD_congr (by omega) (fun x hx => colC_at s hx) s (Nat.le_refl _)
theorem isC_uniq {A : Mem} {F : Nat → Int} (h : isC A F 256) : ∀ (n s : Nat), s < n → s < 256 → F s = colF A s
  | 0, s, h1, _ => by omega
  | n + 1, s, h1, h2 => by
    rw [h s h2, colF_ok A s h2]
    by_cases h0 : s = 0
    · rw [if_pos h0, if_pos h0]
    · rw [if_neg h0, if_neg h0]
      exact mcD_congr (by omega) (fun x hx => isC_uniq h n x (by omega) (by omega)) s (Nat.le_refl _)
def colS (A : Mem) : Int := colF A 255
theorem mcD_skip {A : Mem} {F : Nat → Int} {s p : Nat} (hs : s < 65536) (hp : subB p s = true) (h0 : p ≠ 0) : ∀ j, s - p + 1 ≤ j → j ≤ s - ((p - 1) &&& s) → mcD A F s j = mcD A F s (s - p + 1)
  | 0, h, _ => by omega
  | j + 1, h1, h2 => by
    have hps := sub_le hp
    by_cases e : j + 1 = s - p + 1
    · rw [e]
    · have ih := mcD_skip (A := A) (F := F) hs hp h0 j (by omega) (by omega)
      unfold mcD
      rw [if_neg (fun q => ?_)]
      · exact ih
      · have := sub_next 16 s p (s - j) (by omega) hp q.1 (by omega)
        omega
theorem mnD_skip {A : Mem} {F : Nat → Int} {s p : Nat} (hs : s < 65536) (hp : subB p s = true) (h0 : p ≠ 0) : ∀ j, s - p + 1 ≤ j → j ≤ s - ((p - 1) &&& s) → mnD A F s j = mnD A F s (s - p + 1)
  | 0, h, _ => by omega
  | j + 1, h1, h2 => by
    have hps := sub_le hp
    by_cases e : j + 1 = s - p + 1
    · rw [e]
    · have ih := mnD_skip (A := A) (F := F) hs hp h0 j (by omega) (by omega)
      unfold mnD
      rw [if_neg (fun q => ?_)]
      · exact ih
      · have := sub_next 16 s p (s - j) (by omega) hp q.1 (by omega)
        omega
