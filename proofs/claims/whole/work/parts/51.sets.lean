/-! SETS as bits. -/
def tbt (s t : Int) : Bool := s.toNat.testBit t.toNat
theorem lt16 {n : Nat} (h : n < 65536) : n < 2 ^ 31 := by omega
theorem tb_or {s u t : Int} (hs : 0 ≤ s ∧ s < 65536) (hu : 0 ≤ u ∧ u < 65536) : (0 ≤ bOr s u ∧ bOr s u < 65536) ∧ tbt (bOr s u) t = (tbt s t || tbt u t) := by
  obtain ⟨n, rfl⟩ : ∃ n : Nat, s = n := ⟨s.toNat, by omega⟩
  obtain ⟨m, rfl⟩ : ∃ m : Nat, u = m := ⟨u.toNat, by omega⟩
  have h1 : n < 2 ^ 16 := by omega
  have h2 : m < 2 ^ 16 := by omega
  have h3 := Nat.or_lt_two_pow h1 h2
  rw [bOr_nat (by omega) (by omega)]
  refine ⟨by omega, ?_⟩
  unfold tbt
  rw [Int.toNat_natCast, Int.toNat_natCast, Int.toNat_natCast, Nat.testBit_or]
theorem tb_and {s u t : Int} (hs : 0 ≤ s ∧ s < 65536) (hu : 0 ≤ u ∧ u < 65536) : (0 ≤ bAnd s u ∧ bAnd s u ≤ s) ∧ tbt (bAnd s u) t = (tbt s t && tbt u t) := by
  obtain ⟨n, rfl⟩ : ∃ n : Nat, s = n := ⟨s.toNat, by omega⟩
  obtain ⟨m, rfl⟩ : ∃ m : Nat, u = m := ⟨u.toNat, by omega⟩
  rw [bAnd_nat (by omega) (by omega)]
  have := @Nat.and_le_left n m
  refine ⟨by omega, ?_⟩
  unfold tbt
  rw [Int.toNat_natCast, Int.toNat_natCast, Int.toNat_natCast, Nat.testBit_and]
theorem tb_xor {s u t : Int} (hs : 0 ≤ s ∧ s < 65536) (hu : 0 ≤ u ∧ u < 65536) : (0 ≤ bXor s u ∧ bXor s u < 65536) ∧ tbt (bXor s u) t = (tbt s t ^^ tbt u t) := by
  obtain ⟨n, rfl⟩ : ∃ n : Nat, s = n := ⟨s.toNat, by omega⟩
  obtain ⟨m, rfl⟩ : ∃ m : Nat, u = m := ⟨u.toNat, by omega⟩
  have h1 : n < 2 ^ 16 := by omega
  have h2 : m < 2 ^ 16 := by omega
  have h3 := Nat.xor_lt_two_pow h1 h2
  rw [bXor_nat (by omega) (by omega)]
  refine ⟨by omega, ?_⟩
  unfold tbt
  rw [Int.toNat_natCast, Int.toNat_natCast, Int.toNat_natCast, Nat.testBit_xor]
theorem tb_shl {k t : Int} (hk : 0 ≤ k ∧ k < 16) (ht : 0 ≤ t) : (0 ≤ bShl 1 k ∧ bShl 1 k < 65536) ∧ tbt (bShl 1 k) t = decide (t = k) := by
  obtain ⟨n, rfl⟩ : ∃ n : Nat, k = n := ⟨k.toNat, by omega⟩
  rw [bShl1 (by omega) (by omega), Int.toNat_natCast]
  have e : ((2 : Int) ^ n) = ((2 ^ n : Nat) : Int) := by push_cast; rfl
  have hl : (2 : Nat) ^ n < 2 ^ 16 := Nat.pow_lt_pow_right (by omega) (by omega)
  rw [e]
  refine ⟨?_, ?_⟩
  · generalize (2 : Nat) ^ n = p at hl; omega
  unfold tbt
  rw [Int.toNat_natCast, Nat.testBit_two_pow]
  by_cases h : n = t.toNat
  · rw [decide_eq_true h, decide_eq_true (by omega)]
  · rw [decide_eq_false h, decide_eq_false (by omega)]
theorem bAndN {n m : Nat} (hn : n < 65536) (hm : m < 2 ^ 31) : ∃ q : Nat, bAnd (n : Int) (bXor (m : Int) (-1)) = (q : Int) ∧ q ≤ n ∧ ∀ i, q.testBit i = (n.testBit i && !m.testBit i) := by
  have e1 : Int32.ofInt (bXor (m : Int) (-1)) = Int32.ofInt (m : Int) ^^^ Int32.ofInt (-1) := by unfold bXor; rw [ofI_toI]
  have e2 : Int32.ofInt (n : Int) &&& (Int32.ofInt (m : Int) ^^^ Int32.ofInt (-1)) = Int32.ofBitVec (BitVec.ofNat 32 n &&& ~~~ (BitVec.ofNat 32 m)) := by
    rw [← bv_nat n, ← bv_nat m]
    have : (Int32.ofInt (-1)).toBitVec = BitVec.allOnes 32 := by decide
    show Int32.ofBitVec ((Int32.ofInt (n : Int)).toBitVec &&& ((Int32.ofInt (m : Int)).toBitVec ^^^ (Int32.ofInt (-1)).toBitVec)) = _
    rw [this, BitVec.xor_allOnes]
  have hle : (BitVec.ofNat 32 n &&& ~~~ (BitVec.ofNat 32 m)).toNat ≤ n := by
    rw [BitVec.toNat_and, BitVec.toNat_ofNat, Nat.mod_eq_of_lt (by omega)]; exact Nat.and_le_left
  refine ⟨(BitVec.ofNat 32 n &&& ~~~ (BitVec.ofNat 32 m)).toNat, ?_, hle, fun i => ?_⟩
  · show (Int32.ofInt (n : Int) &&& Int32.ofInt (bXor (m : Int) (-1))).toInt = _
    rw [e1, e2, toInt_bv _ (by omega)]
  · rw [BitVec.testBit_toNat, BitVec.getLsbD_and, BitVec.getLsbD_not, BitVec.getLsbD_ofNat, BitVec.getLsbD_ofNat]
    by_cases hi : i < 32
    · simp [hi]
    · have : n.testBit i = false := Nat.testBit_lt_two_pow (Nat.lt_of_lt_of_le hn (Nat.le_trans (by omega) (Nat.pow_le_pow_right (by omega : 0 < 2) (by omega : 16 ≤ i))))
      simp [this]
theorem tb_not {s u t : Int} (hs : 0 ≤ s ∧ s < 65536) (hu : 0 ≤ u ∧ u < 65536) : (0 ≤ bAnd s (bXor u (-1)) ∧ bAnd s (bXor u (-1)) ≤ s) ∧ tbt (bAnd s (bXor u (-1))) t = (tbt s t && !tbt u t) := by
  obtain ⟨n, rfl⟩ : ∃ n : Nat, s = n := ⟨s.toNat, by omega⟩
  obtain ⟨m, rfl⟩ : ∃ m : Nat, u = m := ⟨u.toNat, by omega⟩
  obtain ⟨q, h1, h2, h3⟩ := bAndN (n := n) (m := m) (by omega) (by omega)
  rw [h1]
  refine ⟨by omega, ?_⟩
  unfold tbt
  rw [Int.toNat_natCast, Int.toNat_natCast, Int.toNat_natCast, h3]
theorem tb_ext {s u : Int} (hs : 0 ≤ s) (hu : 0 ≤ u) (h : ∀ t : Int, 0 ≤ t → tbt s t = tbt u t) : s = u := by
  have : s.toNat = u.toNat := Nat.eq_of_testBit_eq (fun i => by have := h (i : Int) (by omega); unfold tbt at this; rw [Int.toNat_natCast] at this; exact this)
  omega
theorem tb_hi {s t : Int} {n : Nat} (hs : s < 2 ^ n) (h0 : 0 ≤ s) (ht : (n : Int) ≤ t) : tbt s t = false := by
  unfold tbt
  have e : ((2 : Int) ^ n) = ((2 ^ n : Nat) : Int) := by push_cast; rfl
  exact Nat.testBit_lt_two_pow (Nat.lt_of_lt_of_le (show s.toNat < 2 ^ n by omega) (Nat.pow_le_pow_right (by omega) (by omega)))
theorem tb_bitsN {f : Nat → Bool} {n : Nat} {t : Int} (ht : 0 ≤ t) : tbt (bitsN f n) t = (decide (t < n) && f t.toNat) := by
  unfold tbt
  rw [bitsN_bit]
  congr 1
  by_cases h : t < n
  · rw [decide_eq_true h, decide_eq_true (by omega)]
  · rw [decide_eq_false h, decide_eq_false (by omega)]
/-- a set below n is known by its members -/
theorem set_eq {s : Int} {f : Nat → Bool} {n : Nat} (h0 : 0 ≤ s) (hs : s < 2 ^ n) (h : ∀ t : Int, 0 ≤ t → t < n → tbt s t = f t.toNat) : s = bitsN f n := by
  refine tb_ext h0 (bitsN_r f n).1 (fun t ht => ?_)
  rw [tb_bitsN ht]
  by_cases hlt : t < n
  · rw [decide_eq_true hlt, h t ht hlt]; simp
  · rw [decide_eq_false hlt, tb_hi hs h0 (by omega)]; simp
/-! COMING TO TOWNS -/
noncomputable def rchB (A : Mem) (ok : Int → Bool) (a b : Int) : Bool := @decide (rch A ok a b) (Classical.propDecidable _)
theorem rchB_t {A : Mem} {ok : Int → Bool} {a b : Int} : rchB A ok a b = true ↔ rch A ok a b := by
  unfold rchB; exact @decide_eq_true_iff _ (Classical.propDecidable _)
def cmR (A : Mem) (ok : Int → Bool) (f : Int → Bool) : Nat → (Int → Bool)
  | 0 => f
  | n + 1 => if (ok (n : Int) && (cmR A ok f n (A 11 (n : Int)) || cmR A ok f n (A 12 (n : Int)))) = true then (fun t => cmR A ok f n t || (decide (t = A 11 (n : Int)) || decide (t = A 12 (n : Int)))) else cmR A ok f n
def cmS (A : Mem) (ok : Int → Bool) (a : Int) : Nat → (Int → Bool)
  | 0 => fun t => decide (t = a)
  | k + 1 => cmR A ok (cmS A ok a k) (A 10 0).toNat
theorem cmR_ok {A : Mem} {ok : Int → Bool} {a : Int} (hI : InvA A) : ∀ n : Nat, (n : Int) ≤ A 10 0 → ∀ f : Int → Bool, (∀ t : Int, f t = true → cmR A ok f n t = true) ∧ (∀ r x y : Int, 0 ≤ r → r < n → ok r = true → jnR A r x y → f x = true → cmR A ok f n y = true) ∧ ((∀ t : Int, f t = true → rch A ok a t) → ∀ t : Int, cmR A ok f n t = true → rch A ok a t)
  | 0, _, f => ⟨fun _ h => h, fun r x y h1 h2 => by omega, fun h => h⟩
  | n + 1, hn, f => by
    obtain ⟨i1, i2, i3⟩ := cmR_ok (ok := ok) (a := a) hI n (by omega) f
    by_cases hc : (ok (n : Int) && (cmR A ok f n (A 11 (n : Int)) || cmR A ok f n (A 12 (n : Int)))) = true
    · have e : cmR A ok f (n + 1) = (fun t => cmR A ok f n t || (decide (t = A 11 (n : Int)) || decide (t = A 12 (n : Int)))) := by show (if _ then _ else _) = _; rw [if_pos hc]
      rw [e]
      rw [Bool.and_eq_true, Bool.or_eq_true] at hc
      refine ⟨fun t h => ?_, fun r x y h1 h2 h3 h4 h5 => ?_, fun h t ht => ?_⟩
      · show (_ || _) = true; rw [i1 t h]; rfl
      · show (_ || _) = true
        by_cases e2 : r = n
        · subst e2
          rcases h4 with ⟨q1, q2⟩ | ⟨q1, q2⟩
          · rw [decide_eq_true q2.symm]; simp
          · rw [decide_eq_true q1.symm]; simp
        · rw [i2 r x y h1 (by omega) h3 h4 h5]; rfl
      · have ht : (cmR A ok f n t || (decide (t = A 11 (n : Int)) || decide (t = A 12 (n : Int)))) = true := ht
        rw [Bool.or_eq_true, Bool.or_eq_true] at ht
        have hr : (0 : Int) ≤ (n : Int) ∧ (n : Int) < A 10 0 := by omega
        have both : rch A ok a (A 11 (n : Int)) ∧ rch A ok a (A 12 (n : Int)) := by
          rcases hc.2 with q | q
          · have := i3 h _ q; exact ⟨this, this.tr (rch.edge hr hc.1 (Or.inl ⟨rfl, rfl⟩))⟩
          · have := i3 h _ q; exact ⟨this.tr (rch.edge hr hc.1 (Or.inr ⟨rfl, rfl⟩)), this⟩
        rcases ht with q | q | q
        · exact i3 h t q
        · rw [of_decide_eq_true q]; exact both.1
        · rw [of_decide_eq_true q]; exact both.2
    · have e : cmR A ok f (n + 1) = cmR A ok f n := by show (if _ then _ else _) = _; rw [if_neg hc]
      rw [e]
      refine ⟨i1, fun r x y h1 h2 h3 h4 h5 => ?_, i3⟩
      by_cases e2 : r = n
      · subst e2
        exfalso
        apply hc
        rw [h3]
        rcases h4 with ⟨q1, q2⟩ | ⟨q1, q2⟩
        · rw [q1, i1 x h5]; rfl
        · rw [q2, i1 x h5]; simp
      · exact i2 r x y h1 (by omega) h3 h4 h5
theorem cmS_ok {A : Mem} {ok : Int → Bool} {a : Int} (hI : InvA A) : ∀ k : Nat, (∀ t : Int, cmS A ok a k t = true → rch A ok a t) ∧ ∀ (j : Nat) (t l : Int), j ≤ k → wlk A ok j a t l → cmS A ok a k t = true
  | 0 => ⟨fun t h => by rw [of_decide_eq_true h]; exact rch.rf a, fun j t l hj h => by
      have : j = 0 := by omega
      subst this
      exact decide_eq_true h.1.symm⟩
  | k + 1 => by
    obtain ⟨i1, i2⟩ := cmS_ok (ok := ok) (a := a) hI k
    have hc := hI.1
    obtain ⟨q1, q2, q3⟩ := cmR_ok (ok := ok) (a := a) hI (A 10 0).toNat (by omega) (cmS A ok a k)
    refine ⟨q3 i1, fun j t l hj h => ?_⟩
    by_cases e : j ≤ k
    · exact q1 t (i2 j t l e h)
    · cases j with
      | zero => omega
      | succ j =>
        obtain ⟨r, c, h1, h2, h3, h4⟩ := h
        exact q2 r c t h1.1 (by omega) h2 h3 (i2 j c _ (by omega) h4)
theorem cmS_8 {A : Mem} {ok : Int → Bool} {a t : Int} (hI : InvA A) (ha : 0 ≤ a ∧ a ≤ 7) : cmS A ok a 8 t = rchB A ok a t := by
  obtain ⟨h1, h2⟩ := cmS_ok (ok := ok) (a := a) hI 8
  cases hb : rchB A ok a t with
  | true =>
    obtain ⟨k, l, hk⟩ := rchB_t.mp hb
    obtain ⟨j, l', q1, q2, q3⟩ := wlk_short hI ha k k l (Nat.le_refl _) hk
    exact h2 j t l' (by omega) q3
  | false =>
    cases hc : cmS A ok a 8 t with
    | false => rfl
    | true => have := rchB_t.mpr (h1 t hc); rw [hb] at this; cases this
noncomputable def comeS (A : Mem) (ok : Int → Bool) (a : Int) : Int := bitsN (fun t => rchB A ok a (t : Int)) 8
