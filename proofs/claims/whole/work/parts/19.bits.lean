/-! BITS: the machine's bit operations over numbers that aren't negative. -/
theorem ofInt_nat (n : Nat) : Int32.ofInt (n : Int) = Int32.ofNat n := rfl
theorem toInt_bv (b : BitVec 32) (h : b.toNat < 2 ^ 31) : (Int32.ofBitVec b).toInt = (b.toNat : Int) := by
  show b.toInt = _
  rw [BitVec.toInt_eq_toNat_of_lt (by omega)]
theorem bv_nat (n : Nat) : (Int32.ofInt (n : Int)).toBitVec = BitVec.ofNat 32 n := by
  show BitVec.ofInt 32 (n : Int) = _
  rw [BitVec.ofInt_natCast]
theorem bAnd_nat {n m : Nat} (h1 : n < 2 ^ 31) (h2 : m < 2 ^ 31) : bAnd (n : Int) (m : Int) = ((n &&& m : Nat) : Int) := by
  have e : Int32.ofInt (n : Int) &&& Int32.ofInt (m : Int) = Int32.ofBitVec (BitVec.ofNat 32 n &&& BitVec.ofNat 32 m) := by
    rw [← bv_nat n, ← bv_nat m]; rfl
  have ht : (BitVec.ofNat 32 n &&& BitVec.ofNat 32 m).toNat = n &&& m := by
    rw [BitVec.toNat_and, BitVec.toNat_ofNat, BitVec.toNat_ofNat, Nat.mod_eq_of_lt (by omega), Nat.mod_eq_of_lt (by omega)]
  unfold bAnd
  rw [e, toInt_bv _ (by rw [ht]; exact Nat.lt_of_le_of_lt Nat.and_le_left h1), ht]
theorem bOr_nat {n m : Nat} (h1 : n < 2 ^ 31) (h2 : m < 2 ^ 31) : bOr (n : Int) (m : Int) = ((n ||| m : Nat) : Int) := by
  have e : Int32.ofInt (n : Int) ||| Int32.ofInt (m : Int) = Int32.ofBitVec (BitVec.ofNat 32 n ||| BitVec.ofNat 32 m) := by
    rw [← bv_nat n, ← bv_nat m]; rfl
  have ht : (BitVec.ofNat 32 n ||| BitVec.ofNat 32 m).toNat = n ||| m := by
    rw [BitVec.toNat_or, BitVec.toNat_ofNat, BitVec.toNat_ofNat, Nat.mod_eq_of_lt (by omega), Nat.mod_eq_of_lt (by omega)]
  unfold bOr
  rw [e, toInt_bv _ (by rw [ht]; exact Nat.or_lt_two_pow h1 h2), ht]
theorem bXor_nat {n m : Nat} (h1 : n < 2 ^ 31) (h2 : m < 2 ^ 31) : bXor (n : Int) (m : Int) = ((n ^^^ m : Nat) : Int) := by
  have e : Int32.ofInt (n : Int) ^^^ Int32.ofInt (m : Int) = Int32.ofBitVec (BitVec.ofNat 32 n ^^^ BitVec.ofNat 32 m) := by
    rw [← bv_nat n, ← bv_nat m]; rfl
  have ht : (BitVec.ofNat 32 n ^^^ BitVec.ofNat 32 m).toNat = n ^^^ m := by
    rw [BitVec.toNat_xor, BitVec.toNat_ofNat, BitVec.toNat_ofNat, Nat.mod_eq_of_lt (by omega), Nat.mod_eq_of_lt (by omega)]
  unfold bXor
  rw [e, toInt_bv _ (by rw [ht]; exact Nat.xor_lt_two_pow h1 h2), ht]
theorem sh_amt {k : Nat} (hk : k < 32) : (Int32.ofInt (k : Int) &&& 31) = Int32.ofNat k := by
  have : ∀ k : Nat, k < 32 → (Int32.ofInt (k : Int) &&& 31) = Int32.ofNat k := by decide +kernel
  exact this k hk
theorem sh_bv {k : Nat} (hk : k < 32) : ((Int32.ofNat k).toBitVec.smod 32).toNat = k := by
  have : ∀ k : Nat, k < 32 → ((Int32.ofNat k).toBitVec.smod 32).toNat = k := by decide +kernel
  exact this k hk
theorem bShl_nat {n k : Nat} (hk : k < 31) (h : n * 2 ^ k < 2 ^ 31) : bShl (n : Int) (k : Int) = ((n * 2 ^ k : Nat) : Int) := by
  have e : Int32.ofInt (n : Int) <<< Int32.ofNat k = Int32.ofBitVec (BitVec.ofNat 32 n <<< k) := by
    rw [← bv_nat n]
    show Int32.ofBitVec ((Int32.ofInt (n : Int)).toBitVec <<< ((Int32.ofNat k).toBitVec.smod 32)) = _
    rw [BitVec.shiftLeft_eq', sh_bv (by omega)]
  have ht : (BitVec.ofNat 32 n <<< k).toNat = n * 2 ^ k := by
    rw [BitVec.toNat_shiftLeft, BitVec.toNat_ofNat, Nat.shiftLeft_eq]
    have hn : n < 2 ^ 31 := Nat.lt_of_le_of_lt (Nat.le_mul_of_pos_right n (Nat.two_pow_pos k)) h
    rw [Nat.mod_eq_of_lt (show n < 2 ^ 32 by omega), Nat.mod_eq_of_lt (by omega)]
  unfold bShl
  rw [sh_amt (by omega), e, toInt_bv _ (by rw [ht]; exact h), ht]
theorem bShr_nat {n k : Nat} (hk : k < 32) (h : n < 2 ^ 31) : bShr (n : Int) (k : Int) = ((n / 2 ^ k : Nat) : Int) := by
  have e : Int32.ofInt (n : Int) >>> Int32.ofNat k = Int32.ofBitVec ((BitVec.ofNat 32 n).sshiftRight k) := by
    rw [← bv_nat n]
    show Int32.ofBitVec ((Int32.ofInt (n : Int)).toBitVec.sshiftRight' ((Int32.ofNat k).toBitVec.smod 32)) = _
    rw [BitVec.sshiftRight_eq', sh_bv hk]
  have hm : (BitVec.ofNat 32 n).msb = false := by
    rw [BitVec.msb_eq_false_iff_two_mul_lt, BitVec.toNat_ofNat]
    omega
  have ht : ((BitVec.ofNat 32 n).sshiftRight k).toNat = n / 2 ^ k := by
    rw [BitVec.sshiftRight_eq_of_msb_false hm, BitVec.toNat_ushiftRight, BitVec.toNat_ofNat, Nat.shiftRight_eq_div_pow, Nat.mod_eq_of_lt (by omega)]
  unfold bShr
  rw [sh_amt hk, e, toInt_bv _ (by rw [ht]; exact Nat.lt_of_le_of_lt (Nat.div_le_self _ _) h), ht]
/-- the same over Int -/
theorem bShl_i {x : Int} (k : Nat) (hk : k < 31) (h0 : 0 ≤ x) (h : x * 2 ^ k < 2 ^ 31) : bShl x (k : Int) = x * 2 ^ k := by
  obtain ⟨n, rfl⟩ : ∃ n : Nat, x = n := ⟨x.toNat, by omega⟩
  have h' : n * 2 ^ k < 2 ^ 31 := by exact_mod_cast h
  rw [bShl_nat hk h']
  push_cast
  rfl
theorem bShr_i {x : Int} (k : Nat) (hk : k < 32) (h0 : 0 ≤ x) (h : x < 2 ^ 31) : bShr x (k : Int) = x / 2 ^ k := by
  obtain ⟨n, rfl⟩ : ∃ n : Nat, x = n := ⟨x.toNat, by omega⟩
  rw [bShr_nat hk (by exact_mod_cast h)]
  push_cast
  rfl
theorem bOr_add {a b : Int} (k : Nat) (ha : 0 ≤ a) (hb : 0 ≤ b) (hb2 : b < 2 ^ k) (h : a * 2 ^ k < 2 ^ 31) (hk : k < 31) : bOr (a * 2 ^ k) b = a * 2 ^ k + b := by
  obtain ⟨n, rfl⟩ : ∃ n : Nat, a = n := ⟨a.toNat, by omega⟩
  obtain ⟨m, rfl⟩ : ∃ m : Nat, b = m := ⟨b.toNat, by omega⟩
  have h1 : n * 2 ^ k < 2 ^ 31 := by exact_mod_cast h
  have h2 : m < 2 ^ k := by exact_mod_cast hb2
  have h3 : (2 : Nat) ^ k ≤ 2 ^ 31 := Nat.pow_le_pow_right (by omega) (by omega)
  have e : ((n : Int) * 2 ^ k) = ((n * 2 ^ k : Nat) : Int) := by push_cast; rfl
  rw [e, bOr_nat h1 (by omega)]
  have := Nat.shiftLeft_add_eq_or_of_lt h2 n
  rw [Nat.shiftLeft_eq] at this
  rw [← this]
  push_cast
  rfl
/-- of a number, its lowest bits -/
theorem bAnd_mod {x : Int} (k : Nat) (h0 : 0 ≤ x) (h : x < 2 ^ 31) (hk : k < 31) : bAnd x (2 ^ k - 1) = x % 2 ^ k := by
  obtain ⟨n, rfl⟩ : ∃ n : Nat, x = n := ⟨x.toNat, by omega⟩
  have h1 : n < 2 ^ 31 := by exact_mod_cast h
  have h3 : (2 : Nat) ^ k ≤ 2 ^ 31 := Nat.pow_le_pow_right (by omega) (by omega)
  have h4 : 0 < (2 : Nat) ^ k := Nat.two_pow_pos k
  have e : ((2 : Int) ^ k - 1) = ((2 ^ k - 1 : Nat) : Int) := by
    rw [Int.natCast_sub (by omega)]
    push_cast
    rfl
  rw [e, bAnd_nat h1 (by omega), Nat.and_two_pow_sub_one_eq_mod]
  push_cast
  rfl
