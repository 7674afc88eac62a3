/-! BITS of sets of up to sixteen: how many, the lowest, the lowest taken away. -/
def pcN : Nat → Nat → Nat
  | 0, _ => 0
  | k + 1, n => n % 2 + pcN k (n / 2)
def lowN : Nat → Nat → Nat
  | 0, _ => 0
  | k + 1, n => if n % 2 = 1 then 0 else 1 + lowN k (n / 2)
theorem and_split {k h l mh ml : Nat} (hl : l < 2 ^ k) (hm : ml < 2 ^ k) : (2 ^ k * h + l) &&& (2 ^ k * mh + ml) = 2 ^ k * (h &&& mh) + (l &&& ml) := by
  apply Nat.eq_of_testBit_eq
  intro i
  have hlm : l &&& ml < 2 ^ k := Nat.lt_of_le_of_lt Nat.and_le_left hl
  rw [Nat.testBit_and, Nat.testBit_two_pow_mul_add _ hl, Nat.testBit_two_pow_mul_add _ hm, Nat.testBit_two_pow_mul_add _ hlm]
  split <;> rw [Nat.testBit_and]
def q1 (x : Nat) : Nat := x - ((x / 2) &&& 85)
def q2 (x : Nat) : Nat := (x &&& 51) + ((x / 4) &&& 51)
set_option maxRecDepth 100000 in
theorem q_all : ∀ x, x < 256 → (x / 2) &&& 5592405 = (x / 2) &&& 85 ∧ x &&& 3355443 = x &&& 51 ∧ (x / 4) &&& 3355443 = (x / 4) &&& 51 ∧ q1 x < 256 ∧ (x / 2) &&& 85 ≤ x ∧ q2 (q1 x) % 16 + q2 (q1 x) / 16 = pcN 8 x ∧ q2 (q1 x) % 16 ≤ 4 ∧ q2 (q1 x) / 16 ≤ 4 ∧ q2 (q1 x) < 69 := by decide +kernel
set_option maxRecDepth 100000 in
theorem q_lo1 : ∀ r, r < 2 → ∀ x, x < 128 → (128 * r + x) &&& 85 = x &&& 85 := by decide +kernel
set_option maxRecDepth 100000 in
theorem q_lo2 : ∀ r, r < 4 → ∀ x, x < 64 → (64 * r + x) &&& 51 = x &&& 51 := by decide +kernel
def bcF (b : Nat) : Nat :=
  let c := (b + b / 16) &&& 252645135
  let d := c + c / 256
  (d + d / 65536) &&& 63
set_option maxRecDepth 100000 in
theorem bcF_all : ∀ a, a < 5 → ∀ b, b < 5 → ∀ c, c < 5 → ∀ d, d < 5 → bcF (256 * (16 * a + b) + (16 * c + d)) = a + b + c + d := by decide +kernel
def bcN (n : Nat) : Nat :=
  let a := n - ((n / 2) &&& 1431655765)
  let b := (a &&& 858993459) + ((a / 4) &&& 858993459)
  bcF b
theorem pcN_16 (a b : Nat) (hb : b < 256) : pcN 16 (256 * a + b) = pcN 8 a + pcN 8 b := by
  simp only [pcN]
  omega
theorem bcN_eq {n : Nat} (h : n < 65536) : bcN n = pcN 16 n := by
  obtain ⟨a, b, ha, hb, rfl⟩ : ∃ a b, a < 256 ∧ b < 256 ∧ n = 256 * a + b := ⟨n / 256, n % 256, by omega, by omega, by omega⟩
  obtain ⟨a1, a2, a3, a4, a5, a6, a7, a8, a9⟩ := q_all a ha
  obtain ⟨b1, b2, b3, b4, b5, b6, b7, b8, b9⟩ := q_all b hb
  have e1 : ((256 * a + b) / 2) &&& 1431655765 = 256 * ((a / 2) &&& 85) + ((b / 2) &&& 85) := by
    rw [show (256 * a + b) / 2 = 2 ^ 8 * (a / 2) + (128 * (a % 2) + b / 2) by omega, show 1431655765 = 2 ^ 8 * 5592405 + 85 by omega, and_split (by omega) (by omega), q_lo1 _ (by omega) _ (by omega), a1]
  have e2 : (256 * a + b) - (((256 * a + b) / 2) &&& 1431655765) = 256 * q1 a + q1 b := by
    rw [e1]; unfold q1; omega
  have e3 : (256 * q1 a + q1 b) &&& 858993459 = 256 * (q1 a &&& 51) + (q1 b &&& 51) := by
    rw [show 256 * q1 a + q1 b = 2 ^ 8 * q1 a + q1 b by omega, show 858993459 = 2 ^ 8 * 3355443 + 51 by omega, and_split (by omega) (by omega), (q_all (q1 a) a4).2.1]
  have e4 : ((256 * q1 a + q1 b) / 4) &&& 858993459 = 256 * ((q1 a / 4) &&& 51) + ((q1 b / 4) &&& 51) := by
    rw [show (256 * q1 a + q1 b) / 4 = 2 ^ 8 * (q1 a / 4) + (64 * (q1 a % 4) + q1 b / 4) by omega, show 858993459 = 2 ^ 8 * 3355443 + 51 by omega, and_split (by omega) (by omega), q_lo2 _ (by omega) _ (by omega), (q_all (q1 a) a4).2.2.1]
  unfold bcN
  simp only []
  rw [e2, e3, e4]
  have e5 : 256 * (q1 a &&& 51) + (q1 b &&& 51) + (256 * ((q1 a / 4) &&& 51) + ((q1 b / 4) &&& 51)) = 256 * (16 * (q2 (q1 a) / 16) + q2 (q1 a) % 16) + (16 * (q2 (q1 b) / 16) + q2 (q1 b) % 16) := by
    rw [Nat.div_add_mod, Nat.div_add_mod]; unfold q2; omega
  rw [e5, bcF_all _ (by omega) _ (by omega) _ (by omega) _ (by omega), pcN_16 a b hb]
  omega
theorem clr_pcK : ∀ (k n : Nat), n ≠ 0 → n < 2 ^ k → pcN k (n &&& (n - 1)) + 1 = pcN k n
  | 0, n, h0, h => by simp at h; omega
  | k + 1, n, h0, h => by
    rw [Nat.pow_succ] at h
    by_cases ho : n % 2 = 1
    · have e : n &&& (n - 1) = 2 * (n / 2) := by
        have := and_split (k := 1) (h := n / 2) (l := 1) (mh := n / 2) (ml := 0) (by omega) (by omega)
        rw [show 2 ^ 1 * (n / 2) + 1 = n by omega, show 2 ^ 1 * (n / 2) + 0 = n - 1 by omega, Nat.and_self] at this
        rw [this]; simp
      rw [e]
      simp only [pcN]
      rw [show 2 * (n / 2) / 2 = n / 2 by omega]
      omega
    · have e : n &&& (n - 1) = 2 * ((n / 2) &&& (n / 2 - 1)) := by
        have := and_split (k := 1) (h := n / 2) (l := 0) (mh := n / 2 - 1) (ml := 1) (by omega) (by omega)
        rw [show 2 ^ 1 * (n / 2) + 0 = n by omega, show 2 ^ 1 * (n / 2 - 1) + 1 = n - 1 by omega] at this
        rw [this]; simp
      have ih := clr_pcK k (n / 2) (by omega) (by omega)
      rw [e]
      simp only [pcN]
      rw [show 2 * ((n / 2) &&& (n / 2 - 1)) / 2 = (n / 2) &&& (n / 2 - 1) by omega]
      omega
theorem clr_pc {n : Nat} (h : n < 65536) (h0 : n ≠ 0) : pcN 16 (n &&& (n - 1)) + 1 = pcN 16 n := clr_pcK 16 n h0 h
theorem pcN_0 : ∀ k : Nat, pcN k 0 = 0
  | 0 => rfl
  | k + 1 => by unfold pcN; simp [pcN_0 k]
theorem pcN_le : ∀ k n : Nat, pcN k n ≤ k
  | 0, _ => by simp [pcN]
  | k + 1, n => by unfold pcN; have := pcN_le k (n / 2); omega
theorem lowN_bit : ∀ (k n : Nat), n ≠ 0 → n < 2 ^ k → n.testBit (lowN k n) = true ∧ lowN k n < k ∧ ∀ j, j < lowN k n → n.testBit j = false
  | 0, n, h0, h => by simp at h; omega
  | k + 1, n, h0, h => by
    unfold lowN
    by_cases hn : n % 2 = 1
    · rw [if_pos hn]; refine ⟨?_, by omega, fun j hj => by omega⟩
      rw [Nat.testBit_zero]; simp [hn]
    · rw [if_neg hn]
      have ih := lowN_bit k (n / 2) (by omega) (by rw [Nat.pow_succ] at h; omega)
      refine ⟨?_, by omega, fun j hj => ?_⟩
      · rw [Nat.add_comm, Nat.testBit_succ]; exact ih.1
      · cases j with
        | zero => rw [Nat.testBit_zero]; simp; omega
        | succ j => rw [Nat.testBit_succ]; exact ih.2.2 j (by omega)
theorem bUshr_nat {n k : Nat} (hk : k < 32) (h : n < 2 ^ 31) : bUshr (n : Int) (k : Int) = ((n / 2 ^ k : Nat) : Int) := by
  have e1 : (Int32.ofInt (n : Int)).toUInt32 = UInt32.ofNat n := rfl
  have e2 : (Int32.ofInt (k : Int)).toUInt32 = UInt32.ofNat k := rfl
  have e3 : (UInt32.ofNat k &&& 31) = UInt32.ofNat k := by
    have : ∀ k : Nat, k < 32 → (UInt32.ofNat k &&& 31) = UInt32.ofNat k := by decide +kernel
    exact this k hk
  unfold bUshr
  rw [e1, e2, e3]
  have hlt : n / 2 ^ k < 2 ^ 31 := Nat.lt_of_le_of_lt (Nat.div_le_self _ _) h
  have e4 : (UInt32.ofNat n >>> UInt32.ofNat k).toInt32 = Int32.ofInt ((n / 2 ^ k : Nat) : Int) := by
    have : UInt32.ofNat n >>> UInt32.ofNat k = UInt32.ofNat (n / 2 ^ k) := by
      rw [← UInt32.toNat_inj, UInt32.toNat_shiftRight, UInt32.toNat_ofNat', UInt32.toNat_ofNat', UInt32.toNat_ofNat', Nat.shiftRight_eq_div_pow]
      rw [Nat.mod_eq_of_lt (show n < 2 ^ 32 by omega), Nat.mod_eq_of_lt (show k < 2 ^ 32 by omega), Nat.mod_eq_of_lt hk, Nat.mod_eq_of_lt (show n / 2 ^ k < 2 ^ 32 by omega)]
    rw [this]; rfl
  generalize n / 2 ^ k = q at *
  rw [e4, r32_toInt (by unfold R32; omega)]

def wp_J6_bitCount_0f7a4 (x1 : Int) (σ : Mem) (Q : Int → Mem → Prop) : Prop :=
  R32 (x1 - (bAnd (bUshr x1 1) 1431655765)) ∧
   ∀ y2 : Int, y2 = (x1 - (bAnd (bUshr x1 1) 1431655765)) →
   R32 ((bAnd y2 858993459) + (bAnd (bUshr y2 2) 858993459)) ∧
   ∀ y4 : Int, y4 = ((bAnd y2 858993459) + (bAnd (bUshr y2 2) 858993459)) →
   ∀ y5 : Int, y5 = (bAnd (y4 + (bUshr y4 4)) 252645135) →
   R32 ((y5 + (bUshr y5 8)) + (bUshr (y5 + (bUshr y5 8)) 16)) ∧
   ∀ y7 : Int, y7 = ((y5 + (bUshr y5 8)) + (bUshr (y5 + (bUshr y5 8)) 16)) →
   Q (bAnd y7 63) σ
theorem mt_J6_bitCount_0f7a4 {d : Nat} (hd : 0 ≤ d) {x1 : Int} {σ : Mem} {Q : Int → Mem → Prop} (hx1 : R32 x1) (hO : OKm σ) (h : wp_J6_bitCount_0f7a4 x1 σ Q) : Mt yJ6_bitCount_0f7a4 cJ6_bitCount_0f7a4 1 (some .int) d [aI (x1)] σ (QI Q) := by
  refine Mt.introF (by decide +kernel) (Nat.le_of_ble_eq_true rfl) [(0, aI (x1))] rfl ?_
  unfold wp_J6_bitCount_0f7a4 at h
  refine G_iload_n 0 rfl rfl dJ6_bitCount_0f7a4_0 ?_
  refine G_iload_n 0 rfl rfl dJ6_bitCount_0f7a4_1 ?_
  refine G_iconst dJ6_bitCount_0f7a4_2 ?_
  refine G_iushr dJ6_bitCount_0f7a4_3 ?_
  refine G_ldcw (n := 1431655765) rfl (by decide) kc_J6_265 dJ6_bitCount_0f7a4_4 ?_
  refine G_iand dJ6_bitCount_0f7a4_7 ?_
  refine G_isub dJ6_bitCount_0f7a4_8 ?_
  obtain ⟨c1, h⟩ := h
  have h := h _ rfl
  refine G_istore_n (lv' := [(0, aI (((x1 - (bAnd (bUshr x1 1) 1431655765)))))]) rfl rfl (by decide) dJ6_bitCount_0f7a4_9 ?_
  refine G_iload_n 0 rfl rfl dJ6_bitCount_0f7a4_10 ?_
  refine G_ldcw (n := 858993459) rfl (by decide) kc_J6_266 dJ6_bitCount_0f7a4_11 ?_
  refine G_iand dJ6_bitCount_0f7a4_14 ?_
  refine G_iload_n 0 rfl rfl dJ6_bitCount_0f7a4_15 ?_
  refine G_iconst dJ6_bitCount_0f7a4_16 ?_
  refine G_iushr dJ6_bitCount_0f7a4_17 ?_
  refine G_ldcw (n := 858993459) rfl (by decide) kc_J6_266 dJ6_bitCount_0f7a4_18 ?_
  refine G_iand dJ6_bitCount_0f7a4_21 ?_
  refine G_iadd dJ6_bitCount_0f7a4_22 ?_
  obtain ⟨c3, h⟩ := h
  have h := h _ rfl
  refine G_istore_n (lv' := [(0, aI ((((bAnd ((x1 - (bAnd (bUshr x1 1) 1431655765))) 858993459) + (bAnd (bUshr ((x1 - (bAnd (bUshr x1 1) 1431655765))) 2) 858993459)))))]) rfl rfl (by decide) dJ6_bitCount_0f7a4_23 ?_
  refine G_iload_n 0 rfl rfl dJ6_bitCount_0f7a4_24 ?_
  refine G_iload_n 0 rfl rfl dJ6_bitCount_0f7a4_25 ?_
  refine G_iconst dJ6_bitCount_0f7a4_26 ?_
  refine G_iushr dJ6_bitCount_0f7a4_27 ?_
  refine G_iadd dJ6_bitCount_0f7a4_28 ?_
  refine G_ldcw (n := 252645135) rfl (by decide) kc_J6_267 dJ6_bitCount_0f7a4_29 ?_
  refine G_iand dJ6_bitCount_0f7a4_32 ?_
  have h := h _ rfl
  refine G_istore_n (lv' := [(0, aI (((bAnd ((((bAnd ((x1 - (bAnd (bUshr x1 1) 1431655765))) 858993459) + (bAnd (bUshr ((x1 - (bAnd (bUshr x1 1) 1431655765))) 2) 858993459))) + (bUshr (((bAnd ((x1 - (bAnd (bUshr x1 1) 1431655765))) 858993459) + (bAnd (bUshr ((x1 - (bAnd (bUshr x1 1) 1431655765))) 2) 858993459))) 4)) 252645135))))]) rfl rfl (by decide) dJ6_bitCount_0f7a4_33 ?_
  refine G_iload_n 0 rfl rfl dJ6_bitCount_0f7a4_34 ?_
  refine G_iload_n 0 rfl rfl dJ6_bitCount_0f7a4_35 ?_
  refine G_bipush (by decide) dJ6_bitCount_0f7a4_36 ?_
  refine G_iushr dJ6_bitCount_0f7a4_38 ?_
  refine G_iadd dJ6_bitCount_0f7a4_39 ?_
  refine G_istore_n (lv' := [(0, aI ((((bAnd ((((bAnd ((x1 - (bAnd (bUshr x1 1) 1431655765))) 858993459) + (bAnd (bUshr ((x1 - (bAnd (bUshr x1 1) 1431655765))) 2) 858993459))) + (bUshr (((bAnd ((x1 - (bAnd (bUshr x1 1) 1431655765))) 858993459) + (bAnd (bUshr ((x1 - (bAnd (bUshr x1 1) 1431655765))) 2) 858993459))) 4)) 252645135)) + (bUshr ((bAnd ((((bAnd ((x1 - (bAnd (bUshr x1 1) 1431655765))) 858993459) + (bAnd (bUshr ((x1 - (bAnd (bUshr x1 1) 1431655765))) 2) 858993459))) + (bUshr (((bAnd ((x1 - (bAnd (bUshr x1 1) 1431655765))) 858993459) + (bAnd (bUshr ((x1 - (bAnd (bUshr x1 1) 1431655765))) 2) 858993459))) 4)) 252645135)) 8))))]) rfl rfl (by decide) dJ6_bitCount_0f7a4_40 ?_
  refine G_iload_n 0 rfl rfl dJ6_bitCount_0f7a4_41 ?_
  refine G_iload_n 0 rfl rfl dJ6_bitCount_0f7a4_42 ?_
  refine G_bipush (by decide) dJ6_bitCount_0f7a4_43 ?_
  refine G_iushr dJ6_bitCount_0f7a4_45 ?_
  refine G_iadd dJ6_bitCount_0f7a4_46 ?_
  obtain ⟨c6, h⟩ := h
  have h := h _ rfl
  refine G_istore_n (lv' := [(0, aI ((((((bAnd ((((bAnd ((x1 - (bAnd (bUshr x1 1) 1431655765))) 858993459) + (bAnd (bUshr ((x1 - (bAnd (bUshr x1 1) 1431655765))) 2) 858993459))) + (bUshr (((bAnd ((x1 - (bAnd (bUshr x1 1) 1431655765))) 858993459) + (bAnd (bUshr ((x1 - (bAnd (bUshr x1 1) 1431655765))) 2) 858993459))) 4)) 252645135)) + (bUshr ((bAnd ((((bAnd ((x1 - (bAnd (bUshr x1 1) 1431655765))) 858993459) + (bAnd (bUshr ((x1 - (bAnd (bUshr x1 1) 1431655765))) 2) 858993459))) + (bUshr (((bAnd ((x1 - (bAnd (bUshr x1 1) 1431655765))) 858993459) + (bAnd (bUshr ((x1 - (bAnd (bUshr x1 1) 1431655765))) 2) 858993459))) 4)) 252645135)) 8)) + (bUshr (((bAnd ((((bAnd ((x1 - (bAnd (bUshr x1 1) 1431655765))) 858993459) + (bAnd (bUshr ((x1 - (bAnd (bUshr x1 1) 1431655765))) 2) 858993459))) + (bUshr (((bAnd ((x1 - (bAnd (bUshr x1 1) 1431655765))) 858993459) + (bAnd (bUshr ((x1 - (bAnd (bUshr x1 1) 1431655765))) 2) 858993459))) 4)) 252645135)) + (bUshr ((bAnd ((((bAnd ((x1 - (bAnd (bUshr x1 1) 1431655765))) 858993459) + (bAnd (bUshr ((x1 - (bAnd (bUshr x1 1) 1431655765))) 2) 858993459))) + (bUshr (((bAnd ((x1 - (bAnd (bUshr x1 1) 1431655765))) 858993459) + (bAnd (bUshr ((x1 - (bAnd (bUshr x1 1) 1431655765))) 2) 858993459))) 4)) 252645135)) 8)) 16)))))]) rfl rfl (by decide) dJ6_bitCount_0f7a4_47 ?_
  refine G_iload_n 0 rfl rfl dJ6_bitCount_0f7a4_48 ?_
  refine G_bipush (by decide) dJ6_bitCount_0f7a4_49 ?_
  refine G_iand dJ6_bitCount_0f7a4_51 ?_
  exact G_iret rfl (r32_of _) dJ6_bitCount_0f7a4_52 ⟨_, rfl, h⟩ hO

theorem sp_J6_bitCount_0f7a4 (d : Nat) (hd : 0 ≤ d) (σ : Mem) (hO : OKm σ) (x1 : Int) (hx1 : R32 x1) (hpre : 0 ≤ x1 ∧ x1 < 65536) : Mt yJ6_bitCount_0f7a4 cJ6_bitCount_0f7a4 1 (some .int) d [aI (x1)] σ (QI (fun v σ' => (((pcN 16 (x1).toNat : Nat) : Int)) = v ∧ σ = σ')) := mt_J6_bitCount_0f7a4 hd hx1 hO (by
  unfold wp_J6_bitCount_0f7a4
  obtain ⟨n, rfl⟩ : ∃ n : Nat, x1 = n := ⟨x1.toNat, by omega⟩
  have hn : n < 65536 := by omega
  have f1 : n / 2 &&& 1431655765 ≤ n / 2 := Nat.and_le_left
  have g1 : bUshr (n : Int) 1 = ((n / 2 : Nat) : Int) := bUshr_nat (k := 1) (by omega) (by omega)
  have g2 : bAnd ((n / 2 : Nat) : Int) 1431655765 = ((n / 2 &&& 1431655765 : Nat) : Int) := bAnd_nat (m := 1431655765) (by omega) (by omega)
  rw [g1, g2]
  refine ⟨by unfold R32; omega, ?_⟩
  intro y2 e2
  obtain ⟨a, ha⟩ : ∃ a : Nat, a = n - (n / 2 &&& 1431655765) := ⟨_, rfl⟩
  have e2 : y2 = (a : Int) := by omega
  subst e2
  have ha2 : a < 65536 := by omega
  have f2 : a &&& 858993459 ≤ a := Nat.and_le_left
  have f3 : a / 4 &&& 858993459 ≤ a / 4 := Nat.and_le_left
  have g3 : bUshr (a : Int) 2 = ((a / 4 : Nat) : Int) := bUshr_nat (k := 2) (by omega) (by omega)
  have g4 : bAnd (a : Int) 858993459 = ((a &&& 858993459 : Nat) : Int) := bAnd_nat (m := 858993459) (by omega) (by omega)
  have g5 : bAnd ((a / 4 : Nat) : Int) 858993459 = ((a / 4 &&& 858993459 : Nat) : Int) := bAnd_nat (m := 858993459) (by omega) (by omega)
  rw [g3, g4, g5]
  refine ⟨by unfold R32; omega, ?_⟩
  intro y4 e4
  obtain ⟨b, hb⟩ : ∃ b : Nat, b = (a &&& 858993459) + (a / 4 &&& 858993459) := ⟨_, rfl⟩
  have e4 : y4 = (b : Int) := by omega
  subst e4
  have hb2 : b < 131072 := by omega
  have g6 : bUshr (b : Int) 4 = ((b / 16 : Nat) : Int) := bUshr_nat (k := 4) (by omega) (by omega)
  have g7 : bAnd ((b : Int) + ((b / 16 : Nat) : Int)) 252645135 = (((b + b / 16) &&& 252645135 : Nat) : Int) := bAnd_nat (n := b + b / 16) (m := 252645135) (by omega) (by omega)
  rw [g6, g7]
  intro y5 e5
  obtain ⟨c, hc⟩ : ∃ c : Nat, c = (b + b / 16) &&& 252645135 := ⟨_, rfl⟩
  have f4 : c ≤ b + b / 16 := by rw [hc]; exact Nat.and_le_left
  have e5 : y5 = (c : Int) := by omega
  subst e5
  have g8 : bUshr (c : Int) 8 = ((c / 256 : Nat) : Int) := bUshr_nat (k := 8) (by omega) (by omega)
  rw [g8]
  have g9 : bUshr ((c : Int) + ((c / 256 : Nat) : Int)) 16 = (((c + c / 256) / 65536 : Nat) : Int) := bUshr_nat (n := c + c / 256) (k := 16) (by omega) (by omega)
  rw [g9]
  refine ⟨by unfold R32; omega, ?_⟩
  intro y7 e7
  obtain ⟨d2, hd2⟩ : ∃ d2 : Nat, d2 = (c + c / 256) + (c + c / 256) / 65536 := ⟨_, rfl⟩
  have e7 : y7 = (d2 : Int) := by omega
  subst e7
  have g10 : bAnd (d2 : Int) 63 = ((d2 &&& 63 : Nat) : Int) := bAnd_nat (m := 63) (by omega) (by omega)
  rw [g10]
  refine ⟨?_, rfl⟩
  have hfin : bcN n = d2 &&& 63 := by
    unfold bcN bcF
    simp only []
    rw [← ha, ← hb, ← hc, ← hd2]
  rw [Int.toNat_natCast, ← bcN_eq hn, hfin])

theorem low_split {n : Nat} (h0 : n ≠ 0) (h : n < 2 ^ 16) : ∃ m, n = 2 ^ (lowN 16 n) * (2 * m + 1) := by
  have hg : ∀ (k n : Nat), n ≠ 0 → n < 2 ^ k → ∃ m, n = 2 ^ (lowN k n) * (2 * m + 1) := by
    intro k
    induction k with
    | zero => intro n h0 h; simp at h; omega
    | succ k ih =>
      intro n h0 h
      rw [Nat.pow_succ] at h
      unfold lowN
      by_cases hn : n % 2 = 1
      · rw [if_pos hn]; exact ⟨n / 2, by simp; omega⟩
      · rw [if_neg hn]
        obtain ⟨m, hm⟩ := ih (n / 2) (by omega) (by omega)
        refine ⟨m, ?_⟩
        rw [Nat.pow_add, Nat.pow_one, Nat.mul_assoc, ← hm]; omega
  exact hg 16 n h0 h
theorem ntz_bit {n : Nat} (h0 : n ≠ 0) (h : n < 2 ^ 16) (j : Nat) : ((!n.testBit j) && (n - 1).testBit j) = (2 ^ (lowN 16 n) - 1).testBit j := by
  obtain ⟨m, hm⟩ := low_split h0 h
  generalize lowN 16 n = t at *
  have hp : 0 < 2 ^ t := Nat.two_pow_pos t
  have e1 : n.testBit j = (if j < t then false else (2 * m + 1).testBit (j - t)) := by
    have := Nat.testBit_two_pow_mul_add (2 * m + 1) hp (j := j)
    rw [Nat.add_zero, ← hm] at this
    rw [this]; simp
  have e2 : (n - 1).testBit j = (if j < t then true else (2 * m).testBit (j - t)) := by
    have e : n - 1 = 2 ^ t * (2 * m) + (2 ^ t - 1) := by rw [hm, Nat.mul_add, Nat.mul_one]; omega
    rw [e, Nat.testBit_two_pow_mul_add _ (show 2 ^ t - 1 < 2 ^ t by omega)]
    split
    · rename_i hj; rw [Nat.testBit_two_pow_sub_one]; simp [hj]
    · rfl
  rw [e1, e2, Nat.testBit_two_pow_sub_one]
  by_cases hj : j < t
  · simp [hj]
  · simp only [hj, if_false]
    cases hi : j - t with
    | zero => simp
    | succ i => rw [Nat.testBit_succ, Nat.testBit_succ, show (2 * m + 1) / 2 = m by omega, show 2 * m / 2 = m by omega]; simp
theorem ntz_x {n : Nat} (h0 : n ≠ 0) (h : n < 2 ^ 16) : bAnd (bXor (n : Int) (-1)) ((n : Int) - 1) = ((2 ^ (lowN 16 n) - 1 : Nat) : Int) := by
  have hl := lowN_bit 16 n h0 h
  have hb : 2 ^ (lowN 16 n) ≤ 2 ^ 16 := Nat.pow_le_pow_right (by omega) (by omega)
  unfold bAnd bXor
  rw [ofI_toI]
  have e : (Int32.ofInt (n : Int) ^^^ Int32.ofInt (-1)) &&& Int32.ofInt ((n : Int) - 1) = Int32.ofBitVec (BitVec.ofNat 32 (2 ^ (lowN 16 n) - 1)) := by
    rw [show ((n : Int) - 1) = ((n - 1 : Nat) : Int) by omega]
    have e1 : (Int32.ofInt (n : Int) ^^^ Int32.ofInt (-1)) &&& Int32.ofInt ((n - 1 : Nat) : Int) = Int32.ofBitVec ((BitVec.ofNat 32 n ^^^ BitVec.allOnes 32) &&& BitVec.ofNat 32 (n - 1)) := by
      rw [← bv_nat n, ← bv_nat (n - 1)]; rfl
    rw [e1]
    congr 1
    apply BitVec.eq_of_getLsbD_eq
    intro i hi
    rw [BitVec.getLsbD_and, BitVec.getLsbD_xor, BitVec.getLsbD_ofNat, BitVec.getLsbD_ofNat, BitVec.getLsbD_ofNat, BitVec.getLsbD_allOnes, ← ntz_bit h0 h i]
    simp [hi]
  rw [e, toInt_bv _ (by rw [BitVec.toNat_ofNat, Nat.mod_eq_of_lt (by omega)]; omega), BitVec.toNat_ofNat, Nat.mod_eq_of_lt (by omega)]

def wp_J6_numberOfTrailingZeros_0f7a4 (x1 : Int) (σ : Mem) (Q : Int → Mem → Prop) : Prop :=
 ∀ P34 : Int → Int → Mem → Prop,
 ∀ P49 : Int → Int → Mem → Prop,
 (∀ (v0 : Int) (v1 : Int) (σ : Mem), (R32 v0 → R32 v1 → OKm σ →
   ((v0 ≤ 256) →
     P49 v0 v1 σ) ∧
    ((256 < v0) →
     R32 (v1 + 8) ∧ P49 (bUshr v0 8) (v1 + 8) σ)) → P34 v0 v1 σ) →
 (∀ (v0 : Int) (v1 : Int) (σ : Mem), (R32 v0 → R32 v1 → OKm σ →
   ((v0 ≤ 16) →
     ((v0 ≤ 4) →
      R32 (v1 + (bUshr v0 1)) ∧
      Q (v1 + (bUshr v0 1)) σ) ∧
     ((4 < v0) →
      R32 ((v1 + 2) + (bUshr (bUshr v0 2) 1)) ∧
      Q ((v1 + 2) + (bUshr (bUshr v0 2) 1)) σ)) ∧
    ((16 < v0) →
     (((bUshr v0 4) ≤ 4) →
      R32 ((v1 + 4) + (bUshr (bUshr v0 4) 1)) ∧
      Q ((v1 + 4) + (bUshr (bUshr v0 4) 1)) σ) ∧
     ((4 < (bUshr v0 4)) →
      R32 (((v1 + 4) + 2) + (bUshr (bUshr (bUshr v0 4) 2) 1)) ∧
      Q (((v1 + 4) + 2) + (bUshr (bUshr (bUshr v0 4) 2) 1)) σ))) → P49 v0 v1 σ) →
  ∀ y1 : Int, y1 = (bAnd (bXor x1 (-1)) (x1 - 1)) →
   ((0 < y1) →
    ((y1 ≤ 65536) →
     P34 y1 1 σ) ∧
    ((65536 < y1) →
     P34 (bUshr y1 16) (1 + 16) σ)) ∧
   ((y1 ≤ 0) →
    Q (bAnd y1 32) σ)
theorem mt_J6_numberOfTrailingZeros_0f7a4 {d : Nat} (hd : 0 ≤ d) {x1 : Int} {σ : Mem} {Q : Int → Mem → Prop} (hx1 : R32 x1) (hO : OKm σ) (h : wp_J6_numberOfTrailingZeros_0f7a4 x1 σ Q) : Mt yJ6_numberOfTrailingZeros_0f7a4 cJ6_numberOfTrailingZeros_0f7a4 2 (some .int) d [aI (x1)] σ (QI Q) := by
  refine Mt.introF (by decide +kernel) (Nat.le_of_ble_eq_true rfl) [(0, aI (x1))] rfl ?_
  unfold wp_J6_numberOfTrailingZeros_0f7a4 at h
  have h := h (fun (v0 : Int) (v1 : Int) (σ : Mem) => R32 v0 → R32 v1 → OKm σ → G yJ6_numberOfTrailingZeros_0f7a4 cJ6_numberOfTrailingZeros_0f7a4 2 (some .int) d (QI Q) 34 [(0, aI (v0)), (1, aI (v1))] [] σ)
    (fun (v0 : Int) (v1 : Int) (σ : Mem) => R32 v0 → R32 v1 → OKm σ → G yJ6_numberOfTrailingZeros_0f7a4 cJ6_numberOfTrailingZeros_0f7a4 2 (some .int) d (QI Q) 49 [(0, aI (v0)), (1, aI (v1))] [] σ) ?_ ?_
  · refine G_iload_n 0 rfl rfl dJ6_numberOfTrailingZeros_0f7a4_0 ?_
    refine G_iconst dJ6_numberOfTrailingZeros_0f7a4_1 ?_
    refine G_ixor dJ6_numberOfTrailingZeros_0f7a4_2 ?_
    refine G_iload_n 0 rfl rfl dJ6_numberOfTrailingZeros_0f7a4_3 ?_
    refine G_iconst dJ6_numberOfTrailingZeros_0f7a4_4 ?_
    refine G_isub dJ6_numberOfTrailingZeros_0f7a4_5 ?_
    refine G_iand dJ6_numberOfTrailingZeros_0f7a4_6 ?_
    have h := h _ rfl
    refine G_istore_n (lv' := [(0, aI (((bAnd (bXor x1 (-1)) (x1 - 1)))))]) rfl rfl (by decide) dJ6_numberOfTrailingZeros_0f7a4_7 ?_
    refine G_iload_n 0 rfl rfl dJ6_numberOfTrailingZeros_0f7a4_8 ?_
    refine G_if_gt (r32_of _) dJ6_numberOfTrailingZeros_0f7a4_9 (tgt := 17) (by decide) (fun c2 => ?_) (fun c2 => ?_)
    · have h := h.1 c2
      refine G_iconst dJ6_numberOfTrailingZeros_0f7a4_17 ?_
      refine G_istore_n (lv' := [(1, aI (1)), (0, aI (((bAnd (bXor x1 (-1)) (x1 - 1)))))]) rfl rfl (by decide) dJ6_numberOfTrailingZeros_0f7a4_18 ?_
      refine G_iload_n 1 rfl rfl dJ6_numberOfTrailingZeros_0f7a4_19 ?_
      refine G_ldcw (n := 65536) rfl (by decide) kc_J6_264 dJ6_numberOfTrailingZeros_0f7a4_20 ?_
      refine G_icmp_le (r32_of _) (rL 65536 rfl) dJ6_numberOfTrailingZeros_0f7a4_23 (tgt := 34) (by decide) (fun c3 => ?_) (fun c3 => ?_)
      · have h := h.1 c3
        exact G_pick [1, 0] rfl (h (r32_of _) (rL 1 rfl) hO)
      · have h := h.2 c3
        refine G_iinc (lv' := [(1, aI ((1 + 16))), (0, aI (((bAnd (bXor x1 (-1)) (x1 - 1)))))]) (k := 0) rfl rfl (by decide) dJ6_numberOfTrailingZeros_0f7a4_26 ?_
        refine G_iload_n 1 rfl rfl dJ6_numberOfTrailingZeros_0f7a4_29 ?_
        refine G_bipush (by decide) dJ6_numberOfTrailingZeros_0f7a4_30 ?_
        refine G_iushr dJ6_numberOfTrailingZeros_0f7a4_32 ?_
        refine G_istore_n (lv' := [(0, aI ((bUshr ((bAnd (bXor x1 (-1)) (x1 - 1))) 16))), (1, aI ((1 + 16)))]) rfl rfl (by decide) dJ6_numberOfTrailingZeros_0f7a4_33 ?_
        exact G_pick [0, 1] rfl (h (r32_of _) (rL (1 + 16) rfl) hO)
    · have h := h.2 c2
      refine G_iload_n 0 rfl rfl dJ6_numberOfTrailingZeros_0f7a4_12 ?_
      refine G_bipush (by decide) dJ6_numberOfTrailingZeros_0f7a4_13 ?_
      refine G_iand dJ6_numberOfTrailingZeros_0f7a4_15 ?_
      exact G_iret rfl (r32_of _) dJ6_numberOfTrailingZeros_0f7a4_16 ⟨_, rfl, h⟩ hO
  · intro v0 v1 σ h hv0 hv1 hO
    have h := h hv0 hv1 hO
    refine G_iload_n 0 rfl rfl dJ6_numberOfTrailingZeros_0f7a4_34 ?_
    refine G_sipush (by decide) dJ6_numberOfTrailingZeros_0f7a4_35 ?_
    refine G_icmp_le hv0 (rL 256 rfl) dJ6_numberOfTrailingZeros_0f7a4_38 (tgt := 49) (by decide) (fun c4 => ?_) (fun c4 => ?_)
    · have h := h.1 c4
      exact G_pick [0, 1] rfl (h hv0 hv1 hO)
    · have h := h.2 c4
      refine G_iinc (lv' := [(1, aI ((v1 + 8))), (0, aI (v0))]) (k := 1) rfl rfl (by decide) dJ6_numberOfTrailingZeros_0f7a4_41 ?_
      refine G_iload_n 1 rfl rfl dJ6_numberOfTrailingZeros_0f7a4_44 ?_
      refine G_bipush (by decide) dJ6_numberOfTrailingZeros_0f7a4_45 ?_
      refine G_iushr dJ6_numberOfTrailingZeros_0f7a4_47 ?_
      refine G_istore_n (lv' := [(0, aI ((bUshr v0 8))), (1, aI ((v1 + 8)))]) rfl rfl (by decide) dJ6_numberOfTrailingZeros_0f7a4_48 ?_
      obtain ⟨c5, h⟩ := h
      exact G_pick [0, 1] rfl (h (r32_of _) c5 hO)
  · intro v0 v1 σ h hv0 hv1 hO
    have h := h hv0 hv1 hO
    refine G_iload_n 0 rfl rfl dJ6_numberOfTrailingZeros_0f7a4_49 ?_
    refine G_bipush (by decide) dJ6_numberOfTrailingZeros_0f7a4_50 ?_
    refine G_icmp_le hv0 (rL 16 rfl) dJ6_numberOfTrailingZeros_0f7a4_52 (tgt := 62) (by decide) (fun c6 => ?_) (fun c6 => ?_)
    · have h := h.1 c6
      refine G_iload_n 0 rfl rfl dJ6_numberOfTrailingZeros_0f7a4_62 ?_
      refine G_iconst dJ6_numberOfTrailingZeros_0f7a4_63 ?_
      refine G_icmp_le hv0 (rL 4 rfl) dJ6_numberOfTrailingZeros_0f7a4_64 (tgt := 74) (by decide) (fun c7 => ?_) (fun c7 => ?_)
      · have h := h.1 c7
        refine G_iload_n 1 rfl rfl dJ6_numberOfTrailingZeros_0f7a4_74 ?_
        refine G_iload_n 0 rfl rfl dJ6_numberOfTrailingZeros_0f7a4_75 ?_
        refine G_iconst dJ6_numberOfTrailingZeros_0f7a4_76 ?_
        refine G_iushr dJ6_numberOfTrailingZeros_0f7a4_77 ?_
        refine G_iadd dJ6_numberOfTrailingZeros_0f7a4_78 ?_
        obtain ⟨c8, h⟩ := h
        exact G_iret rfl c8 dJ6_numberOfTrailingZeros_0f7a4_79 ⟨_, rfl, h⟩ hO
      · have h := h.2 c7
        refine G_iinc (lv' := [(1, aI ((v1 + 2))), (0, aI (v0))]) (k := 1) rfl rfl (by decide) dJ6_numberOfTrailingZeros_0f7a4_67 ?_
        refine G_iload_n 1 rfl rfl dJ6_numberOfTrailingZeros_0f7a4_70 ?_
        refine G_iconst dJ6_numberOfTrailingZeros_0f7a4_71 ?_
        refine G_iushr dJ6_numberOfTrailingZeros_0f7a4_72 ?_
        refine G_istore_n (lv' := [(0, aI ((bUshr v0 2))), (1, aI ((v1 + 2)))]) rfl rfl (by decide) dJ6_numberOfTrailingZeros_0f7a4_73 ?_
        refine G_iload_n 1 rfl rfl dJ6_numberOfTrailingZeros_0f7a4_74 ?_
        refine G_iload_n 0 rfl rfl dJ6_numberOfTrailingZeros_0f7a4_75 ?_
        refine G_iconst dJ6_numberOfTrailingZeros_0f7a4_76 ?_
        refine G_iushr dJ6_numberOfTrailingZeros_0f7a4_77 ?_
        refine G_iadd dJ6_numberOfTrailingZeros_0f7a4_78 ?_
        obtain ⟨c9, h⟩ := h
        exact G_iret rfl c9 dJ6_numberOfTrailingZeros_0f7a4_79 ⟨_, rfl, h⟩ hO
    · have h := h.2 c6
      refine G_iinc (lv' := [(1, aI ((v1 + 4))), (0, aI (v0))]) (k := 1) rfl rfl (by decide) dJ6_numberOfTrailingZeros_0f7a4_55 ?_
      refine G_iload_n 1 rfl rfl dJ6_numberOfTrailingZeros_0f7a4_58 ?_
      refine G_iconst dJ6_numberOfTrailingZeros_0f7a4_59 ?_
      refine G_iushr dJ6_numberOfTrailingZeros_0f7a4_60 ?_
      refine G_istore_n (lv' := [(0, aI ((bUshr v0 4))), (1, aI ((v1 + 4)))]) rfl rfl (by decide) dJ6_numberOfTrailingZeros_0f7a4_61 ?_
      refine G_iload_n 0 rfl rfl dJ6_numberOfTrailingZeros_0f7a4_62 ?_
      refine G_iconst dJ6_numberOfTrailingZeros_0f7a4_63 ?_
      refine G_icmp_le (r32_of _) (rL 4 rfl) dJ6_numberOfTrailingZeros_0f7a4_64 (tgt := 74) (by decide) (fun c10 => ?_) (fun c10 => ?_)
      · have h := h.1 c10
        refine G_iload_n 1 rfl rfl dJ6_numberOfTrailingZeros_0f7a4_74 ?_
        refine G_iload_n 0 rfl rfl dJ6_numberOfTrailingZeros_0f7a4_75 ?_
        refine G_iconst dJ6_numberOfTrailingZeros_0f7a4_76 ?_
        refine G_iushr dJ6_numberOfTrailingZeros_0f7a4_77 ?_
        refine G_iadd dJ6_numberOfTrailingZeros_0f7a4_78 ?_
        obtain ⟨c11, h⟩ := h
        exact G_iret rfl c11 dJ6_numberOfTrailingZeros_0f7a4_79 ⟨_, rfl, h⟩ hO
      · have h := h.2 c10
        refine G_iinc (lv' := [(1, aI (((v1 + 4) + 2))), (0, aI ((bUshr v0 4)))]) (k := 1) rfl rfl (by decide) dJ6_numberOfTrailingZeros_0f7a4_67 ?_
        refine G_iload_n 1 rfl rfl dJ6_numberOfTrailingZeros_0f7a4_70 ?_
        refine G_iconst dJ6_numberOfTrailingZeros_0f7a4_71 ?_
        refine G_iushr dJ6_numberOfTrailingZeros_0f7a4_72 ?_
        refine G_istore_n (lv' := [(0, aI ((bUshr (bUshr v0 4) 2))), (1, aI (((v1 + 4) + 2)))]) rfl rfl (by decide) dJ6_numberOfTrailingZeros_0f7a4_73 ?_
        refine G_iload_n 1 rfl rfl dJ6_numberOfTrailingZeros_0f7a4_74 ?_
        refine G_iload_n 0 rfl rfl dJ6_numberOfTrailingZeros_0f7a4_75 ?_
        refine G_iconst dJ6_numberOfTrailingZeros_0f7a4_76 ?_
        refine G_iushr dJ6_numberOfTrailingZeros_0f7a4_77 ?_
        refine G_iadd dJ6_numberOfTrailingZeros_0f7a4_78 ?_
        obtain ⟨c12, h⟩ := h
        exact G_iret rfl c12 dJ6_numberOfTrailingZeros_0f7a4_79 ⟨_, rfl, h⟩ hO

theorem sp_J6_numberOfTrailingZeros_0f7a4 (d : Nat) (hd : 0 ≤ d) (σ : Mem) (hO : OKm σ) (x1 : Int) (hx1 : R32 x1) (hpre : 0 < x1 ∧ x1 < 65536) : Mt yJ6_numberOfTrailingZeros_0f7a4 cJ6_numberOfTrailingZeros_0f7a4 2 (some .int) d [aI (x1)] σ (QI (fun v σ' => (((lowN 16 (x1).toNat : Nat) : Int)) = v ∧ σ = σ')) := mt_J6_numberOfTrailingZeros_0f7a4 hd hx1 hO (by
  unfold wp_J6_numberOfTrailingZeros_0f7a4
  intro P34 P49 h34 h49
  obtain ⟨n, rfl⟩ : ∃ n : Nat, x1 = n := ⟨x1.toNat, by omega⟩
  have hl := lowN_bit 16 n (by omega) (by omega)
  intro y1 e1
  rw [ntz_x (by omega) (by omega)] at e1
  simp only [Int.toNat_natCast] at h34 h49 ⊢
  have hlt := hl.2.1
  generalize lowN 16 n = t at *
  clear hl
  subst e1
  rcases (show t = 0 ∨ t = 1 ∨ t = 2 ∨ t = 3 ∨ t = 4 ∨ t = 5 ∨ t = 6 ∨ t = 7 ∨ t = 8 ∨ t = 9 ∨ t = 10 ∨ t = 11 ∨ t = 12 ∨ t = 13 ∨ t = 14 ∨ t = 15 by omega) with rfl | rfl | rfl | rfl | rfl | rfl | rfl | rfl | rfl | rfl | rfl | rfl | rfl | rfl | rfl | rfl
  · refine ⟨fun h => absurd h (by decide), fun _ => ⟨by decide +kernel, trivial⟩⟩
  · refine ⟨fun _ => ⟨fun _ => h34 _ _ _ (fun _ _ _ => ?_), fun h => absurd h (by decide)⟩, fun h => absurd h (by decide)⟩
    refine ⟨fun _ => h49 _ _ _ (fun _ _ _ => ?_), fun h => absurd h (by decide)⟩
    exact ⟨fun _ => ⟨fun _ => ⟨by unfold R32; decide +kernel, by decide +kernel, rfl⟩, fun h => absurd h (by decide +kernel)⟩, fun h => absurd h (by decide +kernel)⟩
  · refine ⟨fun _ => ⟨fun _ => h34 _ _ _ (fun _ _ _ => ?_), fun h => absurd h (by decide)⟩, fun h => absurd h (by decide)⟩
    refine ⟨fun _ => h49 _ _ _ (fun _ _ _ => ?_), fun h => absurd h (by decide)⟩
    exact ⟨fun _ => ⟨fun _ => ⟨by unfold R32; decide +kernel, by decide +kernel, rfl⟩, fun h => absurd h (by decide +kernel)⟩, fun h => absurd h (by decide +kernel)⟩
  · refine ⟨fun _ => ⟨fun _ => h34 _ _ _ (fun _ _ _ => ?_), fun h => absurd h (by decide)⟩, fun h => absurd h (by decide)⟩
    refine ⟨fun _ => h49 _ _ _ (fun _ _ _ => ?_), fun h => absurd h (by decide)⟩
    exact ⟨fun _ => ⟨fun h => absurd h (by decide +kernel), fun _ => ⟨by unfold R32; decide +kernel, by decide +kernel, rfl⟩⟩, fun h => absurd h (by decide +kernel)⟩
  · refine ⟨fun _ => ⟨fun _ => h34 _ _ _ (fun _ _ _ => ?_), fun h => absurd h (by decide)⟩, fun h => absurd h (by decide)⟩
    refine ⟨fun _ => h49 _ _ _ (fun _ _ _ => ?_), fun h => absurd h (by decide)⟩
    exact ⟨fun _ => ⟨fun h => absurd h (by decide +kernel), fun _ => ⟨by unfold R32; decide +kernel, by decide +kernel, rfl⟩⟩, fun h => absurd h (by decide +kernel)⟩
  · refine ⟨fun _ => ⟨fun _ => h34 _ _ _ (fun _ _ _ => ?_), fun h => absurd h (by decide)⟩, fun h => absurd h (by decide)⟩
    refine ⟨fun _ => h49 _ _ _ (fun _ _ _ => ?_), fun h => absurd h (by decide)⟩
    exact ⟨fun h => absurd h (by decide +kernel), fun _ => ⟨fun _ => ⟨by unfold R32; decide +kernel, by decide +kernel, rfl⟩, fun h => absurd h (by decide +kernel)⟩⟩
  · refine ⟨fun _ => ⟨fun _ => h34 _ _ _ (fun _ _ _ => ?_), fun h => absurd h (by decide)⟩, fun h => absurd h (by decide)⟩
    refine ⟨fun _ => h49 _ _ _ (fun _ _ _ => ?_), fun h => absurd h (by decide)⟩
    exact ⟨fun h => absurd h (by decide +kernel), fun _ => ⟨fun _ => ⟨by unfold R32; decide +kernel, by decide +kernel, rfl⟩, fun h => absurd h (by decide +kernel)⟩⟩
  · refine ⟨fun _ => ⟨fun _ => h34 _ _ _ (fun _ _ _ => ?_), fun h => absurd h (by decide)⟩, fun h => absurd h (by decide)⟩
    refine ⟨fun _ => h49 _ _ _ (fun _ _ _ => ?_), fun h => absurd h (by decide)⟩
    exact ⟨fun h => absurd h (by decide +kernel), fun _ => ⟨fun h => absurd h (by decide +kernel), fun _ => ⟨by unfold R32; decide +kernel, by decide +kernel, rfl⟩⟩⟩
  · refine ⟨fun _ => ⟨fun _ => h34 _ _ _ (fun _ _ _ => ?_), fun h => absurd h (by decide)⟩, fun h => absurd h (by decide)⟩
    refine ⟨fun _ => h49 _ _ _ (fun _ _ _ => ?_), fun h => absurd h (by decide)⟩
    exact ⟨fun h => absurd h (by decide +kernel), fun _ => ⟨fun h => absurd h (by decide +kernel), fun _ => ⟨by unfold R32; decide +kernel, by decide +kernel, rfl⟩⟩⟩
  · refine ⟨fun _ => ⟨fun _ => h34 _ _ _ (fun _ _ _ => ?_), fun h => absurd h (by decide)⟩, fun h => absurd h (by decide)⟩
    refine ⟨fun h => absurd h (by decide), fun _ => ⟨by unfold R32; decide, h49 _ _ _ (fun _ _ _ => ?_)⟩⟩
    exact ⟨fun _ => ⟨fun _ => ⟨by unfold R32; decide +kernel, by decide +kernel, rfl⟩, fun h => absurd h (by decide +kernel)⟩, fun h => absurd h (by decide +kernel)⟩
  · refine ⟨fun _ => ⟨fun _ => h34 _ _ _ (fun _ _ _ => ?_), fun h => absurd h (by decide)⟩, fun h => absurd h (by decide)⟩
    refine ⟨fun h => absurd h (by decide), fun _ => ⟨by unfold R32; decide, h49 _ _ _ (fun _ _ _ => ?_)⟩⟩
    exact ⟨fun _ => ⟨fun _ => ⟨by unfold R32; decide +kernel, by decide +kernel, rfl⟩, fun h => absurd h (by decide +kernel)⟩, fun h => absurd h (by decide +kernel)⟩
  · refine ⟨fun _ => ⟨fun _ => h34 _ _ _ (fun _ _ _ => ?_), fun h => absurd h (by decide)⟩, fun h => absurd h (by decide)⟩
    refine ⟨fun h => absurd h (by decide), fun _ => ⟨by unfold R32; decide, h49 _ _ _ (fun _ _ _ => ?_)⟩⟩
    exact ⟨fun _ => ⟨fun h => absurd h (by decide +kernel), fun _ => ⟨by unfold R32; decide +kernel, by decide +kernel, rfl⟩⟩, fun h => absurd h (by decide +kernel)⟩
  · refine ⟨fun _ => ⟨fun _ => h34 _ _ _ (fun _ _ _ => ?_), fun h => absurd h (by decide)⟩, fun h => absurd h (by decide)⟩
    refine ⟨fun h => absurd h (by decide), fun _ => ⟨by unfold R32; decide, h49 _ _ _ (fun _ _ _ => ?_)⟩⟩
    exact ⟨fun _ => ⟨fun h => absurd h (by decide +kernel), fun _ => ⟨by unfold R32; decide +kernel, by decide +kernel, rfl⟩⟩, fun h => absurd h (by decide +kernel)⟩
  · refine ⟨fun _ => ⟨fun _ => h34 _ _ _ (fun _ _ _ => ?_), fun h => absurd h (by decide)⟩, fun h => absurd h (by decide)⟩
    refine ⟨fun h => absurd h (by decide), fun _ => ⟨by unfold R32; decide, h49 _ _ _ (fun _ _ _ => ?_)⟩⟩
    exact ⟨fun h => absurd h (by decide +kernel), fun _ => ⟨fun _ => ⟨by unfold R32; decide +kernel, by decide +kernel, rfl⟩, fun h => absurd h (by decide +kernel)⟩⟩
  · refine ⟨fun _ => ⟨fun _ => h34 _ _ _ (fun _ _ _ => ?_), fun h => absurd h (by decide)⟩, fun h => absurd h (by decide)⟩
    refine ⟨fun h => absurd h (by decide), fun _ => ⟨by unfold R32; decide, h49 _ _ _ (fun _ _ _ => ?_)⟩⟩
    exact ⟨fun h => absurd h (by decide +kernel), fun _ => ⟨fun _ => ⟨by unfold R32; decide +kernel, by decide +kernel, rfl⟩, fun h => absurd h (by decide +kernel)⟩⟩
  · refine ⟨fun _ => ⟨fun _ => h34 _ _ _ (fun _ _ _ => ?_), fun h => absurd h (by decide)⟩, fun h => absurd h (by decide)⟩
    refine ⟨fun h => absurd h (by decide), fun _ => ⟨by unfold R32; decide, h49 _ _ _ (fun _ _ _ => ?_)⟩⟩
    exact ⟨fun h => absurd h (by decide +kernel), fun _ => ⟨fun h => absurd h (by decide +kernel), fun _ => ⟨by unfold R32; decide +kernel, by decide +kernel, rfl⟩⟩⟩)
