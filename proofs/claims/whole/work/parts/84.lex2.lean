/-! bits of longs -/
theorem toInt_bvL (b : BitVec 64) (h : b.toNat < 2 ^ 63) : (Int64.ofBitVec b).toInt = (b.toNat : Int) := by
  show b.toInt = _
  rw [BitVec.toInt_eq_toNat_of_lt (by omega)]
theorem bv_natL (n : Nat) : (Int64.ofInt (n : Int)).toBitVec = BitVec.ofNat 64 n := by
  show BitVec.ofInt 64 (n : Int) = _
  rw [BitVec.ofInt_natCast]
theorem lOr_nat {n m : Nat} (h1 : n < 2 ^ 63) (h2 : m < 2 ^ 63) : lOr (n : Int) (m : Int) = ((n ||| m : Nat) : Int) := by
  have e : Int64.ofInt (n : Int) ||| Int64.ofInt (m : Int) = Int64.ofBitVec (BitVec.ofNat 64 n ||| BitVec.ofNat 64 m) := by
    rw [← bv_natL n, ← bv_natL m]; rfl
  have ht : (BitVec.ofNat 64 n ||| BitVec.ofNat 64 m).toNat = n ||| m := by
    rw [BitVec.toNat_or, BitVec.toNat_ofNat, BitVec.toNat_ofNat, Nat.mod_eq_of_lt (by omega), Nat.mod_eq_of_lt (by omega)]
  unfold lOr
  rw [e, toInt_bvL _ (by rw [ht]; exact Nat.or_lt_two_pow h1 h2), ht]
theorem sh8 : ((Int32.ofInt 8).toInt64 &&& 63) = Int64.ofNat 8 := by decide +kernel
theorem sh48 : ((Int32.ofInt 48).toInt64 &&& 63) = Int64.ofNat 48 := by decide +kernel
theorem sb8 : ((Int64.ofNat 8).toBitVec.smod 64).toNat = 8 := by decide +kernel
theorem sb48 : ((Int64.ofNat 48).toBitVec.smod 64).toNat = 48 := by decide +kernel
theorem lShl_8 {n : Nat} (h : n * 256 < 2 ^ 63) : lShl (n : Int) 8 = ((n * 256 : Nat) : Int) := by
  have e : Int64.ofInt (n : Int) <<< Int64.ofNat 8 = Int64.ofBitVec (BitVec.ofNat 64 n <<< 8) := by
    rw [← bv_natL n]
    show Int64.ofBitVec ((Int64.ofInt (n : Int)).toBitVec <<< ((Int64.ofNat 8).toBitVec.smod 64)) = _
    rw [BitVec.shiftLeft_eq', sb8]
  have ht : (BitVec.ofNat 64 n <<< 8).toNat = n * 256 := by
    rw [BitVec.toNat_shiftLeft, BitVec.toNat_ofNat, Nat.shiftLeft_eq]
    rw [Nat.mod_eq_of_lt (show n < 2 ^ 64 by omega), Nat.mod_eq_of_lt (by omega)]
  unfold lShl
  rw [sh8, e, toInt_bvL _ (by rw [ht]; exact h), ht]
theorem lShr_48 {n : Nat} (h : n < 2 ^ 63) : lShr (n : Int) 48 = ((n / 2 ^ 48 : Nat) : Int) := by
  have e : Int64.ofInt (n : Int) >>> Int64.ofNat 48 = Int64.ofBitVec ((BitVec.ofNat 64 n).sshiftRight 48) := by
    rw [← bv_natL n]
    show Int64.ofBitVec ((Int64.ofInt (n : Int)).toBitVec.sshiftRight' ((Int64.ofNat 48).toBitVec.smod 64)) = _
    rw [BitVec.sshiftRight_eq', sb48]
  have hm : (BitVec.ofNat 64 n).msb = false := by
    rw [BitVec.msb_eq_false_iff_two_mul_lt, BitVec.toNat_ofNat]
    omega
  have ht : ((BitVec.ofNat 64 n).sshiftRight 48).toNat = n / 2 ^ 48 := by
    rw [BitVec.sshiftRight_eq_of_msb_false hm, BitVec.toNat_ushiftRight, BitVec.toNat_ofNat, Nat.shiftRight_eq_div_pow, Nat.mod_eq_of_lt (by omega)]
  unfold lShr
  rw [sh48, e, toInt_bvL _ (by rw [ht]; exact Nat.lt_of_le_of_lt (Nat.div_le_self _ _) h), ht]
/-- one letter more -/
theorem lPack {x y : Int} (hx : 0 ≤ x) (hx2 : x < 36028797018963968) (hy : 0 ≤ y ∧ y < 256) : lOr (lShl x 8) y = x * 256 + y := by
  obtain ⟨n, rfl⟩ : ∃ n : Nat, x = n := ⟨x.toNat, by omega⟩
  obtain ⟨m, rfl⟩ : ∃ m : Nat, y = m := ⟨y.toNat, by omega⟩
  rw [lShl_8 (by omega), lOr_nat (by omega) (by omega)]
  have := Nat.shiftLeft_add_eq_or_of_lt (show m < 2 ^ 8 by omega) n
  rw [Nat.shiftLeft_eq, show (2 : Nat) ^ 8 = 256 from rfl] at this
  rw [← this]
  omega
theorem lTop {x : Int} (hx : 0 ≤ x) (hx2 : x < 9223372036854775808) : lShr x 48 = 0 ↔ x < 281474976710656 := by
  obtain ⟨n, rfl⟩ : ∃ n : Nat, x = n := ⟨x.toNat, by omega⟩
  rw [lShr_48 (by omega)]
  omega

def wp_X12_w2 (x1 : Int) (x2 : Int) (σ : Mem) (Q : Int → Mem → Prop) : Prop :=
  Q (lOr (lShl x1 8) x2) σ
theorem mt_X12_w2 {d : Nat} (hd : 0 ≤ d) {x1 : Int} {x2 : Int} {σ : Mem} {Q : Int → Mem → Prop} (hx1 : R32 x1) (hx2 : R32 x2) (hO : OKm σ) (h : wp_X12_w2 x1 x2 σ Q) : Mt yX12_w2 cX12_w2 2 (some .long) d [aI (x1), aI (x2)] σ (QL Q) := by
  refine Mt.intro (by decide +kernel) (Nat.le_of_ble_eq_true rfl) [(0, aI (x1)), (1, aI (x2))] rfl ?_
  unfold wp_X12_w2 at h
  refine G_iload_n 0 rfl rfl dX12_w2_0 ?_
  refine G_i2l hx1 dX12_w2_1 ?_
  refine G_bipush (by decide) dX12_w2_2 ?_
  refine G_lshl dX12_w2_4 ?_
  refine G_iload_n 1 rfl rfl dX12_w2_5 ?_
  refine G_i2l hx2 dX12_w2_6 ?_
  refine G_lor dX12_w2_7 ?_
  exact G_lret rfl (r64_of _) dX12_w2_8 ⟨_, rfl, h⟩ hO

theorem sp_X12_w2 (d : Nat) (hd : 0 ≤ d) (σ : Mem) (hO : OKm σ) (x1 : Int) (hx1 : R32 x1) (x2 : Int) (hx2 : R32 x2) (hpre : (0 ≤ x1 ∧ x1 < 256) ∧ (0 ≤ x2 ∧ x2 < 256)) : Mt yX12_w2 cX12_w2 2 (some .long) d [aI (x1), aI (x2)] σ (QL (fun v σ' => (x1 * 256 + x2) = v ∧ σ = σ')) := mt_X12_w2 hd hx1 hx2 hO (by
  unfold wp_X12_w2
  rw [lPack hpre.1.1 (by omega) hpre.2]
  exact ⟨rfl, rfl⟩)

def wp_X12_w3 (x1 : Int) (x2 : Int) (x3 : Int) (σ : Mem) (Q : Int → Mem → Prop) : Prop :=
  ((0 ≤ x1 ∧ x1 < 256) ∧ (0 ≤ x2 ∧ x2 < 256)) ∧
   Q (lOr (lShl (x1 * 256 + x2) 8) x3) σ
theorem mt_X12_w3 {d : Nat} (hd : 1 ≤ d) {x1 : Int} {x2 : Int} {x3 : Int} {σ : Mem} {Q : Int → Mem → Prop} (hx1 : R32 x1) (hx2 : R32 x2) (hx3 : R32 x3) (hO : OKm σ) (h : wp_X12_w3 x1 x2 x3 σ Q) : Mt yX12_w3 cX12_w3 3 (some .long) d [aI (x1), aI (x2), aI (x3)] σ (QL Q) := by
  refine Mt.intro (by decide +kernel) (Nat.le_of_ble_eq_true rfl) [(0, aI (x1)), (1, aI (x2)), (2, aI (x3))] rfl ?_
  unfold wp_X12_w3 at h
  refine G_iload_n 0 rfl rfl dX12_w3_0 ?_
  refine G_iload_n 1 rfl rfl dX12_w3_1 ?_
  obtain ⟨c1, h⟩ := h
  refine G_callS (as := [_, _]) cf_X12_135 rfl (sp_X12_w2 (d - 1) (by omega) _ hO _ hx1 _ hx2 c1) (by omega) rfl rfl (Nat.le_of_ble_eq_true rfl) dX12_w3_2 ?_
  rintro _ _ ⟨_, rfl, rfl, rfl⟩ o3 r2
  refine G_bipush (by decide) dX12_w3_5 ?_
  refine G_lshl dX12_w3_7 ?_
  refine G_iload_n 2 rfl rfl dX12_w3_8 ?_
  refine G_i2l hx3 dX12_w3_9 ?_
  refine G_lor dX12_w3_10 ?_
  exact G_lret rfl (r64_of _) dX12_w3_11 ⟨_, rfl, h⟩ hO

theorem sp_X12_w3 (d : Nat) (hd : 1 ≤ d) (σ : Mem) (hO : OKm σ) (x1 : Int) (hx1 : R32 x1) (x2 : Int) (hx2 : R32 x2) (x3 : Int) (hx3 : R32 x3) (hpre : (0 ≤ x1 ∧ x1 < 256) ∧ (0 ≤ x2 ∧ x2 < 256) ∧ (0 ≤ x3 ∧ x3 < 256)) : Mt yX12_w3 cX12_w3 3 (some .long) d [aI (x1), aI (x2), aI (x3)] σ (QL (fun v σ' => ((x1 * 256 + x2) * 256 + x3) = v ∧ σ = σ')) := mt_X12_w3 hd hx1 hx2 hx3 hO (by
  unfold wp_X12_w3
  refine ⟨by omega, ?_⟩
  rw [lPack (x := (x1 * 256 + x2)) (by omega) (by omega) (by omega)]
  exact ⟨rfl, rfl⟩)

def wp_X12_w4 (x1 : Int) (x2 : Int) (x3 : Int) (x4 : Int) (σ : Mem) (Q : Int → Mem → Prop) : Prop :=
  ((0 ≤ x1 ∧ x1 < 256) ∧ (0 ≤ x2 ∧ x2 < 256) ∧ (0 ≤ x3 ∧ x3 < 256)) ∧
   Q (lOr (lShl ((x1 * 256 + x2) * 256 + x3) 8) x4) σ
theorem mt_X12_w4 {d : Nat} (hd : 2 ≤ d) {x1 : Int} {x2 : Int} {x3 : Int} {x4 : Int} {σ : Mem} {Q : Int → Mem → Prop} (hx1 : R32 x1) (hx2 : R32 x2) (hx3 : R32 x3) (hx4 : R32 x4) (hO : OKm σ) (h : wp_X12_w4 x1 x2 x3 x4 σ Q) : Mt yX12_w4 cX12_w4 4 (some .long) d [aI (x1), aI (x2), aI (x3), aI (x4)] σ (QL Q) := by
  refine Mt.intro (by decide +kernel) (Nat.le_of_ble_eq_true rfl) [(0, aI (x1)), (1, aI (x2)), (2, aI (x3)), (3, aI (x4))] rfl ?_
  unfold wp_X12_w4 at h
  refine G_iload_n 0 rfl rfl dX12_w4_0 ?_
  refine G_iload_n 1 rfl rfl dX12_w4_1 ?_
  refine G_iload_n 2 rfl rfl dX12_w4_2 ?_
  obtain ⟨c1, h⟩ := h
  refine G_callS (as := [_, _, _]) cf_X12_139 rfl (sp_X12_w3 (d - 1) (by omega) _ hO _ hx1 _ hx2 _ hx3 c1) (by omega) rfl rfl (Nat.le_of_ble_eq_true rfl) dX12_w4_3 ?_
  rintro _ _ ⟨_, rfl, rfl, rfl⟩ o3 r2
  refine G_bipush (by decide) dX12_w4_6 ?_
  refine G_lshl dX12_w4_8 ?_
  refine G_iload_n 3 rfl rfl dX12_w4_9 ?_
  refine G_i2l hx4 dX12_w4_10 ?_
  refine G_lor dX12_w4_11 ?_
  exact G_lret rfl (r64_of _) dX12_w4_12 ⟨_, rfl, h⟩ hO

theorem sp_X12_w4 (d : Nat) (hd : 2 ≤ d) (σ : Mem) (hO : OKm σ) (x1 : Int) (hx1 : R32 x1) (x2 : Int) (hx2 : R32 x2) (x3 : Int) (hx3 : R32 x3) (x4 : Int) (hx4 : R32 x4) (hpre : (0 ≤ x1 ∧ x1 < 256) ∧ (0 ≤ x2 ∧ x2 < 256) ∧ (0 ≤ x3 ∧ x3 < 256) ∧ (0 ≤ x4 ∧ x4 < 256)) : Mt yX12_w4 cX12_w4 4 (some .long) d [aI (x1), aI (x2), aI (x3), aI (x4)] σ (QL (fun v σ' => (((x1 * 256 + x2) * 256 + x3) * 256 + x4) = v ∧ σ = σ')) := mt_X12_w4 hd hx1 hx2 hx3 hx4 hO (by
  unfold wp_X12_w4
  refine ⟨by omega, ?_⟩
  rw [lPack (x := ((x1 * 256 + x2) * 256 + x3)) (by omega) (by omega) (by omega)]
  exact ⟨rfl, rfl⟩)

def wp_X12_w5 (x1 : Int) (x2 : Int) (x3 : Int) (x4 : Int) (x5 : Int) (σ : Mem) (Q : Int → Mem → Prop) : Prop :=
  ((0 ≤ x1 ∧ x1 < 256) ∧ (0 ≤ x2 ∧ x2 < 256) ∧ (0 ≤ x3 ∧ x3 < 256) ∧ (0 ≤ x4 ∧ x4 < 256)) ∧
   Q (lOr (lShl (((x1 * 256 + x2) * 256 + x3) * 256 + x4) 8) x5) σ
theorem mt_X12_w5 {d : Nat} (hd : 3 ≤ d) {x1 : Int} {x2 : Int} {x3 : Int} {x4 : Int} {x5 : Int} {σ : Mem} {Q : Int → Mem → Prop} (hx1 : R32 x1) (hx2 : R32 x2) (hx3 : R32 x3) (hx4 : R32 x4) (hx5 : R32 x5) (hO : OKm σ) (h : wp_X12_w5 x1 x2 x3 x4 x5 σ Q) : Mt yX12_w5 cX12_w5 5 (some .long) d [aI (x1), aI (x2), aI (x3), aI (x4), aI (x5)] σ (QL Q) := by
  refine Mt.intro (by decide +kernel) (Nat.le_of_ble_eq_true rfl) [(0, aI (x1)), (1, aI (x2)), (2, aI (x3)), (3, aI (x4)), (4, aI (x5))] rfl ?_
  unfold wp_X12_w5 at h
  refine G_iload_n 0 rfl rfl dX12_w5_0 ?_
  refine G_iload_n 1 rfl rfl dX12_w5_1 ?_
  refine G_iload_n 2 rfl rfl dX12_w5_2 ?_
  refine G_iload_n 3 rfl rfl dX12_w5_3 ?_
  obtain ⟨c1, h⟩ := h
  refine G_callS (as := [_, _, _, _]) cf_X12_143 rfl (sp_X12_w4 (d - 1) (by omega) _ hO _ hx1 _ hx2 _ hx3 _ hx4 c1) (by omega) rfl rfl (Nat.le_of_ble_eq_true rfl) dX12_w5_4 ?_
  rintro _ _ ⟨_, rfl, rfl, rfl⟩ o3 r2
  refine G_bipush (by decide) dX12_w5_7 ?_
  refine G_lshl dX12_w5_9 ?_
  refine G_iload 4 rfl dX12_w5_10 ?_
  refine G_i2l hx5 dX12_w5_12 ?_
  refine G_lor dX12_w5_13 ?_
  exact G_lret rfl (r64_of _) dX12_w5_14 ⟨_, rfl, h⟩ hO

theorem sp_X12_w5 (d : Nat) (hd : 3 ≤ d) (σ : Mem) (hO : OKm σ) (x1 : Int) (hx1 : R32 x1) (x2 : Int) (hx2 : R32 x2) (x3 : Int) (hx3 : R32 x3) (x4 : Int) (hx4 : R32 x4) (x5 : Int) (hx5 : R32 x5) (hpre : (0 ≤ x1 ∧ x1 < 256) ∧ (0 ≤ x2 ∧ x2 < 256) ∧ (0 ≤ x3 ∧ x3 < 256) ∧ (0 ≤ x4 ∧ x4 < 256) ∧ (0 ≤ x5 ∧ x5 < 256)) : Mt yX12_w5 cX12_w5 5 (some .long) d [aI (x1), aI (x2), aI (x3), aI (x4), aI (x5)] σ (QL (fun v σ' => ((((x1 * 256 + x2) * 256 + x3) * 256 + x4) * 256 + x5) = v ∧ σ = σ')) := mt_X12_w5 hd hx1 hx2 hx3 hx4 hx5 hO (by
  unfold wp_X12_w5
  refine ⟨by omega, ?_⟩
  rw [lPack (x := (((x1 * 256 + x2) * 256 + x3) * 256 + x4)) (by omega) (by omega) (by omega)]
  exact ⟨rfl, rfl⟩)

def wp_X12_w6 (x1 : Int) (x2 : Int) (x3 : Int) (x4 : Int) (x5 : Int) (x6 : Int) (σ : Mem) (Q : Int → Mem → Prop) : Prop :=
  ((0 ≤ x1 ∧ x1 < 256) ∧ (0 ≤ x2 ∧ x2 < 256) ∧ (0 ≤ x3 ∧ x3 < 256) ∧ (0 ≤ x4 ∧ x4 < 256) ∧ (0 ≤ x5 ∧ x5 < 256)) ∧
   Q (lOr (lShl ((((x1 * 256 + x2) * 256 + x3) * 256 + x4) * 256 + x5) 8) x6) σ
theorem mt_X12_w6 {d : Nat} (hd : 4 ≤ d) {x1 : Int} {x2 : Int} {x3 : Int} {x4 : Int} {x5 : Int} {x6 : Int} {σ : Mem} {Q : Int → Mem → Prop} (hx1 : R32 x1) (hx2 : R32 x2) (hx3 : R32 x3) (hx4 : R32 x4) (hx5 : R32 x5) (hx6 : R32 x6) (hO : OKm σ) (h : wp_X12_w6 x1 x2 x3 x4 x5 x6 σ Q) : Mt yX12_w6 cX12_w6 6 (some .long) d [aI (x1), aI (x2), aI (x3), aI (x4), aI (x5), aI (x6)] σ (QL Q) := by
  refine Mt.intro (by decide +kernel) (Nat.le_of_ble_eq_true rfl) [(0, aI (x1)), (1, aI (x2)), (2, aI (x3)), (3, aI (x4)), (4, aI (x5)), (5, aI (x6))] rfl ?_
  unfold wp_X12_w6 at h
  refine G_iload_n 0 rfl rfl dX12_w6_0 ?_
  refine G_iload_n 1 rfl rfl dX12_w6_1 ?_
  refine G_iload_n 2 rfl rfl dX12_w6_2 ?_
  refine G_iload_n 3 rfl rfl dX12_w6_3 ?_
  refine G_iload 4 rfl dX12_w6_4 ?_
  obtain ⟨c1, h⟩ := h
  refine G_callS (as := [_, _, _, _, _]) cf_X12_147 rfl (sp_X12_w5 (d - 1) (by omega) _ hO _ hx1 _ hx2 _ hx3 _ hx4 _ hx5 c1) (by omega) rfl rfl (Nat.le_of_ble_eq_true rfl) dX12_w6_6 ?_
  rintro _ _ ⟨_, rfl, rfl, rfl⟩ o3 r2
  refine G_bipush (by decide) dX12_w6_9 ?_
  refine G_lshl dX12_w6_11 ?_
  refine G_iload 5 rfl dX12_w6_12 ?_
  refine G_i2l hx6 dX12_w6_14 ?_
  refine G_lor dX12_w6_15 ?_
  exact G_lret rfl (r64_of _) dX12_w6_16 ⟨_, rfl, h⟩ hO

theorem sp_X12_w6 (d : Nat) (hd : 4 ≤ d) (σ : Mem) (hO : OKm σ) (x1 : Int) (hx1 : R32 x1) (x2 : Int) (hx2 : R32 x2) (x3 : Int) (hx3 : R32 x3) (x4 : Int) (hx4 : R32 x4) (x5 : Int) (hx5 : R32 x5) (x6 : Int) (hx6 : R32 x6) (hpre : (0 ≤ x1 ∧ x1 < 256) ∧ (0 ≤ x2 ∧ x2 < 256) ∧ (0 ≤ x3 ∧ x3 < 256) ∧ (0 ≤ x4 ∧ x4 < 256) ∧ (0 ≤ x5 ∧ x5 < 256) ∧ (0 ≤ x6 ∧ x6 < 256)) : Mt yX12_w6 cX12_w6 6 (some .long) d [aI (x1), aI (x2), aI (x3), aI (x4), aI (x5), aI (x6)] σ (QL (fun v σ' => (((((x1 * 256 + x2) * 256 + x3) * 256 + x4) * 256 + x5) * 256 + x6) = v ∧ σ = σ')) := mt_X12_w6 hd hx1 hx2 hx3 hx4 hx5 hx6 hO (by
  unfold wp_X12_w6
  refine ⟨by omega, ?_⟩
  rw [lPack (x := ((((x1 * 256 + x2) * 256 + x3) * 256 + x4) * 256 + x5)) (by omega) (by omega) (by omega)]
  exact ⟨rfl, rfl⟩)

def wp_X9_clear (t : Nat) (σ : Mem) (Q : Mem → Prop) : Prop :=
  ∀ σ1 : Mem, σ1 = mset σ t 2 0 →
   ∀ σ4 : Mem, σ4 = mset σ1 t 3 (-1) →
   ∀ σ7 : Mem, σ7 = mset σ4 t 4 (-1) →
   ∀ σ10 : Mem, σ10 = mset σ7 t 5 (-1) →
   ∀ σ13 : Mem, σ13 = mset σ10 t 6 (-1) →
   ∀ σ16 : Mem, σ16 = mset σ13 t 9 0 →
   Q σ16
theorem mt_X9_clear {d : Nat} (hd : 0 ≤ d) {t : Nat} {σ : Mem} {Q : Mem → Prop} (ht : isText t) (hO : OKm σ) (h : wp_X9_clear t σ Q) : Mt yX9_clear cX9_clear 1 none d [aR (t)] σ (QV Q) := by
  refine Mt.intro (by decide +kernel) (Nat.le_of_ble_eq_true rfl) [(0, aR (t))] rfl ?_
  unfold wp_X9_clear at h
  refine G_aload_n 0 rfl rfl dX9_clear_0 ?_
  refine G_iconst dX9_clear_1 ?_
  obtain ⟨σ1, e3⟩ : ∃ τ : Mem, τ = mset σ t 2 0 := ⟨_, rfl⟩
  have h := h σ1 e3
  have o2 : OKm σ1 := by rw [e3]; exact OKm.seti hO _ _ _ (rL 0 rfl) (lgT ht 2)
  refine G_put (k := 2) (ki := 2) (kd := (0, 0)) (x := _) pf_X9_18 rfl (shT ht) rfl rfl (fa_i (mset_self _ _ _ _)) (fun _ => rfl) (fun _ => rfl) dX9_clear_2 ?_
  rw [← e3]
  refine G_aload_n 0 rfl rfl dX9_clear_5 ?_
  refine G_iconst dX9_clear_6 ?_
  obtain ⟨σ4, e6⟩ : ∃ τ : Mem, τ = mset σ1 t 3 (-1) := ⟨_, rfl⟩
  have h := h σ4 e6
  have o5 : OKm σ4 := by rw [e6]; exact OKm.seti o2 _ _ _ (rL (-1) rfl) (lgT ht 3)
  refine G_put (k := 3) (ki := 3) (kd := (0, 0)) (x := _) pf_X9_22 rfl (shT ht) rfl rfl (fa_i (mset_self _ _ _ _)) (fun _ => rfl) (fun _ => rfl) dX9_clear_7 ?_
  rw [← e6]
  refine G_aload_n 0 rfl rfl dX9_clear_10 ?_
  refine G_iconst dX9_clear_11 ?_
  obtain ⟨σ7, e9⟩ : ∃ τ : Mem, τ = mset σ4 t 4 (-1) := ⟨_, rfl⟩
  have h := h σ7 e9
  have o8 : OKm σ7 := by rw [e9]; exact OKm.seti o5 _ _ _ (rL (-1) rfl) (lgT ht 4)
  refine G_put (k := 4) (ki := 4) (kd := (0, 0)) (x := _) pf_X9_25 rfl (shT ht) rfl rfl (fa_i (mset_self _ _ _ _)) (fun _ => rfl) (fun _ => rfl) dX9_clear_12 ?_
  rw [← e9]
  refine G_aload_n 0 rfl rfl dX9_clear_15 ?_
  refine G_iconst dX9_clear_16 ?_
  obtain ⟨σ10, e12⟩ : ∃ τ : Mem, τ = mset σ7 t 5 (-1) := ⟨_, rfl⟩
  have h := h σ10 e12
  have o11 : OKm σ10 := by rw [e12]; exact OKm.seti o8 _ _ _ (rL (-1) rfl) (lgT ht 5)
  refine G_put (k := 5) (ki := 5) (kd := (0, 0)) (x := _) pf_X9_28 rfl (shT ht) rfl rfl (fa_i (mset_self _ _ _ _)) (fun _ => rfl) (fun _ => rfl) dX9_clear_17 ?_
  rw [← e12]
  refine G_aload_n 0 rfl rfl dX9_clear_20 ?_
  refine G_iconst dX9_clear_21 ?_
  obtain ⟨σ13, e15⟩ : ∃ τ : Mem, τ = mset σ10 t 6 (-1) := ⟨_, rfl⟩
  have h := h σ13 e15
  have o14 : OKm σ13 := by rw [e15]; exact OKm.seti o11 _ _ _ (rL (-1) rfl) (lgT ht 6)
  refine G_put (k := 6) (ki := 6) (kd := (0, 0)) (x := _) pf_X9_31 rfl (shT ht) rfl rfl (fa_i (mset_self _ _ _ _)) (fun _ => rfl) (fun _ => rfl) dX9_clear_22 ?_
  rw [← e15]
  refine G_aload_n 0 rfl rfl dX9_clear_25 ?_
  refine G_iconst dX9_clear_26 ?_
  obtain ⟨σ16, e18⟩ : ∃ τ : Mem, τ = mset σ13 t 9 0 := ⟨_, rfl⟩
  have h := h σ16 e18
  have o17 : OKm σ16 := by rw [e18]; exact OKm.seti o14 _ _ _ (rL 0 rfl) (lgT ht 9)
  refine G_put (k := 9) (ki := 9) (kd := (0, 0)) (x := _) pf_X9_40 rfl (shT ht) rfl rfl (fa_i (mset_self _ _ _ _)) (fun _ => rfl) (fun _ => rfl) dX9_clear_27 ?_
  rw [← e18]
  exact G_vret rfl dX9_clear_30 ⟨rfl, h⟩ o17

theorem sp_X9_clear (d : Nat) (hd : 0 ≤ d) (σ : Mem) (hO : OKm σ) (t : Nat) (ht : isText t) : Mt yX9_clear cX9_clear 1 none d [aR (t)] σ (QV (fun σ' => σ' = (mset (mset (mset (mset (mset (mset σ t 2 0) t 3 (-1)) t 4 (-1)) t 5 (-1)) t 6 (-1)) t 9 0))) := mt_X9_clear hd ht hO (by
  unfold wp_X9_clear
  intro σ1 e1 σ4 e4 σ7 e7 σ10 e10 σ13 e13 σ16 e16
  rw [e16, e13, e10, e7, e4, e1])

def wp_X9_emit (t : Nat) (x1 : Int) (x2 : Int) (σ : Mem) (Q : Int → Mem → Prop) : Prop :=
  (((σ t 2) < 300) →
    (0 ≤ (σ t 2) ∧ (σ t 2) < 300) ∧
    ∀ σ3 : Mem, σ3 = mset σ (t + 1) (σ t 2) x1 →
    (0 ≤ (σ3 t 2) ∧ (σ3 t 2) < 300) ∧
    ∀ σ7 : Mem, σ7 = mset σ3 (t + 2) (σ3 t 2) x2 →
    R32 ((σ7 t 2) + 1) ∧
    ∀ σ10 : Mem, σ10 = mset σ7 t 2 ((σ7 t 2) + 1) →
    R32 ((σ10 t 2) - 1) ∧
    Q ((σ10 t 2) - 1) σ10) ∧
   ((300 ≤ (σ t 2)) →
    Q (-1) σ)
theorem mt_X9_emit {d : Nat} (hd : 0 ≤ d) {t : Nat} {x1 : Int} {x2 : Int} {σ : Mem} {Q : Int → Mem → Prop} (ht : isText t) (hx1 : R32 x1) (hx2 : R32 x2) (hO : OKm σ) (h : wp_X9_emit t x1 x2 σ Q) : Mt yX9_emit cX9_emit 3 (some .int) d [aR (t), aI (x1), aI (x2)] σ (QI Q) := by
  refine Mt.intro (by decide +kernel) (Nat.le_of_ble_eq_true rfl) [(0, aR (t)), (1, aI (x1)), (2, aI (x2))] rfl ?_
  unfold wp_X9_emit at h
  refine G_aload_n 0 rfl rfl dX9_emit_0 ?_
  refine G_get (k := 2) (kd := (0, 0)) (v := aI (σ t 2)) gf_X9_18 rfl (shT ht) rfl rfl dX9_emit_1 ?_
  refine G_sipush (by decide) dX9_emit_4 ?_
  refine G_icmp_lt (OKm.i hO t 2 (lgT ht 2)) (rL 300 rfl) dX9_emit_7 (tgt := 12) (by decide) (fun c1 => ?_) (fun c1 => ?_)
  · have h := h.1 c1
    refine G_aload_n 0 rfl rfl dX9_emit_12 ?_
    refine G_get (k := 0) (kd := (3, 1)) (v := aR ((t + 1))) gf_X9_9 rfl (shT ht) rfl rfl dX9_emit_13 ?_
    refine G_aload_n 0 rfl rfl dX9_emit_16 ?_
    refine G_get (k := 2) (kd := (0, 0)) (v := aI (σ t 2)) gf_X9_18 rfl (shT ht) rfl rfl dX9_emit_17 ?_
    refine G_iload_n 1 rfl rfl dX9_emit_20 ?_
    obtain ⟨c2, h⟩ := h
    obtain ⟨σ3, e5⟩ : ∃ τ : Mem, τ = mset σ (t + 1) (σ t 2) x1 := ⟨_, rfl⟩
    have h := h σ3 e5
    have o4 : OKm σ3 := by rw [e5]; exact OKm.seti hO _ _ _ hx1 (isLg_row (shT1 ht) _)
    refine G_iast (n := 300) (shT1 ht) c2.1 c2.2 dX9_emit_21 ?_
    rw [← e5]
    refine G_aload_n 0 rfl rfl dX9_emit_22 ?_
    refine G_get (k := 1) (kd := (3, 2)) (v := aR ((t + 2))) gf_X9_15 rfl (shT ht) rfl rfl dX9_emit_23 ?_
    refine G_aload_n 0 rfl rfl dX9_emit_26 ?_
    refine G_get (k := 2) (kd := (0, 0)) (v := aI (σ3 t 2)) gf_X9_18 rfl (shT ht) rfl rfl dX9_emit_27 ?_
    refine G_iload_n 2 rfl rfl dX9_emit_30 ?_
    obtain ⟨c6, h⟩ := h
    obtain ⟨σ7, e9⟩ : ∃ τ : Mem, τ = mset σ3 (t + 2) (σ3 t 2) x2 := ⟨_, rfl⟩
    have h := h σ7 e9
    have o8 : OKm σ7 := by rw [e9]; exact OKm.seti o4 _ _ _ hx2 (isLg_row (shT2 ht) _)
    refine G_iast (n := 300) (shT2 ht) c6.1 c6.2 dX9_emit_31 ?_
    rw [← e9]
    refine G_aload_n 0 rfl rfl dX9_emit_32 ?_
    refine G_dup rfl dX9_emit_33 ?_
    refine G_get (k := 2) (kd := (0, 0)) (v := aI (σ7 t 2)) gf_X9_18 rfl (shT ht) rfl rfl dX9_emit_34 ?_
    refine G_iconst dX9_emit_37 ?_
    refine G_iadd dX9_emit_38 ?_
    obtain ⟨c11, h⟩ := h
    obtain ⟨σ10, e13⟩ : ∃ τ : Mem, τ = mset σ7 t 2 ((σ7 t 2) + 1) := ⟨_, rfl⟩
    have h := h σ10 e13
    have o12 : OKm σ10 := by rw [e13]; exact OKm.seti o8 _ _ _ c11 (lgT ht 2)
    refine G_put (k := 2) (ki := 2) (kd := (0, 0)) (x := _) pf_X9_18 rfl (shT ht) rfl rfl (fa_i (mset_self _ _ _ _)) (fun _ => rfl) (fun _ => rfl) dX9_emit_39 ?_
    rw [← e13]
    refine G_aload_n 0 rfl rfl dX9_emit_42 ?_
    refine G_get (k := 2) (kd := (0, 0)) (v := aI (σ10 t 2)) gf_X9_18 rfl (shT ht) rfl rfl dX9_emit_43 ?_
    refine G_iconst dX9_emit_46 ?_
    refine G_isub dX9_emit_47 ?_
    obtain ⟨c14, h⟩ := h
    exact G_iret rfl c14 dX9_emit_48 ⟨_, rfl, h⟩ o12
  · have h := h.2 c1
    refine G_iconst dX9_emit_10 ?_
    exact G_iret rfl (rL (-1) rfl) dX9_emit_11 ⟨_, rfl, h⟩ hO

theorem sp_X9_emit (d : Nat) (hd : 0 ≤ d) (σ : Mem) (hO : OKm σ) (t : Nat) (ht : isText t) (x1 : Int) (hx1 : R32 x1) (x2 : Int) (hx2 : R32 x2) (hpre : 0 ≤ σ t 2) : Mt yX9_emit cX9_emit 3 (some .int) d [aR (t), aI (x1), aI (x2)] σ (QI (fun v σ' => v = (if σ t 2 < 300 then σ t 2 else -1) ∧ σ' = (if σ t 2 < 300 then mset (mset (mset σ (t + 1) (σ t 2) x1) (t + 2) (σ t 2) x2) t 2 (σ t 2 + 1) else σ))) := mt_X9_emit hd ht hx1 hx2 hO (by
  unfold wp_X9_emit
  refine ⟨fun h => ⟨by omega, fun σ3 e3 => ?_⟩, fun h => ⟨by rw [if_neg (by omega)], by rw [if_neg (by omega)]⟩⟩
  have a3 : σ3 t 2 = σ t 2 := by rw [e3, mset_off (by omega)]
  rw [a3]
  refine ⟨by omega, fun σ7 e7 => ?_⟩
  have a7 : σ7 t 2 = σ t 2 := by rw [e7, mset_off (by omega)]; exact a3
  rw [a7]
  refine ⟨by unfold R32; omega, fun σ10 e10 => ?_⟩
  have a10 : σ10 t 2 = σ t 2 + 1 := by rw [e10, mset_hit rfl]
  rw [a10]
  exact ⟨by unfold R32; omega, by rw [if_pos h]; omega, by rw [if_pos h, e10, e7, e3]⟩)

def wp_X9_setOperand (t : Nat) (x1 : Int) (x2 : Int) (σ : Mem) (Q : Mem → Prop) : Prop :=
  R32 ((σ t 2) - 1) ∧
   ((¬ ((0 : Int) ≤ x1 ∧ x1 ≤ ((σ t 2) - 1))) →
    Q σ) ∧
   (((0 : Int) ≤ x1 ∧ x1 ≤ ((σ t 2) - 1)) →
    (0 ≤ x1 ∧ x1 < 300) ∧
    ∀ σ6 : Mem, σ6 = mset σ (t + 2) x1 x2 →
    Q σ6)
theorem mt_X9_setOperand {d : Nat} (hd : 1 ≤ d) {t : Nat} {x1 : Int} {x2 : Int} {σ : Mem} {Q : Mem → Prop} (ht : isText t) (hx1 : R32 x1) (hx2 : R32 x2) (hO : OKm σ) (h : wp_X9_setOperand t x1 x2 σ Q) : Mt yX9_setOperand cX9_setOperand 3 none d [aR (t), aI (x1), aI (x2)] σ (QV Q) := by
  refine Mt.intro (by decide +kernel) (Nat.le_of_ble_eq_true rfl) [(0, aR (t)), (1, aI (x1)), (2, aI (x2))] rfl ?_
  unfold wp_X9_setOperand at h
  refine G_iload_n 1 rfl rfl dX9_setOperand_0 ?_
  refine G_iconst dX9_setOperand_1 ?_
  refine G_aload_n 0 rfl rfl dX9_setOperand_2 ?_
  refine G_get (k := 2) (kd := (0, 0)) (v := aI (σ t 2)) gf_X9_18 rfl (shT ht) rfl rfl dX9_setOperand_3 ?_
  refine G_iconst dX9_setOperand_6 ?_
  refine G_isub dX9_setOperand_7 ?_
  obtain ⟨c1, h⟩ := h
  refine G_callN (as := [_, _, _]) cf_X9_43 rfl (sp_X11_within (d - 1) (by omega) _ hO _ hx1 _ (rL 0 rfl) _ c1) (by omega) rfl rfl (Nat.le_of_ble_eq_true rfl) dX9_setOperand_8 ?_
  rintro _ _ ⟨_, rfl, rfl, rfl⟩ o3 r2
  refine G_if_eq (bI_R _) dX9_setOperand_11 (tgt := 21) (by decide) (fun c4 => ?_) (fun c4 => ?_)
  · have h := h.1 ((bI_0 _).mp c4)
    exact G_vret rfl dX9_setOperand_21 ⟨rfl, h⟩ hO
  · have h := h.2 (bI_ne c4)
    refine G_aload_n 0 rfl rfl dX9_setOperand_14 ?_
    refine G_get (k := 1) (kd := (3, 2)) (v := aR ((t + 2))) gf_X9_15 rfl (shT ht) rfl rfl dX9_setOperand_15 ?_
    refine G_iload_n 1 rfl rfl dX9_setOperand_18 ?_
    refine G_iload_n 2 rfl rfl dX9_setOperand_19 ?_
    obtain ⟨c5, h⟩ := h
    obtain ⟨σ6, e8⟩ : ∃ τ : Mem, τ = mset σ (t + 2) x1 x2 := ⟨_, rfl⟩
    have h := h σ6 e8
    have o7 : OKm σ6 := by rw [e8]; exact OKm.seti hO _ _ _ hx2 (isLg_row (shT2 ht) _)
    refine G_iast (n := 300) (shT2 ht) c5.1 c5.2 dX9_setOperand_20 ?_
    rw [← e8]
    exact G_vret rfl dX9_setOperand_21 ⟨rfl, h⟩ o7

theorem sp_X9_setOperand (d : Nat) (hd : 1 ≤ d) (σ : Mem) (hO : OKm σ) (t : Nat) (ht : isText t) (x1 : Int) (hx1 : R32 x1) (x2 : Int) (hx2 : R32 x2) (hpre : 0 ≤ σ t 2 ∧ σ t 2 ≤ 300) : Mt yX9_setOperand cX9_setOperand 3 none d [aR (t), aI (x1), aI (x2)] σ (QV (fun σ' => σ' = (if 0 ≤ x1 ∧ x1 < σ t 2 then mset σ (t + 2) x1 x2 else σ))) := mt_X9_setOperand hd ht hx1 hx2 hO (by
  unfold wp_X9_setOperand
  refine ⟨by unfold R32; omega, fun h => by rw [if_neg (by omega)], fun h => ⟨by omega, fun σ6 e6 => by rw [if_pos (by omega), e6]⟩⟩)

def wp_X9_open (t : Nat) (x1 : Int) (σ : Mem) (Q : Mem → Prop) : Prop :=
  ((24 ≤ (σ t 9)) →
    Q σ) ∧
   (((σ t 9) < 24) →
    (0 ≤ (σ t 9) ∧ (σ t 9) < 24) ∧
    ∀ σ3 : Mem, σ3 = mset σ (t + 3) (σ t 9) x1 →
    R32 ((σ3 t 9) + 1) ∧
    ∀ σ6 : Mem, σ6 = mset σ3 t 9 ((σ3 t 9) + 1) →
    Q σ6)
theorem mt_X9_open {d : Nat} (hd : 0 ≤ d) {t : Nat} {x1 : Int} {σ : Mem} {Q : Mem → Prop} (ht : isText t) (hx1 : R32 x1) (hO : OKm σ) (h : wp_X9_open t x1 σ Q) : Mt yX9_open cX9_open 2 none d [aR (t), aI (x1)] σ (QV Q) := by
  refine Mt.intro (by decide +kernel) (Nat.le_of_ble_eq_true rfl) [(0, aR (t)), (1, aI (x1))] rfl ?_
  unfold wp_X9_open at h
  refine G_aload_n 0 rfl rfl dX9_open_0 ?_
  refine G_get (k := 9) (kd := (0, 0)) (v := aI (σ t 9)) gf_X9_40 rfl (shT ht) rfl rfl dX9_open_1 ?_
  refine G_bipush (by decide) dX9_open_4 ?_
  refine G_icmp_ge (OKm.i hO t 9 (lgT ht 9)) (rL 24 rfl) dX9_open_6 (tgt := 29) (by decide) (fun c1 => ?_) (fun c1 => ?_)
  · have h := h.1 c1
    exact G_vret rfl dX9_open_29 ⟨rfl, h⟩ hO
  · have h := h.2 c1
    refine G_aload_n 0 rfl rfl dX9_open_9 ?_
    refine G_get (k := 7) (kd := (3, 3)) (v := aR ((t + 3))) gf_X9_34 rfl (shT ht) rfl rfl dX9_open_10 ?_
    refine G_aload_n 0 rfl rfl dX9_open_13 ?_
    refine G_get (k := 9) (kd := (0, 0)) (v := aI (σ t 9)) gf_X9_40 rfl (shT ht) rfl rfl dX9_open_14 ?_
    refine G_iload_n 1 rfl rfl dX9_open_17 ?_
    obtain ⟨c2, h⟩ := h
    obtain ⟨σ3, e5⟩ : ∃ τ : Mem, τ = mset σ (t + 3) (σ t 9) x1 := ⟨_, rfl⟩
    have h := h σ3 e5
    have o4 : OKm σ3 := by rw [e5]; exact OKm.seti hO _ _ _ hx1 (isLg_row (shT3 ht) _)
    refine G_iast (n := 24) (shT3 ht) c2.1 c2.2 dX9_open_18 ?_
    rw [← e5]
    refine G_aload_n 0 rfl rfl dX9_open_19 ?_
    refine G_dup rfl dX9_open_20 ?_
    refine G_get (k := 9) (kd := (0, 0)) (v := aI (σ3 t 9)) gf_X9_40 rfl (shT ht) rfl rfl dX9_open_21 ?_
    refine G_iconst dX9_open_24 ?_
    refine G_iadd dX9_open_25 ?_
    obtain ⟨c7, h⟩ := h
    obtain ⟨σ6, e9⟩ : ∃ τ : Mem, τ = mset σ3 t 9 ((σ3 t 9) + 1) := ⟨_, rfl⟩
    have h := h σ6 e9
    have o8 : OKm σ6 := by rw [e9]; exact OKm.seti o4 _ _ _ c7 (lgT ht 9)
    refine G_put (k := 9) (ki := 9) (kd := (0, 0)) (x := _) pf_X9_40 rfl (shT ht) rfl rfl (fa_i (mset_self _ _ _ _)) (fun _ => rfl) (fun _ => rfl) dX9_open_26 ?_
    rw [← e9]
    exact G_vret rfl dX9_open_29 ⟨rfl, h⟩ o8

theorem sp_X9_open (d : Nat) (hd : 0 ≤ d) (σ : Mem) (hO : OKm σ) (t : Nat) (ht : isText t) (x1 : Int) (hx1 : R32 x1) (hpre : 0 ≤ σ t 9 ∧ σ t 9 < 24) : Mt yX9_open cX9_open 2 none d [aR (t), aI (x1)] σ (QV (fun σ' => σ' = (mset (mset σ (t + 3) (σ t 9) x1) t 9 (σ t 9 + 1)))) := mt_X9_open hd ht hx1 hO (by
  unfold wp_X9_open
  refine ⟨fun h => absurd h (by omega), fun h => ⟨by omega, fun σ3 e3 => ?_⟩⟩
  have a3 : σ3 t 9 = σ t 9 := by rw [e3, mset_off (by omega)]
  rw [a3]
  exact ⟨by unfold R32; omega, fun σ6 e6 => by rw [e6, e3]⟩)

def wp_X9_setNumber (t : Nat) (x1 : Int) (x2 : Int) (σ : Mem) (Q : Mem → Prop) : Prop :=
  (((σ t 9) ≤ 0) →
    Q σ) ∧
   ((0 < (σ t 9)) →
    ((¬ ((0 : Int) ≤ x1 ∧ x1 ≤ (3 : Int))) →
     Q σ) ∧
    (((0 : Int) ≤ x1 ∧ x1 ≤ (3 : Int)) →
     (0 ≤ ((((σ t 9) - 1) * 4) + x1) ∧ ((((σ t 9) - 1) * 4) + x1) < 96) ∧
     ∀ σ6 : Mem, σ6 = mset σ (t + 4) ((((σ t 9) - 1) * 4) + x1) x2 →
     Q σ6))
theorem mt_X9_setNumber {d : Nat} (hd : 1 ≤ d) {t : Nat} {x1 : Int} {x2 : Int} {σ : Mem} {Q : Mem → Prop} (ht : isText t) (hx1 : R32 x1) (hx2 : R32 x2) (hO : OKm σ) (h : wp_X9_setNumber t x1 x2 σ Q) : Mt yX9_setNumber cX9_setNumber 3 none d [aR (t), aI (x1), aI (x2)] σ (QV Q) := by
  refine Mt.intro (by decide +kernel) (Nat.le_of_ble_eq_true rfl) [(0, aR (t)), (1, aI (x1)), (2, aI (x2))] rfl ?_
  unfold wp_X9_setNumber at h
  refine G_aload_n 0 rfl rfl dX9_setNumber_0 ?_
  refine G_get (k := 9) (kd := (0, 0)) (v := aI (σ t 9)) gf_X9_40 rfl (shT ht) rfl rfl dX9_setNumber_1 ?_
  refine G_if_le (OKm.i hO t 9 (lgT ht 9)) dX9_setNumber_4 (tgt := 32) (by decide) (fun c1 => ?_) (fun c1 => ?_)
  · have h := h.1 c1
    exact G_vret rfl dX9_setNumber_32 ⟨rfl, h⟩ hO
  · have h := h.2 c1
    refine G_iload_n 1 rfl rfl dX9_setNumber_7 ?_
    refine G_iconst dX9_setNumber_8 ?_
    refine G_iconst dX9_setNumber_9 ?_
    refine G_callN (as := [_, _, _]) cf_X9_43 rfl (sp_X11_within (d - 1) (by omega) _ hO _ hx1 _ (rL 0 rfl) _ (rL 3 rfl)) (by omega) rfl rfl (Nat.le_of_ble_eq_true rfl) dX9_setNumber_10 ?_
    rintro _ _ ⟨_, rfl, rfl, rfl⟩ o3 r2
    refine G_if_eq (bI_R _) dX9_setNumber_13 (tgt := 32) (by decide) (fun c4 => ?_) (fun c4 => ?_)
    · have h := h.1 ((bI_0 _).mp c4)
      exact G_vret rfl dX9_setNumber_32 ⟨rfl, h⟩ hO
    · have h := h.2 (bI_ne c4)
      refine G_aload_n 0 rfl rfl dX9_setNumber_16 ?_
      refine G_get (k := 8) (kd := (3, 4)) (v := aR ((t + 4))) gf_X9_37 rfl (shT ht) rfl rfl dX9_setNumber_17 ?_
      refine G_aload_n 0 rfl rfl dX9_setNumber_20 ?_
      refine G_get (k := 9) (kd := (0, 0)) (v := aI (σ t 9)) gf_X9_40 rfl (shT ht) rfl rfl dX9_setNumber_21 ?_
      refine G_iconst dX9_setNumber_24 ?_
      refine G_isub dX9_setNumber_25 ?_
      refine G_iconst dX9_setNumber_26 ?_
      refine G_imul dX9_setNumber_27 ?_
      refine G_iload_n 1 rfl rfl dX9_setNumber_28 ?_
      refine G_iadd dX9_setNumber_29 ?_
      refine G_iload_n 2 rfl rfl dX9_setNumber_30 ?_
      obtain ⟨c5, h⟩ := h
      obtain ⟨σ6, e8⟩ : ∃ τ : Mem, τ = mset σ (t + 4) ((((σ t 9) - 1) * 4) + x1) x2 := ⟨_, rfl⟩
      have h := h σ6 e8
      have o7 : OKm σ6 := by rw [e8]; exact OKm.seti hO _ _ _ hx2 (isLg_row (shT4 ht) _)
      refine G_iast (n := 96) (shT4 ht) c5.1 c5.2 dX9_setNumber_31 ?_
      rw [← e8]
      exact G_vret rfl dX9_setNumber_32 ⟨rfl, h⟩ o7

theorem sp_X9_setNumber (d : Nat) (hd : 1 ≤ d) (σ : Mem) (hO : OKm σ) (t : Nat) (ht : isText t) (x1 : Int) (hx1 : R32 x1) (x2 : Int) (hx2 : R32 x2) (hpre : 0 < σ t 9 ∧ σ t 9 ≤ 24 ∧ 0 ≤ x1 ∧ x1 ≤ 3) : Mt yX9_setNumber cX9_setNumber 3 none d [aR (t), aI (x1), aI (x2)] σ (QV (fun σ' => σ' = (mset σ (t + 4) ((σ t 9 - 1) * 4 + x1) x2))) := mt_X9_setNumber hd ht hx1 hx2 hO (by
  unfold wp_X9_setNumber
  refine ⟨fun h => absurd h (by omega), fun h => ⟨fun h2 => absurd ⟨by omega, by omega⟩ h2, fun h2 => ⟨by omega, fun σ6 e6 => by rw [e6]⟩⟩⟩)

def wp_X9_hasLaw (t : Nat) (x1 : Int) (σ : Mem) (Q : Int → Mem → Prop) : Prop :=
  ((x1 ≠ 9) →
    ((x1 ≠ 10) →
     Q 0 σ) ∧
    ((x1 = 10) →
     (((σ t 5) = (-1)) →
      Q 0 σ) ∧
     (((σ t 5) ≠ (-1)) →
      Q 1 σ))) ∧
   ((x1 = 9) →
    (((σ t 3) ≠ (-1)) →
     Q 1 σ) ∧
    (((σ t 3) = (-1)) →
     ((x1 ≠ 10) →
      Q 0 σ) ∧
     ((x1 = 10) →
      (((σ t 5) = (-1)) →
       Q 0 σ) ∧
      (((σ t 5) ≠ (-1)) →
       Q 1 σ))))
theorem mt_X9_hasLaw {d : Nat} (hd : 0 ≤ d) {t : Nat} {x1 : Int} {σ : Mem} {Q : Int → Mem → Prop} (ht : isText t) (hx1 : R32 x1) (hO : OKm σ) (h : wp_X9_hasLaw t x1 σ Q) : Mt yX9_hasLaw cX9_hasLaw 2 (some .boolean) d [aR (t), aI (x1)] σ (QI Q) := by
  refine Mt.intro (by decide +kernel) (Nat.le_of_ble_eq_true rfl) [(0, aR (t)), (1, aI (x1))] rfl ?_
  unfold wp_X9_hasLaw at h
  refine G_iload_n 1 rfl rfl dX9_hasLaw_0 ?_
  refine G_bipush (by decide) dX9_hasLaw_1 ?_
  refine G_icmp_ne hx1 (rL 9 rfl) dX9_hasLaw_3 (tgt := 14) (by decide) (fun c1 => ?_) (fun c1 => ?_)
  · have h := h.1 c1
    refine G_iload_n 1 rfl rfl dX9_hasLaw_14 ?_
    refine G_bipush (by decide) dX9_hasLaw_15 ?_
    refine G_icmp_ne hx1 (rL 10 rfl) dX9_hasLaw_17 (tgt := 32) (by decide) (fun c2 => ?_) (fun c2 => ?_)
    · have h := h.1 c2
      refine G_iconst dX9_hasLaw_32 ?_
      exact G_zret rfl (by decide) dX9_hasLaw_33 ⟨_, rfl, h⟩ hO
    · have h := h.2 c2
      refine G_aload_n 0 rfl rfl dX9_hasLaw_20 ?_
      refine G_get (k := 5) (kd := (0, 0)) (v := aI (σ t 5)) gf_X9_28 rfl (shT ht) rfl rfl dX9_hasLaw_21 ?_
      refine G_iconst dX9_hasLaw_24 ?_
      refine G_icmp_eq (OKm.i hO t 5 (lgT ht 5)) (rL (-1) rfl) dX9_hasLaw_25 (tgt := 32) (by decide) (fun c3 => ?_) (fun c3 => ?_)
      · have h := h.1 c3
        refine G_iconst dX9_hasLaw_32 ?_
        exact G_zret rfl (by decide) dX9_hasLaw_33 ⟨_, rfl, h⟩ hO
      · have h := h.2 c3
        refine G_iconst dX9_hasLaw_28 ?_
        refine G_goto (tgt := 33) dX9_hasLaw_29 (by decide) ?_
        exact G_zret rfl (by decide) dX9_hasLaw_33 ⟨_, rfl, h⟩ hO
  · have h := h.2 c1
    refine G_aload_n 0 rfl rfl dX9_hasLaw_6 ?_
    refine G_get (k := 3) (kd := (0, 0)) (v := aI (σ t 3)) gf_X9_22 rfl (shT ht) rfl rfl dX9_hasLaw_7 ?_
    refine G_iconst dX9_hasLaw_10 ?_
    refine G_icmp_ne (OKm.i hO t 3 (lgT ht 3)) (rL (-1) rfl) dX9_hasLaw_11 (tgt := 28) (by decide) (fun c4 => ?_) (fun c4 => ?_)
    · have h := h.1 c4
      refine G_iconst dX9_hasLaw_28 ?_
      refine G_goto (tgt := 33) dX9_hasLaw_29 (by decide) ?_
      exact G_zret rfl (by decide) dX9_hasLaw_33 ⟨_, rfl, h⟩ hO
    · have h := h.2 c4
      refine G_iload_n 1 rfl rfl dX9_hasLaw_14 ?_
      refine G_bipush (by decide) dX9_hasLaw_15 ?_
      refine G_icmp_ne hx1 (rL 10 rfl) dX9_hasLaw_17 (tgt := 32) (by decide) (fun c5 => ?_) (fun c5 => ?_)
      · have h := h.1 c5
        refine G_iconst dX9_hasLaw_32 ?_
        exact G_zret rfl (by decide) dX9_hasLaw_33 ⟨_, rfl, h⟩ hO
      · have h := h.2 c5
        refine G_aload_n 0 rfl rfl dX9_hasLaw_20 ?_
        refine G_get (k := 5) (kd := (0, 0)) (v := aI (σ t 5)) gf_X9_28 rfl (shT ht) rfl rfl dX9_hasLaw_21 ?_
        refine G_iconst dX9_hasLaw_24 ?_
        refine G_icmp_eq (OKm.i hO t 5 (lgT ht 5)) (rL (-1) rfl) dX9_hasLaw_25 (tgt := 32) (by decide) (fun c6 => ?_) (fun c6 => ?_)
        · have h := h.1 c6
          refine G_iconst dX9_hasLaw_32 ?_
          exact G_zret rfl (by decide) dX9_hasLaw_33 ⟨_, rfl, h⟩ hO
        · have h := h.2 c6
          refine G_iconst dX9_hasLaw_28 ?_
          refine G_goto (tgt := 33) dX9_hasLaw_29 (by decide) ?_
          exact G_zret rfl (by decide) dX9_hasLaw_33 ⟨_, rfl, h⟩ hO

theorem sp_X9_hasLaw (d : Nat) (hd : 0 ≤ d) (σ : Mem) (hO : OKm σ) (t : Nat) (ht : isText t) (x1 : Int) (hx1 : R32 x1) : Mt yX9_hasLaw cX9_hasLaw 2 (some .boolean) d [aR (t), aI (x1)] σ (QI (fun v σ' => bI ((x1 = 9 ∧ σ t 3 ≠ -1) ∨ (x1 = 10 ∧ σ t 5 ≠ -1)) = v ∧ σ = σ')) := mt_X9_hasLaw hd ht hx1 hO (by
  unfold wp_X9_hasLaw
  grind [bI])

def wp_X9_setLaw (t : Nat) (x1 : Int) (x2 : Int) (x3 : Int) (σ : Mem) (Q : Mem → Prop) : Prop :=
  ((x1 ≠ 9) →
    ∀ σ2 : Mem, σ2 = mset σ t 5 x2 →
    ∀ σ5 : Mem, σ5 = mset σ2 t 6 x3 →
    Q σ5) ∧
   ((x1 = 9) →
    ∀ σ8 : Mem, σ8 = mset σ t 3 x2 →
    ∀ σ11 : Mem, σ11 = mset σ8 t 4 x3 →
    Q σ11)
theorem mt_X9_setLaw {d : Nat} (hd : 0 ≤ d) {t : Nat} {x1 : Int} {x2 : Int} {x3 : Int} {σ : Mem} {Q : Mem → Prop} (ht : isText t) (hx1 : R32 x1) (hx2 : R32 x2) (hx3 : R32 x3) (hO : OKm σ) (h : wp_X9_setLaw t x1 x2 x3 σ Q) : Mt yX9_setLaw cX9_setLaw 4 none d [aR (t), aI (x1), aI (x2), aI (x3)] σ (QV Q) := by
  refine Mt.intro (by decide +kernel) (Nat.le_of_ble_eq_true rfl) [(0, aR (t)), (1, aI (x1)), (2, aI (x2)), (3, aI (x3))] rfl ?_
  unfold wp_X9_setLaw at h
  refine G_iload_n 1 rfl rfl dX9_setLaw_0 ?_
  refine G_bipush (by decide) dX9_setLaw_1 ?_
  refine G_icmp_ne hx1 (rL 9 rfl) dX9_setLaw_3 (tgt := 19) (by decide) (fun c1 => ?_) (fun c1 => ?_)
  · have h := h.1 c1
    refine G_aload_n 0 rfl rfl dX9_setLaw_19 ?_
    refine G_iload_n 2 rfl rfl dX9_setLaw_20 ?_
    obtain ⟨σ2, e4⟩ : ∃ τ : Mem, τ = mset σ t 5 x2 := ⟨_, rfl⟩
    have h := h σ2 e4
    have o3 : OKm σ2 := by rw [e4]; exact OKm.seti hO _ _ _ hx2 (lgT ht 5)
    refine G_put (k := 5) (ki := 5) (kd := (0, 0)) (x := _) pf_X9_28 rfl (shT ht) rfl rfl (fa_i (mset_self _ _ _ _)) (fun _ => rfl) (fun _ => rfl) dX9_setLaw_21 ?_
    rw [← e4]
    refine G_aload_n 0 rfl rfl dX9_setLaw_24 ?_
    refine G_iload_n 3 rfl rfl dX9_setLaw_25 ?_
    obtain ⟨σ5, e7⟩ : ∃ τ : Mem, τ = mset σ2 t 6 x3 := ⟨_, rfl⟩
    have h := h σ5 e7
    have o6 : OKm σ5 := by rw [e7]; exact OKm.seti o3 _ _ _ hx3 (lgT ht 6)
    refine G_put (k := 6) (ki := 6) (kd := (0, 0)) (x := _) pf_X9_31 rfl (shT ht) rfl rfl (fa_i (mset_self _ _ _ _)) (fun _ => rfl) (fun _ => rfl) dX9_setLaw_26 ?_
    rw [← e7]
    exact G_vret rfl dX9_setLaw_29 ⟨rfl, h⟩ o6
  · have h := h.2 c1
    refine G_aload_n 0 rfl rfl dX9_setLaw_6 ?_
    refine G_iload_n 2 rfl rfl dX9_setLaw_7 ?_
    obtain ⟨σ8, e10⟩ : ∃ τ : Mem, τ = mset σ t 3 x2 := ⟨_, rfl⟩
    have h := h σ8 e10
    have o9 : OKm σ8 := by rw [e10]; exact OKm.seti hO _ _ _ hx2 (lgT ht 3)
    refine G_put (k := 3) (ki := 3) (kd := (0, 0)) (x := _) pf_X9_22 rfl (shT ht) rfl rfl (fa_i (mset_self _ _ _ _)) (fun _ => rfl) (fun _ => rfl) dX9_setLaw_8 ?_
    rw [← e10]
    refine G_aload_n 0 rfl rfl dX9_setLaw_11 ?_
    refine G_iload_n 3 rfl rfl dX9_setLaw_12 ?_
    obtain ⟨σ11, e13⟩ : ∃ τ : Mem, τ = mset σ8 t 4 x3 := ⟨_, rfl⟩
    have h := h σ11 e13
    have o12 : OKm σ11 := by rw [e13]; exact OKm.seti o9 _ _ _ hx3 (lgT ht 4)
    refine G_put (k := 4) (ki := 4) (kd := (0, 0)) (x := _) pf_X9_25 rfl (shT ht) rfl rfl (fa_i (mset_self _ _ _ _)) (fun _ => rfl) (fun _ => rfl) dX9_setLaw_13 ?_
    rw [← e13]
    refine G_goto (tgt := 29) dX9_setLaw_16 (by decide) ?_
    exact G_vret rfl dX9_setLaw_29 ⟨rfl, h⟩ o12

theorem sp_X9_setLaw (d : Nat) (hd : 0 ≤ d) (σ : Mem) (hO : OKm σ) (t : Nat) (ht : isText t) (x1 : Int) (hx1 : R32 x1) (x2 : Int) (hx2 : R32 x2) (x3 : Int) (hx3 : R32 x3) : Mt yX9_setLaw cX9_setLaw 4 none d [aR (t), aI (x1), aI (x2), aI (x3)] σ (QV (fun σ' => σ' = (if x1 = 9 then mset (mset σ t 3 x2) t 4 x3 else mset (mset σ t 5 x2) t 6 x3))) := mt_X9_setLaw hd ht hx1 hx2 hx3 hO (by
  unfold wp_X9_setLaw
  refine ⟨fun h σ2 e2 σ5 e5 => by rw [if_neg h, e5, e2], fun h σ8 e8 σ11 e11 => by rw [if_pos h, e11, e8]⟩)
