def clrK : Nat → Nat → Nat
  | 0, s => s
  | k + 1, s => clrK k (s &&& (s - 1))
/-- the k-th of the set s, from 0 -/
def kthN (s k : Nat) : Nat := lowN 16 (clrK k s)
theorem clr_le (s : Nat) : s &&& (s - 1) ≤ s := Nat.and_le_left
theorem clrK_lt : ∀ (k s : Nat), clrK k s ≤ s
  | 0, s => Nat.le_refl s
  | k + 1, s => Nat.le_trans (clrK_lt k _) (clr_le s)
theorem clrK_pc : ∀ (k s : Nat), s < 65536 → k ≤ pcN 16 s → pcN 16 (clrK k s) + k = pcN 16 s
  | 0, s, _, _ => rfl
  | k + 1, s, hs, hk => by
    have h0 : s ≠ 0 := fun h => by rw [h, pcN_0] at hk; omega
    have h1 := clr_pc hs h0
    have h2 := clrK_pc k (s &&& (s - 1)) (Nat.lt_of_le_of_lt (clr_le s) hs) (by omega)
    show pcN 16 (clrK k (s &&& (s - 1))) + (k + 1) = _
    omega
theorem clrK_ne {k s : Nat} (hs : s < 65536) (hk : k < pcN 16 s) : clrK k s ≠ 0 := fun h => by
  have := clrK_pc k s hs (by omega)
  rw [h, pcN_0] at this
  omega
theorem clrK_bit : ∀ (k s j : Nat), (clrK k s).testBit j = true → s.testBit j = true
  | 0, _, _, h => h
  | k + 1, s, j, h => by
    have := clrK_bit k (s &&& (s - 1)) j h
    rw [Nat.testBit_and, Bool.and_eq_true] at this
    exact this.1
theorem kthN_bit {s k : Nat} (hs : s < 65536) (hk : k < pcN 16 s) : s.testBit (kthN s k) = true ∧ kthN s k < 16 := by
  have h := lowN_bit 16 (clrK k s) (clrK_ne hs hk) (Nat.lt_of_le_of_lt (clrK_lt k s) hs)
  exact ⟨clrK_bit k s _ h.1, h.2.1⟩
theorem bAnd_clr {n : Nat} (h : n < 65536) (h0 : n ≠ 0) : bAnd (n : Int) ((n : Int) - 1) = ((n &&& (n - 1) : Nat) : Int) := by
  rw [show ((n : Int) - 1) = ((n - 1 : Nat) : Int) by omega]
  exact bAnd_nat (by omega) (by omega)
theorem clrK_s (k s : Nat) : clrK (k + 1) s = clrK k s &&& (clrK k s - 1) := by
  induction k generalizing s with
  | zero => rfl
  | succ k ih => show clrK (k + 1) (s &&& (s - 1)) = _; rw [ih]; rfl

def wp_X0_bitAt (x1 : Int) (x2 : Int) (σ : Mem) (Q : Int → Mem → Prop) : Prop :=
 ∀ P4 : Int → Int → Int → Mem → Prop,
 (∀ (v1 : Int) (v2 : Int) (v3 : Int) (σ : Mem), (R32 v1 → R32 v2 → R32 v3 → OKm σ →
   ((v1 ≤ v3) →
     (0 < v2 ∧ v2 < 65536) ∧
     Q (((lowN 16 (v2).toNat : Nat) : Int)) σ) ∧
    ((v3 < v1) →
     R32 (v3 + 1) ∧ P4 v1 (bAnd v2 (v2 - 1)) (v3 + 1) σ)) → P4 v1 v2 v3 σ) →
  P4 x2 x1 0 σ
theorem mt_X0_bitAt {d : Nat} (hd : 1 ≤ d) {x1 : Int} {x2 : Int} {σ : Mem} {Q : Int → Mem → Prop} (hx1 : R32 x1) (hx2 : R32 x2) (hO : OKm σ) (h : wp_X0_bitAt x1 x2 σ Q) : Mt yX0_bitAt cX0_bitAt 4 (some .int) d [aI (x1), aI (x2)] σ (QI Q) := by
  refine Mt.intro (by decide +kernel) (Nat.le_of_ble_eq_true rfl) [(0, aI (x1)), (1, aI (x2))] rfl ?_
  unfold wp_X0_bitAt at h
  have h := h (fun (v1 : Int) (v2 : Int) (v3 : Int) (σ : Mem) => R32 v1 → R32 v2 → R32 v3 → OKm σ → G yX0_bitAt cX0_bitAt 4 (some .int) d (QI Q) 4 [(1, aI (v1)), (2, aI (v2)), (3, aI (v3))] [] σ) ?_
  · refine G_iload_n 0 rfl rfl dX0_bitAt_0 ?_
    refine G_istore_n (lv' := [(2, aI (x1)), (0, aI (x1)), (1, aI (x2))]) rfl rfl (by decide) dX0_bitAt_1 ?_
    refine G_iconst dX0_bitAt_2 ?_
    refine G_istore_n (lv' := [(3, aI (0)), (2, aI (x1)), (0, aI (x1)), (1, aI (x2))]) rfl rfl (by decide) dX0_bitAt_3 ?_
    exact G_pick [3, 1, 0] rfl (h hx2 hx1 (rL 0 rfl) hO)
  · intro v1 v2 v3 σ h hv1 hv2 hv3 hO
    have h := h hv1 hv2 hv3 hO
    refine G_iload_n 2 rfl rfl dX0_bitAt_4 ?_
    refine G_iload_n 0 rfl rfl dX0_bitAt_5 ?_
    refine G_icmp_ge hv3 hv1 dX0_bitAt_6 (tgt := 21) (by decide) (fun c1 => ?_) (fun c1 => ?_)
    · have h := h.1 c1
      refine G_iload_n 1 rfl rfl dX0_bitAt_21 ?_
      obtain ⟨c2, h⟩ := h
      refine G_callS (as := [_]) cf_X0_142 rfl (sp_J6_numberOfTrailingZeros_0f7a4 (d - 1) (by omega) _ hO _ hv2 c2) (by omega) rfl rfl (Nat.le_of_ble_eq_true rfl) dX0_bitAt_22 ?_
      rintro _ _ ⟨_, rfl, rfl, rfl⟩ o4 r3
      exact G_iret rfl (r3 _ rfl) dX0_bitAt_25 ⟨_, rfl, h⟩ hO
    · have h := h.2 c1
      refine G_iload_n 1 rfl rfl dX0_bitAt_9 ?_
      refine G_iload_n 1 rfl rfl dX0_bitAt_10 ?_
      refine G_iconst dX0_bitAt_11 ?_
      refine G_isub dX0_bitAt_12 ?_
      refine G_iand dX0_bitAt_13 ?_
      refine G_istore_n (lv' := [(2, aI ((bAnd v2 (v2 - 1)))), (1, aI (v1)), (3, aI (v3))]) rfl rfl (by decide) dX0_bitAt_14 ?_
      refine G_iinc (lv' := [(3, aI ((v3 + 1))), (2, aI ((bAnd v2 (v2 - 1)))), (1, aI (v1))]) (k := 2) rfl rfl (by decide) dX0_bitAt_15 ?_
      refine G_goto (tgt := 4) dX0_bitAt_18 (by decide) ?_
      obtain ⟨c5, h⟩ := h
      exact G_pick [2, 1, 0] rfl (h hv1 (r32_of _) c5 hO)

theorem sp_X0_bitAt (d : Nat) (hd : 1 ≤ d) (σ : Mem) (hO : OKm σ) (x1 : Int) (hx1 : R32 x1) (x2 : Int) (hx2 : R32 x2) (hpre : (0 ≤ x1 ∧ x1 < 65536) ∧ (0 ≤ x2 ∧ x2 < ((pcN 16 (x1).toNat : Nat) : Int))) : Mt yX0_bitAt cX0_bitAt 4 (some .int) d [aI (x1), aI (x2)] σ (QI (fun v σ' => (((kthN (x1).toNat (x2).toNat : Nat) : Int)) = v ∧ σ = σ')) := mt_X0_bitAt hd hx1 hx2 hO (by
  unfold wp_X0_bitAt
  intro P4 h4
  obtain ⟨s, rfl⟩ : ∃ s : Nat, x1 = s := ⟨x1.toNat, by omega⟩
  obtain ⟨K, rfl⟩ : ∃ K : Nat, x2 = K := ⟨x2.toNat, by omega⟩
  simp only [Int.toNat_natCast] at hpre h4 ⊢
  have hs : s < 65536 := by omega
  have hK : K < pcN 16 s := by omega
  have hle := pcN_le 16 s
  have H : ∀ (n k : Nat), k + n = K → P4 (K : Int) ((clrK k s : Nat) : Int) (k : Int) σ := by
    intro n
    induction n with
    | zero =>
      intro k hk
      have hk : k = K := by omega
      subst hk
      have hne := clrK_ne hs hK
      have hlt := clrK_lt k s
      refine h4 _ _ _ _ (fun _ _ _ _ => ⟨fun _ => ⟨by omega, ?_, rfl⟩, fun h => absurd h (by omega)⟩)
      rw [Int.toNat_natCast]; rfl
    | succ n ih =>
      intro k hk
      have hne := clrK_ne hs (show k < pcN 16 s by omega)
      have hlt := clrK_lt k s
      refine h4 _ _ _ _ (fun _ _ _ _ => ⟨fun h => absurd h (by omega), fun _ => ⟨by unfold R32; omega, ?_⟩⟩)
      rw [bAnd_clr (by omega) hne, ← clrK_s]
      exact ih (k + 1) (by omega)
  exact H K 0 (by omega))

def wp_X12_bits (x1 : Int) (σ : Mem) (Q : Int → Mem → Prop) : Prop :=
 ∀ P4 : Int → Int → Mem → Prop,
 (∀ (v1 : Int) (v2 : Int) (σ : Mem), (R32 v1 → R32 v2 → OKm σ →
   ((v2 = 0) →
     Q v1 σ) ∧
    ((v2 ≠ 0) →
     R32 (v1 + 1) ∧ P4 (v1 + 1) (bAnd v2 (v2 - 1)) σ)) → P4 v1 v2 σ) →
  P4 0 x1 σ
theorem mt_X12_bits {d : Nat} (hd : 0 ≤ d) {x1 : Int} {σ : Mem} {Q : Int → Mem → Prop} (hx1 : R32 x1) (hO : OKm σ) (h : wp_X12_bits x1 σ Q) : Mt yX12_bits cX12_bits 3 (some .int) d [aI (x1)] σ (QI Q) := by
  refine Mt.intro (by decide +kernel) (Nat.le_of_ble_eq_true rfl) [(0, aI (x1))] rfl ?_
  unfold wp_X12_bits at h
  have h := h (fun (v1 : Int) (v2 : Int) (σ : Mem) => R32 v1 → R32 v2 → OKm σ → G yX12_bits cX12_bits 3 (some .int) d (QI Q) 4 [(1, aI (v1)), (2, aI (v2))] [] σ) ?_
  · refine G_iconst dX12_bits_0 ?_
    refine G_istore_n (lv' := [(1, aI (0)), (0, aI (x1))]) rfl rfl (by decide) dX12_bits_1 ?_
    refine G_iload_n 1 rfl rfl dX12_bits_2 ?_
    refine G_istore_n (lv' := [(2, aI (x1)), (1, aI (0)), (0, aI (x1))]) rfl rfl (by decide) dX12_bits_3 ?_
    exact G_pick [1, 0] rfl (h (rL 0 rfl) hx1 hO)
  · intro v1 v2 σ h hv1 hv2 hO
    have h := h hv1 hv2 hO
    refine G_iload_n 1 rfl rfl dX12_bits_4 ?_
    refine G_if_eq hv2 dX12_bits_5 (tgt := 20) (by decide) (fun c1 => ?_) (fun c1 => ?_)
    · have h := h.1 c1
      refine G_iload_n 0 rfl rfl dX12_bits_20 ?_
      exact G_iret rfl hv1 dX12_bits_21 ⟨_, rfl, h⟩ hO
    · have h := h.2 c1
      refine G_iinc (lv' := [(1, aI ((v1 + 1))), (2, aI (v2))]) (k := 0) rfl rfl (by decide) dX12_bits_8 ?_
      refine G_iload_n 1 rfl rfl dX12_bits_11 ?_
      refine G_iload_n 1 rfl rfl dX12_bits_12 ?_
      refine G_iconst dX12_bits_13 ?_
      refine G_isub dX12_bits_14 ?_
      refine G_iand dX12_bits_15 ?_
      refine G_istore_n (lv' := [(2, aI ((bAnd v2 (v2 - 1)))), (1, aI ((v1 + 1)))]) rfl rfl (by decide) dX12_bits_16 ?_
      refine G_goto (tgt := 4) dX12_bits_17 (by decide) ?_
      obtain ⟨c2, h⟩ := h
      exact G_pick [1, 0] rfl (h c2 (r32_of _) hO)

theorem sp_X12_bits (d : Nat) (hd : 0 ≤ d) (σ : Mem) (hO : OKm σ) (x1 : Int) (hx1 : R32 x1) (hpre : 0 ≤ x1 ∧ x1 < 65536) : Mt yX12_bits cX12_bits 3 (some .int) d [aI (x1)] σ (QI (fun v σ' => (((pcN 16 (x1).toNat : Nat) : Int)) = v ∧ σ = σ')) := mt_X12_bits hd hx1 hO (by
  unfold wp_X12_bits
  intro P4 h4
  obtain ⟨s, rfl⟩ : ∃ s : Nat, x1 = s := ⟨x1.toNat, by omega⟩
  simp only [Int.toNat_natCast] at h4 ⊢
  have hs : s < 65536 := by omega
  have hle := pcN_le 16 s
  have H : ∀ (n k : Nat), k + n = pcN 16 s → P4 (k : Int) ((clrK k s : Nat) : Int) σ := by
    intro n
    induction n with
    | zero =>
      intro k hk
      have hpc := clrK_pc k s hs (by omega)
      have hlt := clrK_lt k s
      have hz : clrK k s = 0 := by
        by_cases h : clrK k s = 0
        · exact h
        · have := clr_pc (show clrK k s < 65536 by omega) h; omega
      rw [hz]
      refine h4 _ _ _ (fun _ _ _ => ⟨fun _ => ⟨by omega, rfl⟩, fun h => absurd rfl h⟩)
    | succ n ih =>
      intro k hk
      have hne := clrK_ne hs (show k < pcN 16 s by omega)
      have hlt := clrK_lt k s
      refine h4 _ _ _ (fun _ _ _ => ⟨fun h => absurd h (by omega), fun _ => ⟨by unfold R32; omega, ?_⟩⟩)
      rw [bAnd_clr (by omega) hne, ← clrK_s]
      exact ih (k + 1) (by omega)
  exact H (pcN 16 s) 0 (by omega))

theorem has_bit {n k : Nat} (hn : n < 2 ^ 31) (hk : k < 31) : bAnd (bShr (n : Int) (k : Int)) 1 = if n.testBit k = true then 1 else 0 := by
  rw [bShr_nat (by omega) hn]
  have := bAnd_nat (n := n / 2 ^ k) (m := 1) (Nat.lt_of_le_of_lt (Nat.div_le_self _ _) hn) (by omega)
  rw [show ((1 : Nat) : Int) = 1 from rfl] at this
  rw [this, Nat.and_one_is_mod, Nat.testBit_eq_decide_div_mod_eq]
  have h2 : n / 2 ^ k % 2 < 2 := Nat.mod_lt _ (by omega)
  by_cases h : n / 2 ^ k % 2 = 1
  · simp [h]
  · have : n / 2 ^ k % 2 = 0 := by omega
    simp [this]

def wp_X12_has (x1 : Int) (x2 : Int) (σ : Mem) (Q : Int → Mem → Prop) : Prop :=
  (((bAnd (bShr x1 x2) 1) ≠ 1) →
    Q 0 σ) ∧
   (((bAnd (bShr x1 x2) 1) = 1) →
    Q 1 σ)
theorem mt_X12_has {d : Nat} (hd : 0 ≤ d) {x1 : Int} {x2 : Int} {σ : Mem} {Q : Int → Mem → Prop} (hx1 : R32 x1) (hx2 : R32 x2) (hO : OKm σ) (h : wp_X12_has x1 x2 σ Q) : Mt yX12_has cX12_has 2 (some .boolean) d [aI (x1), aI (x2)] σ (QI Q) := by
  refine Mt.intro (by decide +kernel) (Nat.le_of_ble_eq_true rfl) [(0, aI (x1)), (1, aI (x2))] rfl ?_
  unfold wp_X12_has at h
  refine G_iload_n 0 rfl rfl dX12_has_0 ?_
  refine G_iload_n 1 rfl rfl dX12_has_1 ?_
  refine G_ishr dX12_has_2 ?_
  refine G_iconst dX12_has_3 ?_
  refine G_iand dX12_has_4 ?_
  refine G_iconst dX12_has_5 ?_
  refine G_icmp_ne (r32_of _) (rL 1 rfl) dX12_has_6 (tgt := 13) (by decide) (fun c1 => ?_) (fun c1 => ?_)
  · have h := h.1 c1
    refine G_iconst dX12_has_13 ?_
    exact G_zret rfl (by decide) dX12_has_14 ⟨_, rfl, h⟩ hO
  · have h := h.2 c1
    refine G_iconst dX12_has_9 ?_
    refine G_goto (tgt := 14) dX12_has_10 (by decide) ?_
    exact G_zret rfl (by decide) dX12_has_14 ⟨_, rfl, h⟩ hO

theorem sp_X12_has (d : Nat) (hd : 0 ≤ d) (σ : Mem) (hO : OKm σ) (x1 : Int) (hx1 : R32 x1) (x2 : Int) (hx2 : R32 x2) (hpre : (0 ≤ x1 ∧ x1 < 2147483648) ∧ (0 ≤ x2 ∧ x2 < 31)) : Mt yX12_has cX12_has 2 (some .boolean) d [aI (x1), aI (x2)] σ (QI (fun v σ' => bI ((x1).toNat.testBit (x2).toNat = true) = v ∧ σ = σ')) := mt_X12_has hd hx1 hx2 hO (by
  unfold wp_X12_has
  obtain ⟨s, rfl⟩ : ∃ s : Nat, x1 = s := ⟨x1.toNat, by omega⟩
  obtain ⟨k, rfl⟩ : ∃ k : Nat, x2 = k := ⟨x2.toNat, by omega⟩
  rw [has_bit (by omega) (by omega)]
  simp only [Int.toNat_natCast]
  unfold bI
  by_cases h : s.testBit k = true <;> simp [h])

def wp_X12_kth (x1 : Int) (x2 : Int) (σ : Mem) (Q : Int → Mem → Prop) : Prop :=
 ∀ P4 : Int → Int → Int → Mem → Prop,
 ∀ P23 : Int → Int → Mem → Prop,
 (∀ (v1 : Int) (v2 : Int) (v3 : Int) (σ : Mem), (R32 v1 → R32 v2 → R32 v3 → OKm σ →
   ((v1 ≤ v3) →
     P23 v2 0 σ) ∧
    ((v3 < v1) →
     R32 (v3 + 1) ∧ P4 v1 (bAnd v2 (v2 - 1)) (v3 + 1) σ)) → P4 v1 v2 v3 σ) →
 (∀ (v2 : Int) (v3 : Int) (σ : Mem), (R32 v2 → R32 v3 → OKm σ →
   ((0 ≤ v2 ∧ v2 < 2147483648) ∧ (0 ≤ v3 ∧ v3 < 31)) ∧
    (((v2).toNat.testBit (v3).toNat = true) →
     Q v3 σ) ∧
    ((¬ ((v2).toNat.testBit (v3).toNat = true)) →
     R32 (v3 + 1) ∧ P23 v2 (v3 + 1) σ)) → P23 v2 v3 σ) →
  P4 x2 x1 0 σ
theorem mt_X12_kth {d : Nat} (hd : 1 ≤ d) {x1 : Int} {x2 : Int} {σ : Mem} {Q : Int → Mem → Prop} (hx1 : R32 x1) (hx2 : R32 x2) (hO : OKm σ) (h : wp_X12_kth x1 x2 σ Q) : Mt yX12_kth cX12_kth 4 (some .int) d [aI (x1), aI (x2)] σ (QI Q) := by
  refine Mt.intro (by decide +kernel) (Nat.le_of_ble_eq_true rfl) [(0, aI (x1)), (1, aI (x2))] rfl ?_
  unfold wp_X12_kth at h
  have h := h (fun (v1 : Int) (v2 : Int) (v3 : Int) (σ : Mem) => R32 v1 → R32 v2 → R32 v3 → OKm σ → G yX12_kth cX12_kth 4 (some .int) d (QI Q) 4 [(1, aI (v1)), (2, aI (v2)), (3, aI (v3))] [] σ)
    (fun (v2 : Int) (v3 : Int) (σ : Mem) => R32 v2 → R32 v3 → OKm σ → G yX12_kth cX12_kth 4 (some .int) d (QI Q) 23 [(2, aI (v2)), (3, aI (v3))] [] σ) ?_ ?_
  · refine G_iload_n 0 rfl rfl dX12_kth_0 ?_
    refine G_istore_n (lv' := [(2, aI (x1)), (0, aI (x1)), (1, aI (x2))]) rfl rfl (by decide) dX12_kth_1 ?_
    refine G_iconst dX12_kth_2 ?_
    refine G_istore_n (lv' := [(3, aI (0)), (2, aI (x1)), (0, aI (x1)), (1, aI (x2))]) rfl rfl (by decide) dX12_kth_3 ?_
    exact G_pick [3, 1, 0] rfl (h hx2 hx1 (rL 0 rfl) hO)
  · intro v1 v2 v3 σ h hv1 hv2 hv3 hO
    have h := h hv1 hv2 hv3 hO
    refine G_iload_n 2 rfl rfl dX12_kth_4 ?_
    refine G_iload_n 0 rfl rfl dX12_kth_5 ?_
    refine G_icmp_ge hv3 hv1 dX12_kth_6 (tgt := 21) (by decide) (fun c1 => ?_) (fun c1 => ?_)
    · have h := h.1 c1
      refine G_iconst dX12_kth_21 ?_
      refine G_istore_n (lv' := [(3, aI (0)), (1, aI (v1)), (2, aI (v2))]) rfl rfl (by decide) dX12_kth_22 ?_
      exact G_pick [2, 0] rfl (h hv2 (rL 0 rfl) hO)
    · have h := h.2 c1
      refine G_iload_n 1 rfl rfl dX12_kth_9 ?_
      refine G_iload_n 1 rfl rfl dX12_kth_10 ?_
      refine G_iconst dX12_kth_11 ?_
      refine G_isub dX12_kth_12 ?_
      refine G_iand dX12_kth_13 ?_
      refine G_istore_n (lv' := [(2, aI ((bAnd v2 (v2 - 1)))), (1, aI (v1)), (3, aI (v3))]) rfl rfl (by decide) dX12_kth_14 ?_
      refine G_iinc (lv' := [(3, aI ((v3 + 1))), (2, aI ((bAnd v2 (v2 - 1)))), (1, aI (v1))]) (k := 2) rfl rfl (by decide) dX12_kth_15 ?_
      refine G_goto (tgt := 4) dX12_kth_18 (by decide) ?_
      obtain ⟨c2, h⟩ := h
      exact G_pick [2, 1, 0] rfl (h hv1 (r32_of _) c2 hO)
  · intro v2 v3 σ h hv2 hv3 hO
    have h := h hv2 hv3 hO
    refine G_iload_n 0 rfl rfl dX12_kth_23 ?_
    refine G_iload_n 1 rfl rfl dX12_kth_24 ?_
    obtain ⟨c3, h⟩ := h
    refine G_callS (as := [_, _]) cf_X12_258 rfl (sp_X12_has (d - 1) (by omega) _ hO _ hv2 _ hv3 c3) (by omega) rfl rfl (Nat.le_of_ble_eq_true rfl) dX12_kth_25 ?_
    rintro _ _ ⟨_, rfl, rfl, rfl⟩ o5 r4
    refine G_if_ne (bI_R _) dX12_kth_28 (tgt := 37) (by decide) (fun c6 => ?_) (fun c6 => ?_)
    · have h := h.1 (bI_ne c6)
      refine G_iload_n 1 rfl rfl dX12_kth_37 ?_
      exact G_iret rfl hv3 dX12_kth_38 ⟨_, rfl, h⟩ hO
    · have h := h.2 ((bI_0 _).mp c6)
      refine G_iinc (lv' := [(3, aI ((v3 + 1))), (2, aI (v2))]) (k := 1) rfl rfl (by decide) dX12_kth_31 ?_
      refine G_goto (tgt := 23) dX12_kth_34 (by decide) ?_
      obtain ⟨c7, h⟩ := h
      exact G_pick [1, 0] rfl (h hv2 c7 hO)

theorem sp_X12_kth (d : Nat) (hd : 1 ≤ d) (σ : Mem) (hO : OKm σ) (x1 : Int) (hx1 : R32 x1) (x2 : Int) (hx2 : R32 x2) (hpre : (0 ≤ x1 ∧ x1 < 65536) ∧ (0 ≤ x2 ∧ x2 < ((pcN 16 (x1).toNat : Nat) : Int))) : Mt yX12_kth cX12_kth 4 (some .int) d [aI (x1), aI (x2)] σ (QI (fun v σ' => (((kthN (x1).toNat (x2).toNat : Nat) : Int)) = v ∧ σ = σ')) := mt_X12_kth hd hx1 hx2 hO (by
  unfold wp_X12_kth
  intro P4 P23 h4 h23
  obtain ⟨s, rfl⟩ : ∃ s : Nat, x1 = s := ⟨x1.toNat, by omega⟩
  obtain ⟨K, rfl⟩ : ∃ K : Nat, x2 = K := ⟨x2.toNat, by omega⟩
  simp only [Int.toNat_natCast] at hpre h23 ⊢
  have hs : s < 65536 := by omega
  have hK : K < pcN 16 s := by omega
  have hle := pcN_le 16 s
  have hne := clrK_ne hs hK
  have hlt := clrK_lt K s
  have hlow := lowN_bit 16 (clrK K s) hne (by omega)
  have H2 : ∀ (n r : Nat), r + n = kthN s K → P23 ((clrK K s : Nat) : Int) (r : Int) σ := by
    intro n
    induction n with
    | zero =>
      intro r hr
      have hr : r = kthN s K := by omega
      subst hr
      have hl2 : kthN s K < 16 := hlow.2.1
      refine h23 _ _ _ (fun _ _ _ => ⟨by omega, fun _ => ⟨rfl, rfl⟩, fun h => absurd ?_ h⟩)
      simp only [Int.toNat_natCast]
      exact hlow.1
    | succ n ih =>
      intro r hr
      have hl2 : kthN s K < 16 := hlow.2.1
      refine h23 _ _ _ (fun _ _ _ => ⟨by omega, fun h => absurd h ?_, fun _ => ⟨by unfold R32; omega, ih (r + 1) (by omega)⟩⟩)
      simp only [Int.toNat_natCast]
      have := hlow.2.2 r (by unfold kthN at hr; omega)
      rw [this]; simp
  have H : ∀ (n k : Nat), k + n = K → P4 (K : Int) ((clrK k s : Nat) : Int) (k : Int) σ := by
    intro n
    induction n with
    | zero =>
      intro k hk
      have hk : k = K := by omega
      subst hk
      exact h4 _ _ _ _ (fun _ _ _ _ => ⟨fun _ => H2 _ 0 (Nat.zero_add _), fun h => absurd h (by omega)⟩)
    | succ n ih =>
      intro k hk
      have hne := clrK_ne hs (show k < pcN 16 s by omega)
      have hlt := clrK_lt k s
      refine h4 _ _ _ _ (fun _ _ _ _ => ⟨fun h => absurd h (by omega), fun _ => ⟨by unfold R32; omega, ?_⟩⟩)
      rw [bAnd_clr (by omega) hne, ← clrK_s]
      exact ih (k + 1) (by omega)
  exact H K 0 (by omega))
