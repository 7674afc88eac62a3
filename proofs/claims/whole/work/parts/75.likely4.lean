theorem dv16 {g : Int} (h : 1 ≤ g ∧ g ≤ 16) : g ∣ 720720 := by
  have : g = 1 ∨ g = 2 ∨ g = 3 ∨ g = 4 ∨ g = 5 ∨ g = 6 ∨ g = 7 ∨ g = 8 ∨ g = 9 ∨ g = 10 ∨ g = 11 ∨ g = 12 ∨ g = 13 ∨ g = 14 ∨ g = 15 ∨ g = 16 := by omega
  rcases this with rfl | rfl | rfl | rfl | rfl | rfl | rfl | rfl | rfl | rfl | rfl | rfl | rfl | rfl | rfl | rfl <;> decide
theorem deg_16 {A : Mem} (hI : InvA A) (t : Int) : degS A t ≤ 16 := by
  have := (degN_r A t (A 10 0).toNat).2
  have := hI.1
  unfold degS; omega
theorem dvA_all {A : Mem} (hI : InvA A) : dvA A 720720 := fun t => by
  have h1 := deg_nn A t
  have h2 := deg_16 hI t
  by_cases e : degS A t = 0
  · exact .inl e
  · exact .inr (dv16 (by omega))
theorem deg_out {A : Mem} (hI : InvA A) {t : Int} (ht : t < 0 ∨ 7 < t) : ∀ n : Nat, (n : Int) ≤ A 10 0 → degN A t n = 0
  | 0, _ => rfl
  | n + 1, h => by
    have k1 := hI.2.1 (n : Int) (by omega) (by omega)
    show degN A t n + (if netR A t (n : Int) = true then 1 else 0) = 0
    rw [deg_out hI ht n (by omega), if_neg (by unfold netR; rw [decide_eq_true_eq]; omega)]; rfl
theorem dvA_of {A : Mem} (hI : InvA A) {M : Int} (h : ∀ t : Int, 0 ≤ t → t < 8 → max 1 (degS A t) ∣ M) : dvA A M := fun t => by
  have hc := hI.1
  have h1 := deg_nn A t
  by_cases e : 0 ≤ t ∧ t < 8
  · have := h t e.1 e.2
    by_cases e2 : degS A t = 0
    · exact .inl e2
    · rw [Int.max_eq_right (by omega)] at this; exact .inr this
  · exact .inl (deg_out hI (by omega) _ (by omega))
theorem lcmI {m n K : Int} (hm : 0 < m) (hn : 0 < n) (h1 : m ∣ K) (h2 : n ∣ K) : ∃ l : Int, Int.tdiv m (max 1 (gcdI m n)) * n = l ∧ 0 < l ∧ m ∣ l ∧ n ∣ l ∧ l ∣ K := by
  have hg := gcdI_pos (a := m) hn
  rw [Int.max_eq_right (by omega), Int.tdiv_eq_ediv_of_nonneg (by omega)]
  obtain ⟨a, rfl⟩ := Int.eq_ofNat_of_zero_le (Int.le_of_lt hm)
  obtain ⟨b, rfl⟩ := Int.eq_ofNat_of_zero_le (Int.le_of_lt hn)
  have e : ((a : Int) / gcdI (a : Int) (b : Int)) * (b : Int) = ((Nat.lcm a b : Nat) : Int) := by
    unfold gcdI
    rw [Int.toNat_natCast, Int.toNat_natCast, ← Int.natCast_ediv, ← Int.natCast_mul]
    congr 1
    unfold Nat.lcm
    exact Nat.div_mul_right_comm (Nat.gcd_dvd_left a b) b
  refine ⟨_, e, ?_, Int.natCast_dvd_natCast.mpr (Nat.dvd_lcm_left a b), Int.natCast_dvd_natCast.mpr (Nat.dvd_lcm_right a b), ?_⟩
  · have := Nat.lcm_pos (m := a) (n := b) (by omega) (by omega); omega
  · rw [← Int.natAbs_dvd_natAbs] at h1 h2 ⊢
    exact Nat.lcm_dvd h1 h2
theorem pw3 {m : Int} (hm : 0 < m ∧ m ≤ 720720) : ∀ k : Nat, k ≤ 3 → 0 < m ^ k ∧ m ^ k ≤ 374368864117248000
  | 0, _ => by rw [Int.pow_zero]; omega
  | 1, _ => by rw [Int.pow_one]; omega
  | 2, _ => by
    rw [Int.pow_succ, Int.pow_one]
    have := Int.mul_pos hm.1 hm.1
    have := Int.mul_le_mul hm.2 hm.2 (by omega) (by omega)
    omega
  | 3, _ => by
    rw [Int.pow_succ, Int.pow_succ, Int.pow_one]
    have h1 := Int.mul_pos hm.1 hm.1
    have h2 := Int.mul_le_mul hm.2 hm.2 (by omega) (by omega)
    have h3 := Int.mul_pos h1 hm.1
    have h4 := Int.mul_le_mul h2 hm.2 (by omega) (by omega)
    omega
theorem dv_bd {m : Int} (h : m ∣ 720720) : m ≤ 720720 := Int.le_of_dvd (by omega) h

def wp_X4_chance (x1 : Int) (x2 : Int) (x3 : Int) (x4 : Int) (σ : Mem) (Q : Int → Mem → Prop) : Prop :=
 ∀ P6 : Int → Int → Int → Int → Int → Int → Mem → Prop,
 ∀ P73 : Int → Int → Int → Int → Int → Int → Mem → Prop,
 (∀ (v1 : Int) (v2 : Int) (v3 : Int) (v4 : Int) (v5 : Int) (v7 : Int) (σ : Mem), (R32 v1 → R32 v2 → R32 v3 → R32 v4 → R64 v5 → R32 v7 → OKm σ →
   ((8 ≤ v7) →
     ∃ q2 : Nat, isRow q2 ∧ σ 40 8 = (q2 : Int) ∧
     ∀ σ7 : Mem, OKm σ7 → ((∀ i : Int, 0 ≤ i → i < 8 → σ7 q2 i = (0 : Int)) ∧ Fr [q2] σ σ7) →
     ∃ q10 : Nat, isRow q10 ∧ σ7 40 8 = (q10 : Int) ∧
     (0 ≤ v1 ∧ v1 < 8) ∧
     ∀ σ14 : Mem, σ14 = mset σ7 q10 v1 1 →
     P73 v2 v3 v4 v5 1 0 σ14) ∧
    ((v7 < 8) →
     ∃ g17 : Mem, ∃ g18 : Nat → Txt, (vwC σ g17 g18) ∧
     ∀ (u23 : Int) (σ22 : Mem), R32 u23 → OKm σ22 → (u23 = degS g17 v7 ∧ σ22 = σ) →
     (0 ≤ v5 ∧ 0 ≤ (max 1 u23)) ∧
     ((max 1 (gcdI v5 (max 1 u23))) ≠ 0) ∧
     R64 ((Int.tdiv v5 (max 1 (gcdI v5 (max 1 u23)))) * (max 1 u23)) ∧
     ∀ y30 : Int, y30 = ((Int.tdiv v5 (max 1 (gcdI v5 (max 1 u23)))) * (max 1 u23)) →
     R32 (v7 + 1) ∧ P6 v1 v2 v3 v4 y30 (v7 + 1) σ22)) → P6 v1 v2 v3 v4 v5 v7 σ) →
 (∀ (v2 : Int) (v3 : Int) (v4 : Int) (v5 : Int) (v7 : Int) (v9 : Int) (σ : Mem), (R32 v2 → R32 v3 → R32 v4 → R64 v5 → R64 v7 → R32 v9 → OKm σ →
   ((v2 ≤ v9) →
     ∃ q33 : Nat, isRow q33 ∧ σ 40 8 = (q33 : Int) ∧
     (0 ≤ v3 ∧ v3 < 8) ∧
     (0 ≤ (σ q33 v3) ∧ 0 ≤ v7) ∧
     ∀ y40 : Int, y40 = (max 1 (gcdI (σ q33 v3) v7)) →
     ((v4 = 0) →
      ∃ q42 : Nat, isRow q42 ∧ σ 40 8 = (q42 : Int) ∧
      (0 ≤ v3 ∧ v3 < 8) ∧
      (y40 ≠ 0) ∧
      R64 (Int.tdiv (σ q42 v3) y40) ∧
      Q (Int.tdiv (σ q42 v3) y40) σ) ∧
     ((v4 ≠ 0) →
      (y40 ≠ 0) ∧
      R64 (Int.tdiv v7 y40) ∧
      Q (Int.tdiv v7 y40) σ)) ∧
    ((v9 < v2) →
     ∃ g50 : Mem, ∃ g51 : Nat → Txt, ∃ g52 : Int → Int, (vwC σ g50 g51 ∧ netC σ ∧ chR σ g52 ∧ (0 < v5) ∧ dvA g50 v5 ∧ (∀ t, 0 ≤ g52 t) ∧ sm8 g52 * v5 ≤ 4611686018427387904) ∧
     ∀ σ56 : Mem, OKm σ56 → (vwC σ56 g50 g51 ∧ netC σ56 ∧ chR σ56 (wkN g50 v5 g52 8) ∧ (∀ j : Int, j ≠ 8 → j ≠ 9 → σ56 40 j = σ 40 j) ∧ Fr [40, 47, 48] σ σ56) →
     R64 (v7 * v5) ∧ R32 (v9 + 1) ∧ P73 v2 v3 v4 v5 (v7 * v5) (v9 + 1) σ56)) → P73 v2 v3 v4 v5 v7 v9 σ) →
  P6 x1 x2 x3 x4 1 0 σ
theorem mt_X4_chance {d : Nat} (hd : 3 ≤ d) {x1 : Int} {x2 : Int} {x3 : Int} {x4 : Int} {σ : Mem} {Q : Int → Mem → Prop} (hx1 : R32 x1) (hx2 : R32 x2) (hx3 : R32 x3) (hx4 : R32 x4) (hO : OKm σ) (h : wp_X4_chance x1 x2 x3 x4 σ Q) : Mt yX4_chance cX4_chance 11 (some .long) d [aR (40), aI (x1), aI (x2), aI (x3), aI (x4)] σ (QL Q) := by
  refine Mt.intro (by decide +kernel) (Nat.le_of_ble_eq_true rfl) [(0, aR (40)), (1, aI (x1)), (2, aI (x2)), (3, aI (x3)), (4, aI (x4))] rfl ?_
  unfold wp_X4_chance at h
  have h := h (fun (v1 : Int) (v2 : Int) (v3 : Int) (v4 : Int) (v5 : Int) (v7 : Int) (σ : Mem) => R32 v1 → R32 v2 → R32 v3 → R32 v4 → R64 v5 → R32 v7 → OKm σ → G yX4_chance cX4_chance 11 (some .long) d (QL Q) 6 [(0, aR (40)), (1, aI (v1)), (2, aI (v2)), (3, aI (v3)), (4, aI (v4)), (5, aL (v5)), (7, aI (v7))] [] σ)
    (fun (v2 : Int) (v3 : Int) (v4 : Int) (v5 : Int) (v7 : Int) (v9 : Int) (σ : Mem) => R32 v2 → R32 v3 → R32 v4 → R64 v5 → R64 v7 → R32 v9 → OKm σ → G yX4_chance cX4_chance 11 (some .long) d (QL Q) 73 [(0, aR (40)), (2, aI (v2)), (3, aI (v3)), (4, aI (v4)), (5, aL (v5)), (7, aL (v7)), (9, aI (v9))] [] σ) ?_ ?_
  · refine G_lconst (n := 1) (by decide) dX4_chance_0 ?_
    refine G_lstore (lv' := [(5, aL (1)), (0, aR (40)), (1, aI (x1)), (2, aI (x2)), (3, aI (x3)), (4, aI (x4))]) rfl (by decide) dX4_chance_1 ?_
    refine G_iconst dX4_chance_3 ?_
    refine G_istore (lv' := [(7, aI (0)), (5, aL (1)), (0, aR (40)), (1, aI (x1)), (2, aI (x2)), (3, aI (x3)), (4, aI (x4))]) rfl (by decide) dX4_chance_4 ?_
    exact G_pick [2, 3, 4, 5, 6, 1, 0] rfl (h hx1 hx2 hx3 hx4 (rLL 1 rfl) (rL 0 rfl) hO)
  · intro v1 v2 v3 v4 v5 v7 σ h hv1 hv2 hv3 hv4 hv5 hv7 hO
    have h := h hv1 hv2 hv3 hv4 hv5 hv7 hO
    refine G_iload 6 rfl dX4_chance_6 ?_
    refine G_bipush (by decide) dX4_chance_8 ?_
    refine G_icmp_ge hv7 (rL 8 rfl) dX4_chance_10 (tgt := 52) (by decide) (fun c1 => ?_) (fun c1 => ?_)
    · have h := h.1 c1
      refine G_aload_n 0 rfl rfl dX4_chance_52 ?_
      obtain ⟨q2, c3, c4, h⟩ := h
      refine G_get (k := 8) (kd := (4, 0)) (v := aR q2) gf_X4_30 rfl rfl rfl (fa_row c3 c4) dX4_chance_53 ?_
      refine G_lconst (n := 0) (by decide) dX4_chance_56 ?_
      refine G_callS (as := [_, _]) cf_X4_153 rfl (sp_J7_fill_d0a16_r (d - 1) (by omega) _ hO _ c3 _ (rLL 0 rfl)) (by omega) rfl rfl (Nat.le_of_ble_eq_true rfl) dX4_chance_57 ?_
      rintro _ σ7 ⟨rfl, z9⟩ o6 r5
      have h := h _ o6 z9
      refine G_aload_n 0 rfl rfl dX4_chance_60 ?_
      obtain ⟨q10, c11, c12, h⟩ := h
      refine G_get (k := 8) (kd := (4, 0)) (v := aR q10) gf_X4_30 rfl rfl rfl (fa_row c11 c12) dX4_chance_61 ?_
      refine G_iload_n 1 rfl rfl dX4_chance_64 ?_
      refine G_lconst (n := 1) (by decide) dX4_chance_65 ?_
      obtain ⟨c13, h⟩ := h
      obtain ⟨σ14, e16⟩ : ∃ τ : Mem, τ = mset σ7 q10 v1 1 := ⟨_, rfl⟩
      have h := h σ14 e16
      have o15 : OKm σ14 := by rw [e16]; exact OKm.setl o6 _ _ _ (rLL 1 rfl) (isLg_rowL (shRow c11) _)
      refine G_last (n := 8) (shRow c11) c13.1 c13.2 dX4_chance_66 ?_
      rw [← e16]
      refine G_lconst (n := 1) (by decide) dX4_chance_67 ?_
      refine G_lstore (lv' := [(7, aL (1)), (0, aR (40)), (1, aI (v1)), (2, aI (v2)), (3, aI (v3)), (4, aI (v4)), (5, aL (v5))]) rfl (by decide) dX4_chance_68 ?_
      refine G_iconst dX4_chance_70 ?_
      refine G_istore (lv' := [(9, aI (0)), (7, aL (1)), (0, aR (40)), (1, aI (v1)), (2, aI (v2)), (3, aI (v3)), (4, aI (v4)), (5, aL (v5))]) rfl (by decide) dX4_chance_71 ?_
      exact G_pick [2, 4, 5, 6, 7, 1, 0] rfl (h hv2 hv3 hv4 hv5 (rLL 1 rfl) (rL 0 rfl) o15)
    · have h := h.2 c1
      refine G_iconst dX4_chance_13 ?_
      refine G_aload_n 0 rfl rfl dX4_chance_14 ?_
      refine G_iload 6 rfl dX4_chance_15 ?_
      obtain ⟨g17, g18, c19, h⟩ := h
      refine G_callV (as := [_]) cf_X4_106 rfl rfl rfl (sp_X4_roadsAt (d - 1) (by omega) _ hO _ hv7 g17 g18 c19) (by omega) rfl rfl (Nat.le_of_ble_eq_true rfl) dX4_chance_17 ?_
      rintro _ σ22 ⟨u23, rfl, z24⟩ o21 r20
      have h := h _ _ (r20 _ rfl) o21 z24
      refine G_mmax rfl (rL 1 rfl) (r20 _ rfl) (Nat.le_of_ble_eq_true rfl) sf_X4_96 dX4_chance_20 ?_
      refine G_istore (lv' := [(8, aI ((max 1 u23))), (0, aR (40)), (1, aI (v1)), (2, aI (v2)), (3, aI (v3)), (4, aI (v4)), (5, aL (v5)), (7, aI (v7))]) rfl (by decide) dX4_chance_23 ?_
      refine G_lload 6 rfl dX4_chance_25 ?_
      refine G_lconst (n := 1) (by decide) dX4_chance_27 ?_
      refine G_lload 6 rfl dX4_chance_28 ?_
      refine G_iload 0 rfl dX4_chance_30 ?_
      refine G_i2l (r32_max (rL 1 rfl) (r20 _ rfl)) dX4_chance_32 ?_
      obtain ⟨c25, h⟩ := h
      refine G_callS (as := [_, _]) cf_X4_145 rfl (sp_X2_commonPart (d - 1) (by omega) _ o21 _ hv5 _ (r32_64 (r32_max (rL 1 rfl) (r20 _ rfl))) c25) (by omega) rfl rfl (Nat.le_of_ble_eq_true rfl) dX4_chance_33 ?_
      rintro _ _ ⟨_, rfl, rfl, rfl⟩ o27 r26
      refine G_mmaxL rfl (rLL 1 rfl) (r26 _ rfl) (Nat.le_of_ble_eq_true rfl) sf_X4_151 dX4_chance_36 ?_
      obtain ⟨c28, h⟩ := h
      refine G_ldiv hv5 (r64_max (rLL 1 rfl) (r26 _ rfl)) c28 dX4_chance_39 ?_
      refine G_iload 0 rfl dX4_chance_40 ?_
      refine G_i2l (r32_max (rL 1 rfl) (r20 _ rfl)) dX4_chance_42 ?_
      refine G_lmul dX4_chance_43 ?_
      obtain ⟨c29, h⟩ := h
      have h := h _ rfl
      refine G_lstore (lv' := [(5, aL ((((Int.tdiv v5 (max 1 (gcdI v5 (max 1 u23)))) * (max 1 u23))))), (8, aI ((max 1 u23))), (0, aR (40)), (1, aI (v1)), (2, aI (v2)), (3, aI (v3)), (4, aI (v4)), (7, aI (v7))]) rfl (by decide) dX4_chance_44 ?_
      refine G_iinc (lv' := [(7, aI ((v7 + 1))), (5, aL ((((Int.tdiv v5 (max 1 (gcdI v5 (max 1 u23)))) * (max 1 u23))))), (8, aI ((max 1 u23))), (0, aR (40)), (1, aI (v1)), (2, aI (v2)), (3, aI (v3)), (4, aI (v4))]) (k := 7) rfl rfl (by decide) dX4_chance_46 ?_
      refine G_goto (tgt := 6) dX4_chance_49 (by decide) ?_
      obtain ⟨c31, h⟩ := h
      exact G_pick [3, 4, 5, 6, 7, 1, 0] rfl (h hv1 hv2 hv3 hv4 c29 c31 o21)
  · intro v2 v3 v4 v5 v7 v9 σ h hv2 hv3 hv4 hv5 hv7 hv9 hO
    have h := h hv2 hv3 hv4 hv5 hv7 hv9 hO
    refine G_iload 6 rfl dX4_chance_73 ?_
    refine G_iload_n 1 rfl rfl dX4_chance_75 ?_
    refine G_icmp_ge hv9 hv2 dX4_chance_76 (tgt := 98) (by decide) (fun c32 => ?_) (fun c32 => ?_)
    · have h := h.1 c32
      refine G_lconst (n := 1) (by decide) dX4_chance_98 ?_
      refine G_aload_n 0 rfl rfl dX4_chance_99 ?_
      obtain ⟨q33, c34, c35, h⟩ := h
      refine G_get (k := 8) (kd := (4, 0)) (v := aR q33) gf_X4_30 rfl rfl rfl (fa_row c34 c35) dX4_chance_100 ?_
      refine G_iload_n 2 rfl rfl dX4_chance_103 ?_
      obtain ⟨c36, h⟩ := h
      refine G_lald (n := 8) (shRow c34) c36.1 c36.2 dX4_chance_104 ?_
      refine G_lload 5 rfl dX4_chance_105 ?_
      obtain ⟨c37, h⟩ := h
      refine G_callS (as := [_, _]) cf_X4_145 rfl (sp_X2_commonPart (d - 1) (by omega) _ hO _ (OKm.l hO q33 v3 (isLg_rowL (shRow c34) _)) _ hv7 c37) (by omega) rfl rfl (Nat.le_of_ble_eq_true rfl) dX4_chance_107 ?_
      rintro _ _ ⟨_, rfl, rfl, rfl⟩ o39 r38
      refine G_mmaxL rfl (rLL 1 rfl) (r38 _ rfl) (Nat.le_of_ble_eq_true rfl) sf_X4_151 dX4_chance_110 ?_
      have h := h _ rfl
      refine G_lstore (lv' := [(9, aL (((max 1 (gcdI (σ q33 v3) v7))))), (0, aR (40)), (2, aI (v2)), (3, aI (v3)), (4, aI (v4)), (5, aL (v5)), (7, aL (v7))]) rfl (by decide) dX4_chance_113 ?_
      refine G_iload 4 rfl dX4_chance_115 ?_
      refine G_if_eq hv4 dX4_chance_117 (tgt := 125) (by decide) (fun c41 => ?_) (fun c41 => ?_)
      · have h := h.1 c41
        refine G_aload_n 1 rfl rfl dX4_chance_125 ?_
        obtain ⟨q42, c43, c44, h⟩ := h
        refine G_get (k := 8) (kd := (4, 0)) (v := aR q42) gf_X4_30 rfl rfl rfl (fa_row c43 c44) dX4_chance_126 ?_
        refine G_iload_n 3 rfl rfl dX4_chance_129 ?_
        obtain ⟨c45, h⟩ := h
        refine G_lald (n := 8) (shRow c43) c45.1 c45.2 dX4_chance_130 ?_
        refine G_lload 0 rfl dX4_chance_131 ?_
        obtain ⟨c46, h⟩ := h
        refine G_ldiv (OKm.l hO q42 v3 (isLg_rowL (shRow c43) _)) (r64_max (rLL 1 rfl) (r38 _ rfl)) c46 dX4_chance_133 ?_
        obtain ⟨c47, h⟩ := h
        exact G_lret rfl c47 dX4_chance_134 ⟨_, rfl, h⟩ hO
      · have h := h.2 c41
        refine G_lload 6 rfl dX4_chance_120 ?_
        refine G_goto (tgt := 131) dX4_chance_122 (by decide) ?_
        refine G_lload 0 rfl dX4_chance_131 ?_
        obtain ⟨c48, h⟩ := h
        refine G_ldiv hv7 (r64_max (rLL 1 rfl) (r38 _ rfl)) c48 dX4_chance_133 ?_
        obtain ⟨c49, h⟩ := h
        exact G_lret rfl c49 dX4_chance_134 ⟨_, rfl, h⟩ hO
    · have h := h.2 c32
      refine G_aload_n 0 rfl rfl dX4_chance_79 ?_
      refine G_lload 4 rfl dX4_chance_80 ?_
      obtain ⟨g50, g51, g52, c53, h⟩ := h
      refine G_callV (as := [_]) cf_X4_156 rfl rfl rfl (sp_X4_wander (d - 1) (by omega) _ hO _ hv5 g50 g51 g52 c53) (by omega) rfl rfl (Nat.le_of_ble_eq_true rfl) dX4_chance_82 ?_
      rintro _ σ56 ⟨rfl, z58⟩ o55 r54
      have h := h _ o55 z58
      refine G_lload 5 rfl dX4_chance_85 ?_
      refine G_lload 4 rfl dX4_chance_87 ?_
      refine G_lmul dX4_chance_89 ?_
      refine G_lstore (lv' := [(7, aL ((v7 * v5))), (0, aR (40)), (2, aI (v2)), (3, aI (v3)), (4, aI (v4)), (5, aL (v5)), (9, aI (v9))]) rfl (by decide) dX4_chance_90 ?_
      refine G_iinc (lv' := [(9, aI ((v9 + 1))), (7, aL ((v7 * v5))), (0, aR (40)), (2, aI (v2)), (3, aI (v3)), (4, aI (v4)), (5, aL (v5))]) (k := 6) rfl rfl (by decide) dX4_chance_92 ?_
      refine G_goto (tgt := 73) dX4_chance_95 (by decide) ?_
      obtain ⟨c59, h⟩ := h
      obtain ⟨c60, h⟩ := h
      exact G_pick [2, 3, 4, 5, 6, 1, 0] rfl (h hv2 hv3 hv4 hv5 c59 c60 o55)

theorem sp_X4_chance (d : Nat) (hd : 3 ≤ d) (σ : Mem) (hO : OKm σ) (x1 : Int) (hx1 : R32 x1) (x2 : Int) (hx2 : R32 x2) (x3 : Int) (hx3 : R32 x3) (x4 : Int) (hx4 : R32 x4) (A : Mem) (tx : Nat → Txt) (hpre : vwC σ A tx ∧ netC σ ∧ (0 ≤ x1 ∧ x1 < 8) ∧ (0 ≤ x3 ∧ x3 < 8) ∧ (0 ≤ x2 ∧ x2 ≤ 3)) : Mt yX4_chance cX4_chance 11 (some .long) d [aR (40), aI (x1), aI (x2), aI (x3), aI (x4)] σ (QL (fun v σ' => v = (if x4 ≠ 0 then 720720 ^ x2.toNat else itr A 720720 x1 x2.toNat x3) / gcdI (itr A 720720 x1 x2.toNat x3) (720720 ^ x2.toNat) ∧ vwC σ' A tx ∧ netC σ' ∧ (∀ j : Int, j ≠ 8 → j ≠ 9 → σ' 40 j = σ 40 j) ∧ Fr [40, 47, 48] σ σ')) := mt_X4_chance hd hx1 hx2 hx3 hx4 hO (by
  unfold wp_X4_chance
  intro P6 P73 h6 h73
  obtain ⟨hV, hn, hx1, hx3, hx2⟩ := hpre
  have hI := hV.2.2.1
  have hc := hI.1
  have H73 : ∀ (m : Int), 0 < m → m ∣ 720720 → dvA A m → ∀ (n k : Nat) (τ : Mem), k + n = x2.toNat → vwC τ A tx → netC τ → chR τ (itr A m x1 k) → (∀ j : Int, j ≠ 8 → j ≠ 9 → τ 40 j = σ 40 j) → Fr [40, 47, 48] σ τ → P73 x2 x3 x4 m (m ^ k) (k : Int) τ := by
    intro m hm hd hA n
    have hmb := dv_bd hd
    induction n with
    | zero =>
      intro k τ hk hVt hnt hct hj hF
      have hkk : k = x2.toNat := by omega
      have pk := pw3 ⟨hm, hmb⟩ k (by omega)
      obtain ⟨p, hp, h8, hpc⟩ := hct
      have hnn := itr_nn (A := A) (t0 := x1) (Int.le_of_lt hm) k x3
      have hle := le_sm8 (itr_nn (A := A) (t0 := x1) (Int.le_of_lt hm) k) (u := x3) (by omega)
      rw [itr_sum hI hA (by omega) k] at hle
      have hg := gcdI_pos (a := itr A m x1 k x3) pk.1
      obtain ⟨q, hq⟩ := hd
      have hqp : 0 < q := by
        rcases Int.lt_or_le 0 q with h | h
        · exact h
        · have := Int.mul_nonpos_of_nonneg_of_nonpos (Int.le_of_lt hm) h; omega
      have hres : ∀ low : Prop, [Decidable low] → (if low then m ^ k else itr A m x1 k x3) / gcdI (itr A m x1 k x3) (m ^ k) = (if low then 720720 ^ x2.toNat else itr A 720720 x1 x2.toNat x3) / gcdI (itr A 720720 x1 x2.toNat x3) (720720 ^ x2.toNat) := fun low _ => by
        rw [hq, Int.mul_comm m q, ← hkk]; exact (lik_sc hA hm hqp).symm
      refine h73 _ _ _ _ _ _ _ (fun _ _ _ _ _ _ _ => ⟨fun _ => ⟨p, hp, h8, by omega, ?_⟩, fun h => absurd h (by omega)⟩)
      rw [hpc x3 (by omega) (by omega)]
      refine ⟨by omega, fun y40 e40 => ?_⟩
      rw [Int.max_eq_right (by omega)] at e40
      rw [e40]
      refine ⟨fun h4 => ⟨p, hp, h8, by omega, by omega, ?_⟩, fun h4 => ⟨by omega, ?_⟩⟩
      · rw [hpc x3 (by omega) (by omega), Int.tdiv_eq_ediv_of_nonneg hnn]
        have b1 := Int.ediv_nonneg hnn (Int.le_of_lt hg)
        have b2 := Int.ediv_le_self (gcdI (itr A m x1 k x3) (m ^ k)) hnn
        refine ⟨by unfold R64; omega, ?_, hVt, hnt, hj, hF⟩
        have := hres (x4 ≠ 0)
        rw [if_neg (fun q => q h4)] at this
        exact this
      · rw [Int.tdiv_eq_ediv_of_nonneg (Int.le_of_lt pk.1)]
        have b1 := Int.ediv_nonneg (Int.le_of_lt pk.1) (Int.le_of_lt hg)
        have b2 := Int.ediv_le_self (gcdI (itr A m x1 k x3) (m ^ k)) (Int.le_of_lt pk.1)
        refine ⟨by unfold R64; omega, ?_, hVt, hnt, hj, hF⟩
        have := hres (x4 ≠ 0)
        rw [if_pos h4] at this
        exact this
    | succ n ih =>
      intro k τ hk hVt hnt hct hj hF
      have pk := pw3 ⟨hm, hmb⟩ (k + 1) (by omega)
      refine h73 _ _ _ _ _ _ _ (fun _ _ _ _ _ _ _ => ⟨fun h => absurd h (by omega), fun _ => ⟨A, tx, itr A m x1 k, ⟨hVt, hnt, hct, hm, hA, itr_nn (Int.le_of_lt hm) k, ?_⟩, ?_⟩⟩)
      · rw [itr_sum hI hA (by omega) k, ← Int.pow_succ]; generalize m ^ (k + 1) = z at pk ⊢; omega
      · intro σ56 hO56 ⟨hV56, hn56, hc56, hj56, hF56⟩
        rw [← Int.pow_succ]
        exact ⟨by generalize m ^ (k + 1) = z at pk ⊢; unfold R64; omega, by unfold R32; omega, ih (k + 1) σ56 (by omega) hV56 hn56 hc56 (fun j a b => by rw [hj56 j a b]; exact hj j a b) (hF.tr hF56)⟩
  have H6 : ∀ (n k : Nat) (m : Int), k + n = 8 → 0 < m → m ∣ 720720 → (∀ t : Int, 0 ≤ t → t < (k : Int) → max 1 (degS A t) ∣ m) → P6 x1 x2 x3 x4 m (k : Int) σ := by
    intro n
    induction n with
    | zero =>
      intro k m hk hm hd hall
      obtain ⟨p, q, hp, hq, hpq, h8, h9⟩ := hn.rows
      have hpn : p = 47 ∨ p = 48 := hp
      refine h6 _ _ _ _ _ _ _ (fun _ _ _ _ _ _ _ => ⟨fun _ => ⟨p, hp, h8, fun σ7 hO7 ⟨hf, hF7⟩ => ⟨p, hp, by rw [hF7 40 (by simp; omega)]; exact h8, by omega, fun σ14 e14 => ?_⟩⟩, fun h => absurd h (by omega)⟩)
      have hF14p : Fr [p] σ σ14 := by rw [e14]; exact hF7.set (by simp)
      have hF14 : Fr [40, 47, 48] σ σ14 := hF14p.wk (by rcases hpn with rfl | rfl <;> simp)
      have e40 : σ14 40 = σ 40 := hF14p 40 (by simp; omega)
      have w := H73 m hm hd (dvA_of hI (fun t a b => hall t a (by omega))) _ 0 σ14 (Nat.zero_add _) (hV.net hF14)
      rw [Int.pow_zero] at w
      refine w ?_ ⟨p, hp, by rw [e40]; exact h8, fun t a b => ?_⟩ (fun j _ _ => by rw [e40]) hF14
      · unfold netC; rw [e40]; exact hn
      · show _ = if t = x1 then (1 : Int) else 0
        rw [e14]
        by_cases e : t = x1
        · subst e; rw [mset_hit rfl, if_pos rfl]
        · rw [mset_miss e, if_neg e]; exact hf t a (by omega)
    | succ n ih =>
      intro k m hk hm hd hall
      have d1 := deg_nn A (k : Int)
      have d2 := deg_16 hI (k : Int)
      have hmx : 1 ≤ max 1 (degS A (k : Int)) ∧ max 1 (degS A (k : Int)) ≤ 16 := by omega
      obtain ⟨l, el, l0, l1, l2, l3⟩ := lcmI hm (show 0 < max 1 (degS A (k : Int)) by omega) hd (dv16 hmx)
      have hlb := dv_bd l3
      have hg := gcdI_pos (a := m) (b := max 1 (degS A (k : Int))) (by omega)
      refine h6 _ _ _ _ _ _ _ (fun _ _ _ _ _ _ _ => ⟨fun h => absurd h (by omega), fun _ => ⟨A, tx, hV, ?_⟩⟩)
      intro u23 σ22 hu23 hO22 ⟨eu, e22⟩
      rw [eu, e22, el]
      refine ⟨by omega, by omega, by unfold R64; omega, fun y30 e30 => ⟨by unfold R32; omega, ?_⟩⟩
      rw [e30]
      refine ih (k + 1) l (by omega) l0 l3 (fun t a b => ?_)
      by_cases e : t = (k : Int)
      · rw [e]; exact l2
      · exact Int.dvd_trans (hall t a (by omega)) l1
  exact H6 8 0 1 (by omega) (by omega) (Int.one_dvd _) (fun t a b => absurd b (by omega)))

def wp_X11_likely (x1 : Int) (x2 : Int) (x3 : Int) (x4 : Int) (σ : Mem) (Q : Int → Mem → Prop) : Prop :=
  ((¬ (0 ≤ x1 ∧ x1 ≤ 7)) →
    Q (-1) σ) ∧
   ((0 ≤ x1 ∧ x1 ≤ 7) →
    ((¬ (0 ≤ x3 ∧ x3 ≤ 7)) →
     Q (-1) σ) ∧
    ((0 ≤ x3 ∧ x3 ≤ 7) →
     ((¬ ((0 : Int) ≤ x2 ∧ x2 ≤ (3 : Int))) →
      Q (-1) σ) ∧
     (((0 : Int) ≤ x2 ∧ x2 ≤ (3 : Int)) →
      ∃ g10 : Mem, ∃ g11 : Nat → Txt, (vwC σ g10 g11 ∧ netC σ ∧ (0 ≤ x1 ∧ x1 < 8) ∧ (0 ≤ x3 ∧ x3 < 8) ∧ (0 ≤ x2 ∧ x2 ≤ 3)) ∧
      ∀ (u16 : Int) (σ15 : Mem), R64 u16 → OKm σ15 → (u16 = (if x4 ≠ 0 then 720720 ^ x2.toNat else itr g10 720720 x1 x2.toNat x3) / gcdI (itr g10 720720 x1 x2.toNat x3) (720720 ^ x2.toNat) ∧ vwC σ15 g10 g11 ∧ netC σ15 ∧ (∀ j : Int, j ≠ 8 → j ≠ 9 → σ15 40 j = σ 40 j) ∧ Fr [40, 47, 48] σ σ15) →
      Q u16 σ15)))
theorem mt_X11_likely {d : Nat} (hd : 4 ≤ d) {x1 : Int} {x2 : Int} {x3 : Int} {x4 : Int} {σ : Mem} {Q : Int → Mem → Prop} (hx1 : R32 x1) (hx2 : R32 x2) (hx3 : R32 x3) (hx4 : R32 x4) (hO : OKm σ) (h : wp_X11_likely x1 x2 x3 x4 σ Q) : Mt yX11_likely cX11_likely 5 (some .long) d [aR (0), aI (x1), aI (x2), aI (x3), aI (x4)] σ (QL Q) := by
  refine Mt.intro (by decide +kernel) (Nat.le_of_ble_eq_true rfl) [(0, aR (0)), (1, aI (x1)), (2, aI (x2)), (3, aI (x3)), (4, aI (x4))] rfl ?_
  unfold wp_X11_likely at h
  refine G_iload_n 1 rfl rfl dX11_likely_0 ?_
  refine G_callS (as := [_]) cf_X11_103 rfl (sp_X11_isTown (d - 1) (by omega) _ hO _ hx1) (by omega) rfl rfl (Nat.le_of_ble_eq_true rfl) dX11_likely_1 ?_
  rintro _ _ ⟨_, rfl, rfl, rfl⟩ o2 r1
  refine G_if_eq (bI_R _) dX11_likely_4 (tgt := 38) (by decide) (fun c3 => ?_) (fun c3 => ?_)
  · have h := h.1 ((bI_0 _).mp c3)
    refine G_ldc2 (n := (-1)) rfl (by decide) kc_X11_305 dX11_likely_38 ?_
    exact G_lret rfl (rLL (-1) rfl) dX11_likely_41 ⟨_, rfl, h⟩ hO
  · have h := h.2 (bI_ne c3)
    refine G_iload_n 3 rfl rfl dX11_likely_7 ?_
    refine G_callS (as := [_]) cf_X11_103 rfl (sp_X11_isTown (d - 1) (by omega) _ hO _ hx3) (by omega) rfl rfl (Nat.le_of_ble_eq_true rfl) dX11_likely_8 ?_
    rintro _ _ ⟨_, rfl, rfl, rfl⟩ o5 r4
    refine G_if_eq (bI_R _) dX11_likely_11 (tgt := 38) (by decide) (fun c6 => ?_) (fun c6 => ?_)
    · have h := h.1 ((bI_0 _).mp c6)
      refine G_ldc2 (n := (-1)) rfl (by decide) kc_X11_305 dX11_likely_38 ?_
      exact G_lret rfl (rLL (-1) rfl) dX11_likely_41 ⟨_, rfl, h⟩ hO
    · have h := h.2 (bI_ne c6)
      refine G_iload_n 2 rfl rfl dX11_likely_14 ?_
      refine G_iconst dX11_likely_15 ?_
      refine G_iconst dX11_likely_16 ?_
      refine G_callS (as := [_, _, _]) cf_X11_107 rfl (sp_X11_within (d - 1) (by omega) _ hO _ hx2 _ (rL 0 rfl) _ (rL 3 rfl)) (by omega) rfl rfl (Nat.le_of_ble_eq_true rfl) dX11_likely_17 ?_
      rintro _ _ ⟨_, rfl, rfl, rfl⟩ o8 r7
      refine G_if_eq (bI_R _) dX11_likely_20 (tgt := 38) (by decide) (fun c9 => ?_) (fun c9 => ?_)
      · have h := h.1 ((bI_0 _).mp c9)
        refine G_ldc2 (n := (-1)) rfl (by decide) kc_X11_305 dX11_likely_38 ?_
        exact G_lret rfl (rLL (-1) rfl) dX11_likely_41 ⟨_, rfl, h⟩ hO
      · have h := h.2 (bI_ne c9)
        refine G_aload_n 0 rfl rfl dX11_likely_23 ?_
        refine G_get (k := 11) (kd := (2, 40)) (v := aR 40) gf_X11_85 rfl rfl rfl rfl dX11_likely_24 ?_
        refine G_iload_n 1 rfl rfl dX11_likely_27 ?_
        refine G_iload_n 2 rfl rfl dX11_likely_28 ?_
        refine G_iload_n 3 rfl rfl dX11_likely_29 ?_
        refine G_iload 4 rfl dX11_likely_30 ?_
        obtain ⟨g10, g11, c12, h⟩ := h
        refine G_callV (as := [_, _, _, _]) cf_X11_318 rfl rfl rfl (sp_X4_chance (d - 1) (by omega) _ hO _ hx1 _ hx2 _ hx3 _ hx4 g10 g11 c12) (by omega) rfl rfl (Nat.le_of_ble_eq_true rfl) dX11_likely_32 ?_
        rintro _ σ15 ⟨u16, rfl, z17⟩ o14 r13
        have h := h _ _ (r13 _ rfl) o14 z17
        refine G_goto (tgt := 41) dX11_likely_35 (by decide) ?_
        exact G_lret rfl (r13 _ rfl) dX11_likely_41 ⟨_, rfl, h⟩ o14

theorem sp_X11_likely (d : Nat) (hd : 4 ≤ d) (σ : Mem) (hO : OKm σ) (x1 : Int) (hx1 : R32 x1) (x2 : Int) (hx2 : R32 x2) (x3 : Int) (hx3 : R32 x3) (x4 : Int) (hx4 : R32 x4) (A : Mem) (tx : Nat → Txt) (hpre : vwC σ A tx ∧ netC σ) : Mt yX11_likely cX11_likely 5 (some .long) d [aR (0), aI (x1), aI (x2), aI (x3), aI (x4)] σ (QL (fun v σ' => v = likS A x1 x2 x3 (x4 ≠ 0) ∧ vwC σ' A tx ∧ netC σ' ∧ (∀ j : Int, j ≠ 8 → j ≠ 9 → σ' 40 j = σ 40 j) ∧ Fr [40, 47, 48] σ σ')) := mt_X11_likely hd hx1 hx2 hx3 hx4 hO (by
  unfold wp_X11_likely
  obtain ⟨hV, hn⟩ := hpre
  have no : ¬ ((0 ≤ x1 ∧ x1 ≤ 7) ∧ (0 ≤ x3 ∧ x3 ≤ 7) ∧ (0 ≤ x2 ∧ x2 ≤ 3)) → (-1 : Int) = likS A x1 x2 x3 (x4 ≠ 0) ∧ vwC σ A tx ∧ netC σ ∧ (∀ j : Int, j ≠ 8 → j ≠ 9 → σ 40 j = σ 40 j) ∧ Fr [40, 47, 48] σ σ := fun h => ⟨by unfold likS; rw [if_neg h], hV, hn, fun _ _ _ => rfl, Fr.rf _ _⟩
  refine ⟨fun h => no (fun q => h q.1), fun h1 => ⟨fun h => no (fun q => h q.2.1), fun h3 => ⟨fun h => no (fun q => h q.2.2), fun h2 => ⟨A, tx, ⟨hV, hn, by omega, by omega, h2⟩, ?_⟩⟩⟩⟩
  intro u σ1 hu hO1 ⟨eu, hR⟩
  exact ⟨by unfold likS; rw [if_pos ⟨h1, h3, h2⟩]; exact eu, hR⟩)
