theorem shl_nat {k : Nat} (hk : k < 8) : bShl 1 (k : Int) = ((2 ^ k : Nat) : Int) ∧ 2 ^ k < 256 := by
  rw [bShl1 (by omega) (by omega), Int.toNat_natCast]
  refine ⟨by push_cast; rfl, ?_⟩
  have : (2 : Nat) ^ k < 2 ^ 8 := Nat.pow_lt_pow_right (by omega) hk
  omega
theorem low8N {s : Nat} (h : s < 256) (h0 : s ≠ 0) : lowN 16 s < 8 := (lowI h h0).2
theorem dif_lt256 {s p : Nat} (h : s < 256) : dif s p < 256 := Nat.lt_of_le_of_lt (sub_le (dif_sub s p)) h
theorem rest_x {s u : Nat} (hs : s < 256) (h0 : s ≠ 0) (hu : lowN 16 s < u) (hu8 : u < 8) (hb : s.testBit u = true) : bXor (bXor (s : Int) (bShl 1 ((lowN 16 s : Nat) : Int))) (bShl 1 (u : Int)) = ((rest s u : Nat) : Int) := by
  have l1 := lowN_bit 16 s h0 (by omega)
  have l8 := low8N hs h0
  rw [(shl_nat l8).1, (shl_nat hu8).1, xor_dif hs (two_sub l1.1)]
  have hsub : subB (2 ^ u) (dif s (2 ^ lowN 16 s)) = true := two_sub (by
    rw [dif_bit, hb, Nat.testBit_two_pow, decide_eq_false (by omega)]; rfl)
  rw [xor_dif (dif_lt256 hs) hsub]; rfl
theorem rest_n {s u : Nat} (hs : s < 256) (h0 : s ≠ 0) (hu8 : u < 8) : bAnd (bAnd (s : Int) (bXor (bShl 1 ((lowN 16 s : Nat) : Int)) (-1))) (bXor (bShl 1 (u : Int)) (-1)) = ((rest s u : Nat) : Int) := by
  have l8 := low8N hs h0
  rw [(shl_nat l8).1, (shl_nat hu8).1, not_dif hs (shl_nat l8).2, not_dif (dif_lt256 hs) (shl_nat hu8).2]; rfl
theorem rest_sub {s u o : Nat} (h : subB s o = true) : subB (rest s u) o = true := sub_of (fun i hi => by
  unfold rest at hi
  exact sub_bit h i (sub_bit (dif_sub s _) i (sub_bit (dif_sub _ _) i hi)))
theorem prN_low {A : Mem} {F : Nat → Int} {s : Nat} : ∀ k, k ≤ lowN 16 s + 1 → prN A F s k = 1000000
  | 0, _ => rfl
  | k + 1, h => by
    unfold prN
    rw [if_neg (by omega)]; exact prN_low k (by omega)

def wp_X4_pairingMiles (x1 : Int) (σ : Mem) (Q : Int → Mem → Prop) : Prop :=
 ∀ P2 : Int → Int → Mem → Prop,
 ∀ P48 : Int → Int → Mem → Prop,
 ∀ P71 : Int → Int → Int → Int → Mem → Prop,
 (∀ (v1 : Int) (v2 : Int) (σ : Mem), (R32 v1 → R32 v2 → OKm σ →
   ((8 ≤ v2) →
     ∀ σ2 : Mem, σ2 = mset σ 46 0 0 →
     P48 v1 1 σ2) ∧
    ((v2 < 8) →
     ∃ g5 : Mem, ∃ g6 : Nat → Txt, (vwC σ g5 g6 ∧ (0 ≤ v2 ∧ v2 ≤ 7)) ∧
     ∀ σ10 : Mem, OKm σ10 → (inF σ10 41 (sprC g5 (1 : Int) ((-1) : Int) v2 7) ∧ Fr [41] σ σ10) →
     ((0 : Int) ≤ 0 ∧ (0 : Int) ≤ (v2 * 8) ∧ (0 : Int) ≤ 8 ∧ (0 + 8 : Int) ≤ 8 ∧ ((v2 * 8) + 8 : Int) ≤ 64) ∧
     ∀ σ14 : Mem, σ14 = mcpy σ10 41 0 42 (v2 * 8) 8 →
     R32 (v2 + 1) ∧ P2 v1 (v2 + 1) σ14)) → P2 v1 v2 σ) →
 (∀ (v1 : Int) (v2 : Int) (σ : Mem), (R32 v1 → R32 v2 → OKm σ →
   ((v1 < v2) →
     (0 ≤ v1 ∧ v1 < 256) ∧
     Q (σ 46 v1) σ) ∧
    ((v2 ≤ v1) →
     (0 < v2 ∧ v2 < 65536) ∧
     ∀ y23 : Int, y23 = (((lowN 16 (v2).toNat : Nat) : Int)) →
     (0 ≤ v2 ∧ v2 < 256) ∧
     ∀ σ25 : Mem, σ25 = mset σ 46 v2 1000000 →
     R32 (y23 + 1) ∧ P71 v1 v2 y23 (y23 + 1) σ25)) → P48 v1 v2 σ) →
 (∀ (v1 : Int) (v2 : Int) (v3 : Int) (v4 : Int) (σ : Mem), (R32 v1 → R32 v2 → R32 v3 → R32 v4 → OKm σ →
   ((8 ≤ v4) →
     R32 (v2 + 1) ∧ P48 v1 (v2 + 1) σ) ∧
    ((v4 < 8) →
     (((bAnd (bShr v2 v4) 1) ≠ 1) →
      R32 (v4 + 1) ∧ P71 v1 v2 v3 (v4 + 1) σ) ∧
     (((bAnd (bShr v2 v4) 1) = 1) →
      ∀ y33 : Int, y33 = (bXor (bXor v2 (bShl 1 v3)) (bShl 1 v4)) →
      (0 ≤ v2 ∧ v2 < 256) ∧
      (0 ≤ y33 ∧ y33 < 256) ∧
      (0 ≤ ((v3 * 8) + v4) ∧ ((v3 * 8) + v4) < 64) ∧
      R32 ((σ 46 y33) + (σ 42 ((v3 * 8) + v4))) ∧
      (0 ≤ v2 ∧ v2 < 256) ∧
      ∀ σ39 : Mem, σ39 = mset σ 46 v2 (min (σ 46 v2) ((σ 46 y33) + (σ 42 ((v3 * 8) + v4)))) →
      R32 (v4 + 1) ∧ P71 v1 v2 v3 (v4 + 1) σ39))) → P71 v1 v2 v3 v4 σ) →
  P2 x1 0 σ
theorem mt_X4_pairingMiles {d : Nat} (hd : 2 ≤ d) {x1 : Int} {σ : Mem} {Q : Int → Mem → Prop} (hx1 : R32 x1) (hO : OKm σ) (h : wp_X4_pairingMiles x1 σ Q) : Mt yX4_pairingMiles cX4_pairingMiles 6 (some .int) d [aR (40), aI (x1)] σ (QI Q) := by
  refine Mt.intro (by decide +kernel) (Nat.le_of_ble_eq_true rfl) [(0, aR (40)), (1, aI (x1))] rfl ?_
  unfold wp_X4_pairingMiles at h
  have h := h (fun (v1 : Int) (v2 : Int) (σ : Mem) => R32 v1 → R32 v2 → OKm σ → G yX4_pairingMiles cX4_pairingMiles 6 (some .int) d (QI Q) 2 [(0, aR (40)), (1, aI (v1)), (2, aI (v2))] [] σ)
    (fun (v1 : Int) (v2 : Int) (σ : Mem) => R32 v1 → R32 v2 → OKm σ → G yX4_pairingMiles cX4_pairingMiles 6 (some .int) d (QI Q) 48 [(0, aR (40)), (1, aI (v1)), (2, aI (v2))] [] σ)
    (fun (v1 : Int) (v2 : Int) (v3 : Int) (v4 : Int) (σ : Mem) => R32 v1 → R32 v2 → R32 v3 → R32 v4 → OKm σ → G yX4_pairingMiles cX4_pairingMiles 6 (some .int) d (QI Q) 71 [(0, aR (40)), (1, aI (v1)), (2, aI (v2)), (3, aI (v3)), (4, aI (v4))] [] σ) ?_ ?_ ?_
  · refine G_iconst dX4_pairingMiles_0 ?_
    refine G_istore_n (lv' := [(2, aI (0)), (0, aR (40)), (1, aI (x1))]) rfl rfl (by decide) dX4_pairingMiles_1 ?_
    exact G_pick [1, 2, 0] rfl (h hx1 (rL 0 rfl) hO)
  · intro v1 v2 σ h hv1 hv2 hO
    have h := h hv1 hv2 hO
    refine G_iload_n 2 rfl rfl dX4_pairingMiles_2 ?_
    refine G_bipush (by decide) dX4_pairingMiles_3 ?_
    refine G_icmp_ge hv2 (rL 8 rfl) dX4_pairingMiles_5 (tgt := 39) (by decide) (fun c1 => ?_) (fun c1 => ?_)
    · have h := h.1 c1
      refine G_aload_n 0 rfl rfl dX4_pairingMiles_39 ?_
      refine G_get (k := 7) (kd := (3, 6)) (v := aR (46)) gf_X4_27 rfl rfl rfl rfl dX4_pairingMiles_40 ?_
      refine G_iconst dX4_pairingMiles_43 ?_
      refine G_iconst dX4_pairingMiles_44 ?_
      obtain ⟨σ2, e4⟩ : ∃ τ : Mem, τ = mset σ 46 0 0 := ⟨_, rfl⟩
      have h := h σ2 e4
      have o3 : OKm σ2 := by rw [e4]; exact OKm.seti hO _ _ _ (rL 0 rfl) (isLg_row (show shp 46 = (1, 256, []) from rfl) _)
      refine G_iast (n := 256) rfl (by decide) (by decide) dX4_pairingMiles_45 ?_
      rw [← e4]
      refine G_iconst dX4_pairingMiles_46 ?_
      refine G_istore_n (lv' := [(2, aI (1)), (0, aR (40)), (1, aI (v1))]) rfl rfl (by decide) dX4_pairingMiles_47 ?_
      exact G_pick [1, 2, 0] rfl (h hv1 (rL 1 rfl) o3)
    · have h := h.2 c1
      refine G_aload_n 0 rfl rfl dX4_pairingMiles_8 ?_
      refine G_iload_n 2 rfl rfl dX4_pairingMiles_9 ?_
      refine G_iconst dX4_pairingMiles_10 ?_
      refine G_iconst dX4_pairingMiles_11 ?_
      obtain ⟨g5, g6, c7, h⟩ := h
      refine G_callV (as := [_, _, _]) cf_X4_86 rfl rfl rfl (sp_X4_spread (d - 1) (by omega) _ hO _ hv2 _ (rL 1 rfl) _ (rL (-1) rfl) g5 g6 c7) (by omega) rfl rfl (Nat.le_of_ble_eq_true rfl) dX4_pairingMiles_12 ?_
      rintro _ σ10 ⟨rfl, z12⟩ o9 r8
      have h := h _ o9 z12
      refine G_aload_n 0 rfl rfl dX4_pairingMiles_15 ?_
      refine G_get (k := 2) (kd := (3, 1)) (v := aR (41)) gf_X4_9 rfl rfl rfl rfl dX4_pairingMiles_16 ?_
      refine G_iconst dX4_pairingMiles_19 ?_
      refine G_aload_n 0 rfl rfl dX4_pairingMiles_20 ?_
      refine G_get (k := 3) (kd := (3, 2)) (v := aR (42)) gf_X4_15 rfl rfl rfl rfl dX4_pairingMiles_21 ?_
      refine G_iload_n 2 rfl rfl dX4_pairingMiles_24 ?_
      refine G_bipush (by decide) dX4_pairingMiles_25 ?_
      refine G_imul dX4_pairingMiles_27 ?_
      refine G_bipush (by decide) dX4_pairingMiles_28 ?_
      obtain ⟨c13, h⟩ := h
      obtain ⟨σ14, e16⟩ : ∃ τ : Mem, τ = mcpy σ10 41 0 42 (v2 * 8) 8 := ⟨_, rfl⟩
      have h := h σ14 e16
      have o15 : OKm σ14 := by rw [e16]; exact OKm.cpy o9 (isLg_row (show shp 41 = (1, 8, []) from rfl)) (isLg_row (show shp 42 = (1, 64, []) from rfl))
      refine G_copy rfl (show shp 41 = (1, 8, []) from rfl) (show shp 42 = (1, 64, []) from rfl) (by decide) (by decide) c13.1 c13.2.1 c13.2.2.1 c13.2.2.2.1 c13.2.2.2.2 (Nat.le_of_ble_eq_true rfl) sf_X4_124 dX4_pairingMiles_30 ?_
      rw [← e16]
      refine G_iinc (lv' := [(2, aI ((v2 + 1))), (0, aR (40)), (1, aI (v1))]) (k := 2) rfl rfl (by decide) dX4_pairingMiles_33 ?_
      refine G_goto (tgt := 2) dX4_pairingMiles_36 (by decide) ?_
      obtain ⟨c17, h⟩ := h
      exact G_pick [1, 2, 0] rfl (h hv1 c17 o15)
  · intro v1 v2 σ h hv1 hv2 hO
    have h := h hv1 hv2 hO
    refine G_iload_n 2 rfl rfl dX4_pairingMiles_48 ?_
    refine G_iload_n 1 rfl rfl dX4_pairingMiles_49 ?_
    refine G_icmp_gt hv2 hv1 dX4_pairingMiles_50 (tgt := 147) (by decide) (fun c18 => ?_) (fun c18 => ?_)
    · have h := h.1 c18
      refine G_aload_n 0 rfl rfl dX4_pairingMiles_147 ?_
      refine G_get (k := 7) (kd := (3, 6)) (v := aR (46)) gf_X4_27 rfl rfl rfl rfl dX4_pairingMiles_148 ?_
      refine G_iload_n 1 rfl rfl dX4_pairingMiles_151 ?_
      obtain ⟨c19, h⟩ := h
      refine G_iald (n := 256) rfl c19.1 c19.2 dX4_pairingMiles_152 ?_
      exact G_iret rfl (OKm.i hO 46 v1 (isLg_row (show shp 46 = (1, 256, []) from rfl) _)) dX4_pairingMiles_153 ⟨_, rfl, h⟩ hO
    · have h := h.2 c18
      refine G_iload_n 2 rfl rfl dX4_pairingMiles_53 ?_
      obtain ⟨c20, h⟩ := h
      refine G_callS (as := [_]) cf_X4_130 rfl (sp_J6_numberOfTrailingZeros_0f7a4 (d - 1) (by omega) _ hO _ hv2 c20) (by omega) rfl rfl (Nat.le_of_ble_eq_true rfl) dX4_pairingMiles_54 ?_
      rintro _ _ ⟨_, rfl, rfl, rfl⟩ o22 r21
      have h := h _ rfl
      refine G_istore_n (lv' := [(3, aI (((((lowN 16 (v2).toNat : Nat) : Int))))), (0, aR (40)), (1, aI (v1)), (2, aI (v2))]) rfl rfl (by decide) dX4_pairingMiles_57 ?_
      refine G_aload_n 1 rfl rfl dX4_pairingMiles_58 ?_
      refine G_get (k := 7) (kd := (3, 6)) (v := aR (46)) gf_X4_27 rfl rfl rfl rfl dX4_pairingMiles_59 ?_
      refine G_iload_n 3 rfl rfl dX4_pairingMiles_62 ?_
      refine G_ldc (n := 1000000) rfl (by decide) kc_X4_64 dX4_pairingMiles_63 ?_
      obtain ⟨c24, h⟩ := h
      obtain ⟨σ25, e27⟩ : ∃ τ : Mem, τ = mset σ 46 v2 1000000 := ⟨_, rfl⟩
      have h := h σ25 e27
      have o26 : OKm σ25 := by rw [e27]; exact OKm.seti hO _ _ _ (rL 1000000 rfl) (isLg_row (show shp 46 = (1, 256, []) from rfl) _)
      refine G_iast (n := 256) rfl c24.1 c24.2 dX4_pairingMiles_65 ?_
      rw [← e27]
      refine G_iload_n 0 rfl rfl dX4_pairingMiles_66 ?_
      refine G_iconst dX4_pairingMiles_67 ?_
      refine G_iadd dX4_pairingMiles_68 ?_
      refine G_istore (lv' := [(4, aI ((((((lowN 16 (v2).toNat : Nat) : Int))) + 1))), (3, aI (((((lowN 16 (v2).toNat : Nat) : Int))))), (0, aR (40)), (1, aI (v1)), (2, aI (v2))]) rfl (by decide) dX4_pairingMiles_69 ?_
      obtain ⟨c28, h⟩ := h
      exact G_pick [2, 3, 4, 1, 0] rfl (h hv1 hv2 (r21 _ rfl) c28 o26)
  · intro v1 v2 v3 v4 σ h hv1 hv2 hv3 hv4 hO
    have h := h hv1 hv2 hv3 hv4 hO
    refine G_iload 4 rfl dX4_pairingMiles_71 ?_
    refine G_bipush (by decide) dX4_pairingMiles_73 ?_
    refine G_icmp_ge hv4 (rL 8 rfl) dX4_pairingMiles_75 (tgt := 141) (by decide) (fun c29 => ?_) (fun c29 => ?_)
    · have h := h.1 c29
      refine G_iinc (lv' := [(2, aI ((v2 + 1))), (0, aR (40)), (1, aI (v1)), (3, aI (v3)), (4, aI (v4))]) (k := 2) rfl rfl (by decide) dX4_pairingMiles_141 ?_
      refine G_goto (tgt := 48) dX4_pairingMiles_144 (by decide) ?_
      obtain ⟨c30, h⟩ := h
      exact G_pick [1, 2, 0] rfl (h hv1 c30 hO)
    · have h := h.2 c29
      refine G_iload_n 2 rfl rfl dX4_pairingMiles_78 ?_
      refine G_iload 4 rfl dX4_pairingMiles_79 ?_
      refine G_ishr dX4_pairingMiles_81 ?_
      refine G_iconst dX4_pairingMiles_82 ?_
      refine G_iand dX4_pairingMiles_83 ?_
      refine G_iconst dX4_pairingMiles_84 ?_
      refine G_icmp_ne (r32_of _) (rL 1 rfl) dX4_pairingMiles_85 (tgt := 135) (by decide) (fun c31 => ?_) (fun c31 => ?_)
      · have h := h.1 c31
        refine G_iinc (lv' := [(4, aI ((v4 + 1))), (0, aR (40)), (1, aI (v1)), (2, aI (v2)), (3, aI (v3))]) (k := 4) rfl rfl (by decide) dX4_pairingMiles_135 ?_
        refine G_goto (tgt := 71) dX4_pairingMiles_138 (by decide) ?_
        obtain ⟨c32, h⟩ := h
        exact G_pick [1, 2, 3, 4, 0] rfl (h hv1 hv2 hv3 c32 hO)
      · have h := h.2 c31
        refine G_iload_n 2 rfl rfl dX4_pairingMiles_88 ?_
        refine G_iconst dX4_pairingMiles_89 ?_
        refine G_iload_n 3 rfl rfl dX4_pairingMiles_90 ?_
        refine G_ishl dX4_pairingMiles_91 ?_
        refine G_ixor dX4_pairingMiles_92 ?_
        refine G_iconst dX4_pairingMiles_93 ?_
        refine G_iload 4 rfl dX4_pairingMiles_94 ?_
        refine G_ishl dX4_pairingMiles_96 ?_
        refine G_ixor dX4_pairingMiles_97 ?_
        have h := h _ rfl
        refine G_istore (lv' := [(5, aI (((bXor (bXor v2 (bShl 1 v3)) (bShl 1 v4))))), (0, aR (40)), (1, aI (v1)), (2, aI (v2)), (3, aI (v3)), (4, aI (v4))]) rfl (by decide) dX4_pairingMiles_98 ?_
        refine G_aload_n 1 rfl rfl dX4_pairingMiles_100 ?_
        refine G_get (k := 7) (kd := (3, 6)) (v := aR (46)) gf_X4_27 rfl rfl rfl rfl dX4_pairingMiles_101 ?_
        refine G_iload_n 3 rfl rfl dX4_pairingMiles_104 ?_
        refine G_aload_n 1 rfl rfl dX4_pairingMiles_105 ?_
        refine G_get (k := 7) (kd := (3, 6)) (v := aR (46)) gf_X4_27 rfl rfl rfl rfl dX4_pairingMiles_106 ?_
        refine G_iload_n 3 rfl rfl dX4_pairingMiles_109 ?_
        obtain ⟨c34, h⟩ := h
        refine G_iald (n := 256) rfl c34.1 c34.2 dX4_pairingMiles_110 ?_
        refine G_aload_n 1 rfl rfl dX4_pairingMiles_111 ?_
        refine G_get (k := 7) (kd := (3, 6)) (v := aR (46)) gf_X4_27 rfl rfl rfl rfl dX4_pairingMiles_112 ?_
        refine G_iload 0 rfl dX4_pairingMiles_115 ?_
        obtain ⟨c35, h⟩ := h
        refine G_iald (n := 256) rfl c35.1 c35.2 dX4_pairingMiles_117 ?_
        refine G_aload_n 1 rfl rfl dX4_pairingMiles_118 ?_
        refine G_get (k := 3) (kd := (3, 2)) (v := aR (42)) gf_X4_15 rfl rfl rfl rfl dX4_pairingMiles_119 ?_
        refine G_iload_n 4 rfl rfl dX4_pairingMiles_122 ?_
        refine G_bipush (by decide) dX4_pairingMiles_123 ?_
        refine G_imul dX4_pairingMiles_125 ?_
        refine G_iload 5 rfl dX4_pairingMiles_126 ?_
        refine G_iadd dX4_pairingMiles_128 ?_
        obtain ⟨c36, h⟩ := h
        refine G_iald (n := 64) rfl c36.1 c36.2 dX4_pairingMiles_129 ?_
        refine G_iadd dX4_pairingMiles_130 ?_
        obtain ⟨c37, h⟩ := h
        refine G_mmin rfl (OKm.i hO 46 v2 (isLg_row (show shp 46 = (1, 256, []) from rfl) _)) c37 (Nat.le_of_ble_eq_true rfl) sf_X4_80 dX4_pairingMiles_131 ?_
        obtain ⟨c38, h⟩ := h
        obtain ⟨σ39, e41⟩ : ∃ τ : Mem, τ = mset σ 46 v2 (min (σ 46 v2) ((σ 46 ((bXor (bXor v2 (bShl 1 v3)) (bShl 1 v4)))) + (σ 42 ((v3 * 8) + v4)))) := ⟨_, rfl⟩
        have h := h σ39 e41
        have o40 : OKm σ39 := by rw [e41]; exact OKm.seti hO _ _ _ (r32_min (OKm.i hO 46 v2 (isLg_row (show shp 46 = (1, 256, []) from rfl) _)) c37) (isLg_row (show shp 46 = (1, 256, []) from rfl) _)
        refine G_iast (n := 256) rfl c38.1 c38.2 dX4_pairingMiles_134 ?_
        rw [← e41]
        refine G_iinc (lv' := [(4, aI ((v4 + 1))), (5, aI (((bXor (bXor v2 (bShl 1 v3)) (bShl 1 v4))))), (0, aR (40)), (1, aI (v1)), (2, aI (v2)), (3, aI (v3))]) (k := 5) rfl rfl (by decide) dX4_pairingMiles_135 ?_
        refine G_goto (tgt := 71) dX4_pairingMiles_138 (by decide) ?_
        obtain ⟨c42, h⟩ := h
        exact G_pick [2, 3, 4, 5, 0] rfl (h hv1 hv2 hv3 c42 o40)

theorem sp_X4_pairingMiles (d : Nat) (hd : 2 ≤ d) (σ : Mem) (hO : OKm σ) (x1 : Int) (hx1 : R32 x1) (A : Mem) (tx : Nat → Txt) (hpre : vwC σ A tx ∧ (0 ≤ x1 ∧ x1 < 256)) : Mt yX4_pairingMiles cX4_pairingMiles 6 (some .int) d [aR (40), aI (x1)] σ (QI (fun v σ' => v = prF A (x1).toNat ∧ Fr [41, 42, 46] σ σ')) := mt_X4_pairingMiles hd hx1 hO (by
  unfold wp_X4_pairingMiles
  intro P2 P48 P71 h2 h48 h71
  obtain ⟨hV, hx⟩ := hpre
  have hI := hV.2.2.1
  have rng := prF_r hI
  have key : ∀ τ : Mem, Fr [41, 42] σ τ → vwC τ A tx := fun τ hf => hV.fr (hf.wk (by simp))
  have H71 : ∀ (ρ : Mem), (∀ t u : Int, 0 ≤ t → t < 8 → 0 ≤ u → u < 8 → ρ 42 (t * 8 + u) = dst A 1 (-1) t u) → Fr [41, 42] σ ρ → ∀ (s : Nat), 0 < s → (s : Int) ≤ x1 → (∀ τ : Mem, (∀ x : Nat, x ≤ s → τ 46 (x : Int) = prF A x) → Fr [46] ρ τ → R32 ((s : Int) + 1) ∧ P48 x1 ((s : Int) + 1) τ) → ∀ (n k : Nat) (τ : Mem), k + n = 8 → lowN 16 s < k → τ 46 (s : Int) = prN A (prF A) s k → (∀ x : Nat, x < s → τ 46 (x : Int) = prF A x) → Fr [46] ρ τ → P71 x1 (s : Int) ((lowN 16 s : Nat) : Int) (k : Int) τ := by
    intro ρ hpm hFρ s hs0 hsx hnext n
    have l8 := low8N (s := s) (by omega) (by omega)
    induction n with
    | zero =>
      intro k τ hk hlk hcur htab hF
      have hk2 : k = 8 := by omega
      subst hk2
      refine h71 _ _ _ _ _ (fun _ _ _ _ _ => ⟨fun _ => hnext τ (fun x hx2 => ?_) hF, fun h => absurd h (by omega)⟩)
      by_cases e : x = s
      · subst e; rw [hcur, prF_eq A (by omega), if_neg (by omega)]
      · exact htab x (by omega)
    | succ n ih =>
      intro k τ hk hlk hcur htab hF
      have hbit : tbt (s : Int) (k : Int) = s.testBit k := by unfold tbt; rw [Int.toNat_natCast, Int.toNat_natCast]
      refine h71 _ _ _ _ _ (fun _ _ _ _ _ => ⟨fun h => absurd h (by omega), fun _ => ?_⟩)
      rw [tbt_sh (s := (s : Int)) (k := (k : Int)) (by omega) (by omega), hbit]
      cases hb : s.testBit k with
      | false =>
        refine ⟨fun _ => ⟨by unfold R32; omega, ih (k + 1) τ (by omega) (by omega) ?_ htab hF⟩, fun h => absurd h (by decide)⟩
        show _ = (if lowN 16 s < k ∧ s.testBit k = true then _ else _)
        rw [if_neg (fun q => by rw [hb] at q; simp at q)]; exact hcur
      | true =>
        refine ⟨fun h => absurd rfl h, fun _ y33 e33 => ?_⟩
        rw [rest_x (by omega) (by omega) hlk (by omega) hb] at e33
        subst e33
        have hrl := rest_lt (s := s) (u := k) (by omega) (by omega)
        have hd := dst_r (th := 1) (wo := -1) (a := ((lowN 16 s : Nat) : Int)) (b := (k : Int)) hI
        have hr := rng 65536 (rest s k) (by omega) (by omega)
        have e42 : τ 42 (((lowN 16 s : Nat) : Int) * 8 + (k : Int)) = dst A 1 (-1) ((lowN 16 s : Nat) : Int) (k : Int) := by
          rw [hF 42 (by simp)]; exact hpm _ _ (by omega) (by omega) (by omega) (by omega)
        rw [htab _ hrl, e42, hcur]
        refine ⟨by omega, by omega, by omega, by unfold R32; omega, by omega, fun σ39 e39 => ⟨by unfold R32; omega, ih (k + 1) σ39 (by omega) (by omega) ?_ (fun x hx2 => ?_) (by rw [e39]; exact hF.set (by simp))⟩⟩
        · rw [e39, mset_hit rfl]
          show _ = (if lowN 16 s < k ∧ s.testBit k = true then _ else _)
          rw [if_pos ⟨hlk, hb⟩]
        · rw [e39, mset_miss (by omega)]; exact htab x hx2
  have H48 : ∀ (ρ : Mem), (∀ t u : Int, 0 ≤ t → t < 8 → 0 ≤ u → u < 8 → ρ 42 (t * 8 + u) = dst A 1 (-1) t u) → Fr [41, 42] σ ρ → ∀ (n s : Nat) (τ : Mem), (s : Int) + n = x1 + 1 → 0 < s → (∀ x : Nat, x < s → τ 46 (x : Int) = prF A x) → Fr [46] ρ τ → P48 x1 (s : Int) τ := by
    intro ρ hpm hFρ n
    induction n with
    | zero =>
      intro s τ hs hs0 ht hF
      refine h48 _ _ _ (fun _ _ _ => ⟨fun _ => ⟨by omega, ?_, (hFρ.wk (by simp)).tr (hF.wk (by simp))⟩, fun h => absurd h (by omega)⟩)
      have := ht x1.toNat (by omega)
      rw [show ((x1.toNat : Nat) : Int) = x1 by omega] at this
      exact this
    | succ n ih =>
      intro s τ hs hs0 ht hF
      have l8 := low8N (s := s) (by omega) (by omega)
      refine h48 _ _ _ (fun _ _ _ => ⟨fun h => absurd h (by omega), fun _ => ⟨by omega, fun y23 e23 => ⟨by omega, fun σ25 e25 => ?_⟩⟩⟩)
      rw [Int.toNat_natCast] at e23
      subst e23
      refine ⟨by unfold R32; omega, ?_⟩
      have := H71 ρ hpm hFρ s hs0 (by omega) (fun τ' ht' hF' => ⟨by unfold R32; omega, ih (s + 1) τ' (by omega) (by omega) (fun x hx2 => ht' x (by omega)) hF'⟩) (8 - (lowN 16 s + 1)) (lowN 16 s + 1) σ25 (by omega) (by omega) (by rw [e25, mset_hit rfl, prN_low _ (Nat.le_refl _)]) (fun x hx2 => by rw [e25, mset_miss (by omega)]; exact ht x hx2) (by rw [e25]; exact hF.set (by simp))
      rw [show ((lowN 16 s + 1 : Nat) : Int) = ((lowN 16 s : Nat) : Int) + 1 by omega] at this
      exact this
  have H2 : ∀ (n k : Nat) (τ : Mem), k + n = 8 → (∀ t u : Int, 0 ≤ t → t < k → 0 ≤ u → u < 8 → τ 42 (t * 8 + u) = dst A 1 (-1) t u) → Fr [41, 42] σ τ → P2 x1 (k : Int) τ := by
    intro n
    induction n with
    | zero =>
      intro k τ hk hp hF
      refine h2 _ _ _ (fun _ _ _ => ⟨fun _ σ2 e2 => ?_, fun h => absurd h (by omega)⟩)
      have hF2 : Fr [46] τ σ2 := by rw [e2]; exact (Fr.rf _ _).set (by simp)
      refine H48 τ (fun t u a b c d => hp t u a (by omega) c d) hF x1.toNat 1 σ2 (by omega) (by omega) (fun x hx2 => ?_) hF2
      have : x = 0 := by omega
      subst this
      rw [e2, prF_eq A (by omega), if_pos rfl]; exact mset_hit rfl
    | succ n ih =>
      intro k τ hk hp hF
      refine h2 _ _ _ (fun _ _ _ => ⟨fun h => absurd h (by omega), fun _ => ⟨A, tx, ⟨key τ hF, by omega⟩, ?_⟩⟩)
      intro σ10 o10 ⟨q10, f10⟩
      refine ⟨by omega, fun σ14 e14 => ⟨by unfold R32; omega, ih (k + 1) σ14 (by omega) (fun t u a b c d => ?_) ?_⟩⟩
      · by_cases e : t = k
        · subst e
          rw [e14, mcpy_hit (by omega)]
          rw [show (0 : Int) + ((k : Int) * 8 + u - (k : Int) * 8) = u by omega]
          exact q10 u c d
        · rw [e14, mcpy_miss (by omega), f10 42 (by simp)]; exact hp t u a (by omega) c d
      · have : Fr [42] σ10 σ14 := fun q hq => by
          funext j
          rw [e14, mcpy_off (by simpa using hq)]
        exact (hF.tr (f10.wk (by simp))).tr (this.wk (by simp))
  exact H2 8 0 σ (by omega) (fun t u a b => by omega) (Fr.rf _ _))

def wp_X12_pairedOf (x1 : Int) (σ : Mem) (Q : Int → Mem → Prop) : Prop :=
 ∀ P2 : Int → Int → Mem → Prop,
 ∀ P25 : Int → Int → Int → Int → Mem → Prop,
 (∀ (v1 : Int) (v2 : Int) (σ : Mem), (R32 v1 → R32 v2 → OKm σ →
   ((0 ≤ v1 ∧ v1 < 2147483648) ∧ (0 ≤ v2 ∧ v2 < 31)) ∧
    (((v1).toNat.testBit (v2).toNat = true) →
     R32 (v2 + 1) ∧ P25 v1 v2 1000000 (v2 + 1) σ) ∧
    ((¬ ((v1).toNat.testBit (v2).toNat = true)) →
     R32 (v2 + 1) ∧ P2 v1 (v2 + 1) σ)) → P2 v1 v2 σ) →
 (∀ (v1 : Int) (v2 : Int) (v3 : Int) (v4 : Int) (σ : Mem), (R32 v1 → R32 v2 → R32 v3 → R32 v4 → OKm σ →
   ((8 ≤ v4) →
     Q v3 σ) ∧
    ((v4 < 8) →
     ((0 ≤ v1 ∧ v1 < 2147483648) ∧ (0 ≤ v4 ∧ v4 < 31)) ∧
     (((v1).toNat.testBit (v4).toNat = true) →
      (0 ≤ ((8 * v2) + v4) ∧ ((8 * v2) + v4) < 64) ∧
      (0 ≤ (bAnd (bAnd v1 (bXor (bShl 1 v2) (-1))) (bXor (bShl 1 v4) (-1))) ∧ (bAnd (bAnd v1 (bXor (bShl 1 v2) (-1))) (bXor (bShl 1 v4) (-1))) < 256) ∧
      R32 ((σ 86 ((8 * v2) + v4)) + (σ 85 (bAnd (bAnd v1 (bXor (bShl 1 v2) (-1))) (bXor (bShl 1 v4) (-1))))) ∧
      ∀ y15 : Int, y15 = ((σ 86 ((8 * v2) + v4)) + (σ 85 (bAnd (bAnd v1 (bXor (bShl 1 v2) (-1))) (bXor (bShl 1 v4) (-1))))) →
      ((v3 ≤ y15) →
       R32 (v4 + 1) ∧ P25 v1 v2 v3 (v4 + 1) σ) ∧
      ((y15 < v3) →
       R32 (v4 + 1) ∧ P25 v1 v2 y15 (v4 + 1) σ)) ∧
     ((¬ ((v1).toNat.testBit (v4).toNat = true)) →
      R32 (v4 + 1) ∧ P25 v1 v2 v3 (v4 + 1) σ))) → P25 v1 v2 v3 v4 σ) →
  P2 x1 0 σ
theorem mt_X12_pairedOf {d : Nat} (hd : 1 ≤ d) {x1 : Int} {σ : Mem} {Q : Int → Mem → Prop} (hx1 : R32 x1) (hO : OKm σ) (h : wp_X12_pairedOf x1 σ Q) : Mt yX12_pairedOf cX12_pairedOf 6 (some .int) d [aR (74), aI (x1)] σ (QI Q) := by
  refine Mt.intro (by decide +kernel) (Nat.le_of_ble_eq_true rfl) [(0, aR (74)), (1, aI (x1))] rfl ?_
  unfold wp_X12_pairedOf at h
  have h := h (fun (v1 : Int) (v2 : Int) (σ : Mem) => R32 v1 → R32 v2 → OKm σ → G yX12_pairedOf cX12_pairedOf 6 (some .int) d (QI Q) 2 [(0, aR (74)), (1, aI (v1)), (2, aI (v2))] [] σ)
    (fun (v1 : Int) (v2 : Int) (v3 : Int) (v4 : Int) (σ : Mem) => R32 v1 → R32 v2 → R32 v3 → R32 v4 → OKm σ → G yX12_pairedOf cX12_pairedOf 6 (some .int) d (QI Q) 25 [(0, aR (74)), (1, aI (v1)), (2, aI (v2)), (3, aI (v3)), (4, aI (v4))] [] σ) ?_ ?_
  · refine G_iconst dX12_pairedOf_0 ?_
    refine G_istore_n (lv' := [(2, aI (0)), (0, aR (74)), (1, aI (x1))]) rfl rfl (by decide) dX12_pairedOf_1 ?_
    exact G_pick [1, 2, 0] rfl (h hx1 (rL 0 rfl) hO)
  · intro v1 v2 σ h hv1 hv2 hO
    have h := h hv1 hv2 hO
    refine G_iload_n 1 rfl rfl dX12_pairedOf_2 ?_
    refine G_iload_n 2 rfl rfl dX12_pairedOf_3 ?_
    obtain ⟨c1, h⟩ := h
    refine G_callS (as := [_, _]) cf_X12_258 rfl (sp_X12_has (d - 1) (by omega) _ hO _ hv1 _ hv2 c1) (by omega) rfl rfl (Nat.le_of_ble_eq_true rfl) dX12_pairedOf_4 ?_
    rintro _ _ ⟨_, rfl, rfl, rfl⟩ o3 r2
    refine G_if_ne (bI_R _) dX12_pairedOf_7 (tgt := 16) (by decide) (fun c4 => ?_) (fun c4 => ?_)
    · have h := h.1 (bI_ne c4)
      refine G_ldcw (n := 1000000) rfl (by decide) kc_X12_412 dX12_pairedOf_16 ?_
      refine G_istore_n (lv' := [(3, aI (1000000)), (0, aR (74)), (1, aI (v1)), (2, aI (v2))]) rfl rfl (by decide) dX12_pairedOf_19 ?_
      refine G_iload_n 3 rfl rfl dX12_pairedOf_20 ?_
      refine G_iconst dX12_pairedOf_21 ?_
      refine G_iadd dX12_pairedOf_22 ?_
      refine G_istore (lv' := [(4, aI ((v2 + 1))), (3, aI (1000000)), (0, aR (74)), (1, aI (v1)), (2, aI (v2))]) rfl (by decide) dX12_pairedOf_23 ?_
      obtain ⟨c5, h⟩ := h
      exact G_pick [2, 3, 4, 1, 0] rfl (h hv1 hv2 (rL 1000000 rfl) c5 hO)
    · have h := h.2 ((bI_0 _).mp c4)
      refine G_iinc (lv' := [(2, aI ((v2 + 1))), (0, aR (74)), (1, aI (v1))]) (k := 2) rfl rfl (by decide) dX12_pairedOf_10 ?_
      refine G_goto (tgt := 2) dX12_pairedOf_13 (by decide) ?_
      obtain ⟨c6, h⟩ := h
      exact G_pick [1, 2, 0] rfl (h hv1 c6 hO)
  · intro v1 v2 v3 v4 σ h hv1 hv2 hv3 hv4 hO
    have h := h hv1 hv2 hv3 hv4 hO
    refine G_iload 4 rfl dX12_pairedOf_25 ?_
    refine G_bipush (by decide) dX12_pairedOf_27 ?_
    refine G_icmp_ge hv4 (rL 8 rfl) dX12_pairedOf_29 (tgt := 97) (by decide) (fun c7 => ?_) (fun c7 => ?_)
    · have h := h.1 c7
      refine G_iload_n 3 rfl rfl dX12_pairedOf_97 ?_
      exact G_iret rfl hv3 dX12_pairedOf_98 ⟨_, rfl, h⟩ hO
    · have h := h.2 c7
      refine G_iload_n 1 rfl rfl dX12_pairedOf_32 ?_
      refine G_iload 4 rfl dX12_pairedOf_33 ?_
      obtain ⟨c8, h⟩ := h
      refine G_callS (as := [_, _]) cf_X12_258 rfl (sp_X12_has (d - 1) (by omega) _ hO _ hv1 _ hv4 c8) (by omega) rfl rfl (Nat.le_of_ble_eq_true rfl) dX12_pairedOf_35 ?_
      rintro _ _ ⟨_, rfl, rfl, rfl⟩ o10 r9
      refine G_if_ne (bI_R _) dX12_pairedOf_38 (tgt := 44) (by decide) (fun c11 => ?_) (fun c11 => ?_)
      · have h := h.1 (bI_ne c11)
        refine G_aload_n 0 rfl rfl dX12_pairedOf_44 ?_
        refine G_get (k := 28) (kd := (2, 86)) (v := aR 86) gf_X12_56 rfl rfl rfl rfl dX12_pairedOf_45 ?_
        refine G_bipush (by decide) dX12_pairedOf_48 ?_
        refine G_iload_n 2 rfl rfl dX12_pairedOf_50 ?_
        refine G_imul dX12_pairedOf_51 ?_
        refine G_iload 4 rfl dX12_pairedOf_52 ?_
        refine G_iadd dX12_pairedOf_54 ?_
        obtain ⟨c12, h⟩ := h
        refine G_iald (n := 64) rfl c12.1 c12.2 dX12_pairedOf_55 ?_
        refine G_aload_n 0 rfl rfl dX12_pairedOf_56 ?_
        refine G_get (k := 27) (kd := (2, 85)) (v := aR 85) gf_X12_53 rfl rfl rfl rfl dX12_pairedOf_57 ?_
        refine G_iload_n 1 rfl rfl dX12_pairedOf_60 ?_
        refine G_iconst dX12_pairedOf_61 ?_
        refine G_iload_n 2 rfl rfl dX12_pairedOf_62 ?_
        refine G_ishl dX12_pairedOf_63 ?_
        refine G_iconst dX12_pairedOf_64 ?_
        refine G_ixor dX12_pairedOf_65 ?_
        refine G_iand dX12_pairedOf_66 ?_
        refine G_iconst dX12_pairedOf_67 ?_
        refine G_iload 4 rfl dX12_pairedOf_68 ?_
        refine G_ishl dX12_pairedOf_70 ?_
        refine G_iconst dX12_pairedOf_71 ?_
        refine G_ixor dX12_pairedOf_72 ?_
        refine G_iand dX12_pairedOf_73 ?_
        obtain ⟨c13, h⟩ := h
        refine G_iald (n := 256) rfl c13.1 c13.2 dX12_pairedOf_74 ?_
        refine G_iadd dX12_pairedOf_75 ?_
        obtain ⟨c14, h⟩ := h
        have h := h _ rfl
        refine G_istore (lv' := [(5, aI ((((σ 86 ((8 * v2) + v4)) + (σ 85 (bAnd (bAnd v1 (bXor (bShl 1 v2) (-1))) (bXor (bShl 1 v4) (-1)))))))), (0, aR (74)), (1, aI (v1)), (2, aI (v2)), (3, aI (v3)), (4, aI (v4))]) rfl (by decide) dX12_pairedOf_76 ?_
        refine G_iload 0 rfl dX12_pairedOf_78 ?_
        refine G_iload_n 4 rfl rfl dX12_pairedOf_80 ?_
        refine G_icmp_ge c14 hv3 dX12_pairedOf_81 (tgt := 89) (by decide) (fun c16 => ?_) (fun c16 => ?_)
        · have h := h.1 c16
          refine G_iload_n 4 rfl rfl dX12_pairedOf_89 ?_
          refine G_istore_n (lv' := [(3, aI (v3)), (5, aI ((((σ 86 ((8 * v2) + v4)) + (σ 85 (bAnd (bAnd v1 (bXor (bShl 1 v2) (-1))) (bXor (bShl 1 v4) (-1)))))))), (0, aR (74)), (1, aI (v1)), (2, aI (v2)), (4, aI (v4))]) rfl rfl (by decide) dX12_pairedOf_90 ?_
          refine G_iinc (lv' := [(4, aI ((v4 + 1))), (3, aI (v3)), (5, aI ((((σ 86 ((8 * v2) + v4)) + (σ 85 (bAnd (bAnd v1 (bXor (bShl 1 v2) (-1))) (bXor (bShl 1 v4) (-1)))))))), (0, aR (74)), (1, aI (v1)), (2, aI (v2))]) (k := 5) rfl rfl (by decide) dX12_pairedOf_91 ?_
          refine G_goto (tgt := 25) dX12_pairedOf_94 (by decide) ?_
          obtain ⟨c17, h⟩ := h
          exact G_pick [3, 4, 5, 1, 0] rfl (h hv1 hv2 hv3 c17 hO)
        · have h := h.2 c16
          refine G_iload 0 rfl dX12_pairedOf_84 ?_
          refine G_goto (tgt := 90) dX12_pairedOf_86 (by decide) ?_
          refine G_istore_n (lv' := [(3, aI ((((σ 86 ((8 * v2) + v4)) + (σ 85 (bAnd (bAnd v1 (bXor (bShl 1 v2) (-1))) (bXor (bShl 1 v4) (-1)))))))), (5, aI ((((σ 86 ((8 * v2) + v4)) + (σ 85 (bAnd (bAnd v1 (bXor (bShl 1 v2) (-1))) (bXor (bShl 1 v4) (-1)))))))), (0, aR (74)), (1, aI (v1)), (2, aI (v2)), (4, aI (v4))]) rfl rfl (by decide) dX12_pairedOf_90 ?_
          refine G_iinc (lv' := [(4, aI ((v4 + 1))), (3, aI ((((σ 86 ((8 * v2) + v4)) + (σ 85 (bAnd (bAnd v1 (bXor (bShl 1 v2) (-1))) (bXor (bShl 1 v4) (-1)))))))), (5, aI ((((σ 86 ((8 * v2) + v4)) + (σ 85 (bAnd (bAnd v1 (bXor (bShl 1 v2) (-1))) (bXor (bShl 1 v4) (-1)))))))), (0, aR (74)), (1, aI (v1)), (2, aI (v2))]) (k := 5) rfl rfl (by decide) dX12_pairedOf_91 ?_
          refine G_goto (tgt := 25) dX12_pairedOf_94 (by decide) ?_
          obtain ⟨c18, h⟩ := h
          exact G_pick [3, 4, 5, 1, 0] rfl (h hv1 hv2 c14 c18 hO)
      · have h := h.2 ((bI_0 _).mp c11)
        refine G_goto (tgt := 91) dX12_pairedOf_41 (by decide) ?_
        refine G_iinc (lv' := [(4, aI ((v4 + 1))), (0, aR (74)), (1, aI (v1)), (2, aI (v2)), (3, aI (v3))]) (k := 4) rfl rfl (by decide) dX12_pairedOf_91 ?_
        refine G_goto (tgt := 25) dX12_pairedOf_94 (by decide) ?_
        obtain ⟨c19, h⟩ := h
        exact G_pick [1, 2, 3, 4, 0] rfl (h hv1 hv2 hv3 c19 hO)

theorem sp_X12_pairedOf (d : Nat) (hd : 1 ≤ d) (σ : Mem) (hO : OKm σ) (x1 : Int) (hx1 : R32 x1) (A : Mem) (hpre : betw σ A 8 ∧ (∀ x : Nat, x < (x1).toNat → subB x (x1).toNat = true → σ 85 (x : Int) = prF A x) ∧ InvA A ∧ (0 < x1 ∧ x1 < 256)) : Mt yX12_pairedOf cX12_pairedOf 6 (some .int) d [aR (74), aI (x1)] σ (QI (fun v σ' => v = prF A (x1).toNat ∧ σ' = σ)) := mt_X12_pairedOf hd hx1 hO (by
  unfold wp_X12_pairedOf
  intro P2 P25 h2 h25
  obtain ⟨hb, ht, hI, hx⟩ := hpre
  obtain ⟨s, rfl⟩ : ∃ s : Nat, x1 = s := ⟨x1.toNat, by omega⟩
  rw [Int.toNat_natCast] at ht
  have rng := prF_r hI
  have l8 := low8N (s := s) (by omega) (by omega)
  have l1 := lowN_bit 16 s (by omega) (by omega)
  have H25 : ∀ (n k : Nat), k + n = 8 → lowN 16 s < k → P25 (s : Int) ((lowN 16 s : Nat) : Int) (prN A (prF A) s k) (k : Int) σ := by
    intro n
    induction n with
    | zero =>
      intro k hk hlk
      have hk2 : k = 8 := by omega
      subst hk2
      refine h25 _ _ _ _ _ (fun _ _ _ _ _ => ⟨fun _ => ⟨?_, rfl⟩, fun h => absurd h (by omega)⟩)
      rw [Int.toNat_natCast, prF_eq A (by omega), if_neg (by omega)]
    | succ n ih =>
      intro k hk hlk
      have ih1 := ih (k + 1) (by omega) (by omega)
      have hbit : ((s : Nat) : Int).toNat.testBit ((k : Nat) : Int).toNat = s.testBit k := by rw [Int.toNat_natCast, Int.toNat_natCast]
      refine h25 _ _ _ _ _ (fun _ _ _ _ _ => ⟨fun h => absurd h (by omega), fun _ => ?_⟩)
      rw [hbit]
      refine ⟨by omega, fun h => ?_, fun h => ⟨by unfold R32; omega, ?_⟩⟩
      · have hrl := rest_lt (s := s) (u := k) (by omega) (by omega)
        have hd := dst_r (th := 1) (wo := -1) (a := ((lowN 16 s : Nat) : Int)) (b := (k : Int)) hI
        have hr := rng 65536 (rest s k) (by omega) (by omega)
        rw [rest_n (by omega) (by omega) (by omega), ht _ hrl (rest_sub (sub_of (fun i hi => hi))), hb _ _ (by omega) (by omega) (by omega) (by omega)]
        have e : prN A (prF A) s (k + 1) = min (prN A (prF A) s k) (prF A (rest s k) + dst A 1 (-1) ((lowN 16 s : Nat) : Int) (k : Int)) := by
          show (if _ then _ else _) = _; rw [if_pos ⟨hlk, h⟩]
        refine ⟨by omega, by omega, by unfold R32; omega, fun y hy => ⟨fun h3 => ⟨by unfold R32; omega, ?_⟩, fun h3 => ⟨by unfold R32; omega, ?_⟩⟩⟩
        · rw [show prN A (prF A) s (k + 1) = prN A (prF A) s k by omega] at ih1; exact ih1
        · rw [show prN A (prF A) s (k + 1) = y by omega] at ih1; exact ih1
      · have e : prN A (prF A) s (k + 1) = prN A (prF A) s k := by
          show (if _ then _ else _) = _; rw [if_neg (fun q => h q.2)]
        rw [e] at ih1; exact ih1
  have H2 : ∀ (n k : Nat), k + n = lowN 16 s → P2 (s : Int) (k : Int) σ := by
    intro n
    induction n with
    | zero =>
      intro k hk
      have hk2 : k = lowN 16 s := by omega
      subst hk2
      have hbit : ((s : Nat) : Int).toNat.testBit (((lowN 16 s : Nat) : Int)).toNat = s.testBit (lowN 16 s) := by rw [Int.toNat_natCast, Int.toNat_natCast]
      refine h2 _ _ _ (fun _ _ _ => ?_)
      rw [hbit]
      refine ⟨by omega, fun _ => ⟨by unfold R32; omega, ?_⟩, fun h => absurd l1.1 h⟩
      have := H25 (8 - (lowN 16 s + 1)) (lowN 16 s + 1) (by omega) (by omega)
      rw [prN_low _ (Nat.le_refl _), show ((lowN 16 s + 1 : Nat) : Int) = ((lowN 16 s : Nat) : Int) + 1 by omega] at this
      exact this
    | succ n ih =>
      intro k hk
      have hbit : ((s : Nat) : Int).toNat.testBit ((k : Nat) : Int).toNat = s.testBit k := by rw [Int.toNat_natCast, Int.toNat_natCast]
      refine h2 _ _ _ (fun _ _ _ => ?_)
      rw [hbit]
      exact ⟨by omega, fun h => absurd h (by rw [l1.2.2 k (by omega)]; simp), fun _ => ⟨by unfold R32; omega, ih (k + 1) (by omega)⟩⟩
  exact H2 (lowN 16 s) 0 (by omega))
