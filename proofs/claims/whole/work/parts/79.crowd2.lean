def wp_X12_layCrowd (x1 : Int) (σ : Mem) (Q : Int → Mem → Prop) : Prop :=
 ∀ P33 : Int → Int → Int → Int → Int → Mem → Prop,
 ∀ P92 : Int → Int → Int → Int → Int → Mem → Prop,
 ∀ P148 : Int → Int → Int → Int → Int → Mem → Prop,
 ∀ P237 : Int → Int → Int → Int → Int → Int → Mem → Prop,
 (∀ (v1 : Int) (v2 : Int) (v3 : Int) (v4 : Int) (v5 : Int) (σ : Mem), (R32 v1 → R32 v2 → R32 v3 → R32 v4 → R32 v5 → OKm σ →
   ((v3 < 0) →
     (0 ≤ (11 + v1) ∧ (11 + v1) < 2119) ∧
     ∀ σ10 : Mem, σ10 = mset σ 75 (11 + v1) v5 →
     Q v2 σ10) ∧
    ((0 ≤ v3) →
     (0 ≤ v3 ∧ v3 < 7) ∧
     (((σ 88 v3) ≠ (-1)) →
      (0 ≤ v3 ∧ v3 < 7) ∧
      ∀ y16 : Int, y16 = (bAnd v4 (bXor (bShl 1 (σ 88 v3)) (-1))) →
      (0 ≤ v3 ∧ v3 < 7) ∧
      (0 ≤ (11 + v1) ∧ (11 + v1) < 2119) ∧
      ∀ σ19 : Mem, σ19 = mset σ 75 (11 + v1) (σ 90 v3) →
      (0 ≤ v3 ∧ v3 < 7) ∧
      (0 ≤ v3 ∧ v3 < 7) ∧
      R32 ((σ19 88 v3) + 1) ∧
      ∀ σ25 : Mem, σ25 = mset σ19 88 v3 ((σ19 88 v3) + 1) →
      P92 v1 v2 v3 y16 v5 σ25) ∧
     (((σ 88 v3) = (-1)) →
      (0 ≤ v3 ∧ v3 < 7) ∧
      (0 ≤ (11 + v1) ∧ (11 + v1) < 2119) ∧
      ∀ σ30 : Mem, σ30 = mset σ 75 (11 + v1) (σ 90 v3) →
      (0 ≤ v3 ∧ v3 < 7) ∧
      (0 ≤ v3 ∧ v3 < 7) ∧
      R32 ((σ30 88 v3) + 1) ∧
      ∀ σ36 : Mem, σ36 = mset σ30 88 v3 ((σ30 88 v3) + 1) →
      P92 v1 v2 v3 (bAnd v4 v4) v5 σ36))) → P33 v1 v2 v3 v4 v5 σ) →
 (∀ (v1 : Int) (v2 : Int) (v3 : Int) (v4 : Int) (v5 : Int) (σ : Mem), (R32 v1 → R32 v2 → R32 v3 → R32 v4 → R32 v5 → OKm σ →
   (0 ≤ v3 ∧ v3 < 7) ∧
    (((σ 75 1) ≤ (σ 88 v3)) →
     P148 v1 v2 v3 v4 v5 σ) ∧
    (((σ 88 v3) < (σ 75 1)) →
     (0 ≤ v3 ∧ v3 < 7) ∧
     ((0 ≤ v4 ∧ v4 < 2147483648) ∧ (0 ≤ (σ 88 v3) ∧ (σ 88 v3) < 31)) ∧
     (((v4).toNat.testBit ((σ 88 v3)).toNat = true) →
      (0 ≤ v3 ∧ v3 < 7) ∧
      (0 ≤ v3 ∧ v3 < 7) ∧
      R32 ((σ 88 v3) + 1) ∧
      ∀ σ49 : Mem, σ49 = mset σ 88 v3 ((σ 88 v3) + 1) →
      P92 v1 v2 v3 v4 v5 σ49) ∧
     ((¬ ((v4).toNat.testBit ((σ 88 v3)).toNat = true)) →
      (0 ≤ v3 ∧ v3 < 7) ∧
      ∃ g53 : Mem, ∃ g54 : Nat → Txt, (vwM σ g53 g54 ∧ (0 ≤ (σ 88 v3) ∧ (σ 88 v3) < g53 10 1) ∧ (0 ≤ v1 ∧ v1 < g53 10 0)) ∧
      ∀ (u59 : Int) (σ58 : Mem), R32 u59 → OKm σ58 → (u59 = (if skS g53 g54 (g53 10 4) (σ 88 v3) v1 ≤ g53 1 v1 then 1 else 0) ∧ vwM σ58 g53 g54 ∧ Fr F80 σ σ58) →
      ((u59 ≠ 0) →
       P148 v1 v2 v3 v4 v5 σ58) ∧
      ((u59 = 0) →
       (0 ≤ v3 ∧ v3 < 7) ∧
       (0 ≤ v3 ∧ v3 < 7) ∧
       R32 ((σ58 88 v3) + 1) ∧
       ∀ σ65 : Mem, σ65 = mset σ58 88 v3 ((σ58 88 v3) + 1) →
       P92 v1 v2 v3 v4 v5 σ65)))) → P92 v1 v2 v3 v4 v5 σ) →
 (∀ (v1 : Int) (v2 : Int) (v3 : Int) (v4 : Int) (v5 : Int) (σ : Mem), (R32 v1 → R32 v2 → R32 v3 → R32 v4 → R32 v5 → OKm σ →
   (0 ≤ v3 ∧ v3 < 7) ∧
    (((σ 88 v3) < (σ 75 1)) →
     (0 ≤ v3 ∧ v3 < 7) ∧
     ∀ y71 : Int, y71 = (bOr v4 (bShl 1 (σ 88 v3))) →
     (0 ≤ v3 ∧ v3 < 7) ∧
     (0 ≤ v3 ∧ v3 < 7) ∧
     ∃ g74 : Mem, ∃ g75 : Nat → Txt, (vwM σ g74 g75 ∧ (-1 ≤ (σ 75 3) ∧ (σ 75 3) < g74 10 2) ∧ (0 ≤ (σ 88 v3) ∧ (σ 88 v3) < g74 10 1) ∧ (0 ≤ v1 ∧ v1 < g74 10 0)) ∧
     ∀ (u80 : Int) (σ79 : Mem), R32 u80 → OKm σ79 → (u80 = skS g74 g75 (σ 75 3) (σ 88 v3) v1 ∧ vwM σ79 g74 g75 ∧ Fr [80, 81, 82] σ σ79) →
     (0 ≤ (v3 + 1) ∧ (v3 + 1) < 7) ∧
     R32 ((σ 90 v3) - u80) ∧
     ∀ σ84 : Mem, σ84 = mset σ79 90 (v3 + 1) ((σ 90 v3) - u80) →
     (0 ≤ (v3 + 1) ∧ (v3 + 1) < 7) ∧
     ∀ σ88 : Mem, σ88 = mset σ84 88 (v3 + 1) (-1) →
     R32 (v3 + 1) ∧
     ((v2 < (v3 + 1)) →
      P237 v1 (v3 + 1) (v3 + 1) y71 v5 0 σ88) ∧
     (((v3 + 1) ≤ v2) →
      P33 v1 v2 (v3 + 1) y71 v5 σ88)) ∧
    (((σ 75 1) ≤ (σ 88 v3)) →
     R32 (v3 + (-1)) ∧ P33 v1 v2 (v3 + (-1)) v4 v5 σ)) → P148 v1 v2 v3 v4 v5 σ) →
 (∀ (v1 : Int) (v2 : Int) (v3 : Int) (v4 : Int) (v5 : Int) (v6 : Int) (σ : Mem), (R32 v1 → R32 v2 → R32 v3 → R32 v4 → R32 v5 → R32 v6 → OKm σ →
   ((v3 ≤ v6) →
     P33 v1 v2 v3 v4 v5 σ) ∧
    ((v6 < v3) →
     (0 ≤ v6 ∧ v6 < 7) ∧
     (0 ≤ v6 ∧ v6 < 6) ∧
     ∀ σ97 : Mem, σ97 = mset σ 89 v6 (σ 88 v6) →
     R32 (v6 + 1) ∧ P237 v1 v2 v3 v4 v5 (v6 + 1) σ97)) → P237 v1 v2 v3 v4 v5 v6 σ) →
  (0 ≤ (11 + x1) ∧ (11 + x1) < 2119) ∧
   ∀ σ2 : Mem, σ2 = mset σ 88 0 (-1) →
   ∀ σ5 : Mem, σ5 = mset σ2 90 0 (σ 75 (11 + x1)) →
   P33 x1 0 0 0 (σ 75 (11 + x1)) σ5
theorem mt_X12_layCrowd {d : Nat} (hd : 6 ≤ d) {x1 : Int} {σ : Mem} {Q : Int → Mem → Prop} (hx1 : R32 x1) (hO : OKm σ) (h : wp_X12_layCrowd x1 σ Q) : Mt yX12_layCrowd cX12_layCrowd 7 (some .int) d [aR (74), aI (x1)] σ (QI Q) := by
  refine Mt.intro (by decide +kernel) (Nat.le_of_ble_eq_true rfl) [(0, aR (74)), (1, aI (x1))] rfl ?_
  unfold wp_X12_layCrowd at h
  have h := h (fun (v1 : Int) (v2 : Int) (v3 : Int) (v4 : Int) (v5 : Int) (σ : Mem) => R32 v1 → R32 v2 → R32 v3 → R32 v4 → R32 v5 → OKm σ → G yX12_layCrowd cX12_layCrowd 7 (some .int) d (QI Q) 33 [(0, aR (74)), (1, aI (v1)), (2, aI (v2)), (3, aI (v3)), (4, aI (v4)), (5, aI (v5))] [] σ)
    (fun (v1 : Int) (v2 : Int) (v3 : Int) (v4 : Int) (v5 : Int) (σ : Mem) => R32 v1 → R32 v2 → R32 v3 → R32 v4 → R32 v5 → OKm σ → G yX12_layCrowd cX12_layCrowd 7 (some .int) d (QI Q) 92 [(0, aR (74)), (1, aI (v1)), (2, aI (v2)), (3, aI (v3)), (4, aI (v4)), (5, aI (v5))] [] σ)
    (fun (v1 : Int) (v2 : Int) (v3 : Int) (v4 : Int) (v5 : Int) (σ : Mem) => R32 v1 → R32 v2 → R32 v3 → R32 v4 → R32 v5 → OKm σ → G yX12_layCrowd cX12_layCrowd 7 (some .int) d (QI Q) 148 [(0, aR (74)), (1, aI (v1)), (2, aI (v2)), (3, aI (v3)), (4, aI (v4)), (5, aI (v5))] [] σ)
    (fun (v1 : Int) (v2 : Int) (v3 : Int) (v4 : Int) (v5 : Int) (v6 : Int) (σ : Mem) => R32 v1 → R32 v2 → R32 v3 → R32 v4 → R32 v5 → R32 v6 → OKm σ → G yX12_layCrowd cX12_layCrowd 7 (some .int) d (QI Q) 237 [(0, aR (74)), (1, aI (v1)), (2, aI (v2)), (3, aI (v3)), (4, aI (v4)), (5, aI (v5)), (6, aI (v6))] [] σ) ?_ ?_ ?_ ?_
  · refine G_iconst dX12_layCrowd_0 ?_
    refine G_istore_n (lv' := [(2, aI (0)), (0, aR (74)), (1, aI (x1))]) rfl rfl (by decide) dX12_layCrowd_1 ?_
    refine G_iconst dX12_layCrowd_2 ?_
    refine G_istore_n (lv' := [(3, aI (0)), (2, aI (0)), (0, aR (74)), (1, aI (x1))]) rfl rfl (by decide) dX12_layCrowd_3 ?_
    refine G_iconst dX12_layCrowd_4 ?_
    refine G_istore (lv' := [(4, aI (0)), (3, aI (0)), (2, aI (0)), (0, aR (74)), (1, aI (x1))]) rfl (by decide) dX12_layCrowd_5 ?_
    refine G_aload_n 3 rfl rfl dX12_layCrowd_7 ?_
    refine G_get (k := 0) (kd := (2, 75)) (v := aR 75) gf_X12_7 rfl rfl rfl rfl dX12_layCrowd_8 ?_
    refine G_bipush (by decide) dX12_layCrowd_11 ?_
    refine G_iload_n 4 rfl rfl dX12_layCrowd_13 ?_
    refine G_iadd dX12_layCrowd_14 ?_
    obtain ⟨c1, h⟩ := h
    refine G_iald (n := 2119) rfl c1.1 c1.2 dX12_layCrowd_15 ?_
    refine G_istore (lv' := [(5, aI ((σ 75 (11 + x1)))), (4, aI (0)), (3, aI (0)), (2, aI (0)), (0, aR (74)), (1, aI (x1))]) rfl (by decide) dX12_layCrowd_16 ?_
    refine G_aload_n 4 rfl rfl dX12_layCrowd_18 ?_
    refine G_get (k := 30) (kd := (2, 88)) (v := aR 88) gf_X12_62 rfl rfl rfl rfl dX12_layCrowd_19 ?_
    refine G_iconst dX12_layCrowd_22 ?_
    refine G_iconst dX12_layCrowd_23 ?_
    obtain ⟨σ2, e4⟩ : ∃ τ : Mem, τ = mset σ 88 0 (-1) := ⟨_, rfl⟩
    have h := h σ2 e4
    have o3 : OKm σ2 := by rw [e4]; exact OKm.seti hO _ _ _ (rL (-1) rfl) (isLg_row (show shp 88 = (1, 7, []) from rfl) _)
    refine G_iast (n := 7) rfl (by decide) (by decide) dX12_layCrowd_24 ?_
    rw [← e4]
    refine G_aload_n 4 rfl rfl dX12_layCrowd_25 ?_
    refine G_get (k := 32) (kd := (2, 90)) (v := aR 90) gf_X12_68 rfl rfl rfl rfl dX12_layCrowd_26 ?_
    refine G_iconst dX12_layCrowd_29 ?_
    refine G_iload 0 rfl dX12_layCrowd_30 ?_
    obtain ⟨σ5, e7⟩ : ∃ τ : Mem, τ = mset σ2 90 0 (σ 75 (11 + x1)) := ⟨_, rfl⟩
    have h := h σ5 e7
    have o6 : OKm σ5 := by rw [e7]; exact OKm.seti o3 _ _ _ (OKm.i hO 75 (11 + x1) (isLg_row (show shp 75 = (1, 2119, []) from rfl) _)) (isLg_row (show shp 90 = (1, 7, []) from rfl) _)
    refine G_iast (n := 7) rfl (by decide) (by decide) dX12_layCrowd_32 ?_
    rw [← e7]
    exact G_pick [4, 5, 3, 2, 1, 0] rfl (h hx1 (rL 0 rfl) (rL 0 rfl) (rL 0 rfl) (OKm.i hO 75 (11 + x1) (isLg_row (show shp 75 = (1, 2119, []) from rfl) _)) o6)
  · intro v1 v2 v3 v4 v5 σ h hv1 hv2 hv3 hv4 hv5 hO
    have h := h hv1 hv2 hv3 hv4 hv5 hO
    refine G_iload_n 3 rfl rfl dX12_layCrowd_33 ?_
    refine G_if_lt hv3 dX12_layCrowd_34 (tgt := 266) (by decide) (fun c8 => ?_) (fun c8 => ?_)
    · have h := h.1 c8
      refine G_aload_n 0 rfl rfl dX12_layCrowd_266 ?_
      refine G_get (k := 0) (kd := (2, 75)) (v := aR 75) gf_X12_7 rfl rfl rfl rfl dX12_layCrowd_267 ?_
      refine G_bipush (by decide) dX12_layCrowd_270 ?_
      refine G_iload_n 1 rfl rfl dX12_layCrowd_272 ?_
      refine G_iadd dX12_layCrowd_273 ?_
      refine G_iload 5 rfl dX12_layCrowd_274 ?_
      obtain ⟨c9, h⟩ := h
      obtain ⟨σ10, e12⟩ : ∃ τ : Mem, τ = mset σ 75 (11 + v1) v5 := ⟨_, rfl⟩
      have h := h σ10 e12
      have o11 : OKm σ10 := by rw [e12]; exact OKm.seti hO _ _ _ hv5 (isLg_row (show shp 75 = (1, 2119, []) from rfl) _)
      refine G_iast (n := 2119) rfl c9.1 c9.2 dX12_layCrowd_276 ?_
      rw [← e12]
      refine G_iload_n 2 rfl rfl dX12_layCrowd_277 ?_
      exact G_iret rfl hv2 dX12_layCrowd_278 ⟨_, rfl, h⟩ o11
    · have h := h.2 c8
      refine G_iload 4 rfl dX12_layCrowd_37 ?_
      refine G_aload_n 0 rfl rfl dX12_layCrowd_39 ?_
      refine G_get (k := 30) (kd := (2, 88)) (v := aR 88) gf_X12_62 rfl rfl rfl rfl dX12_layCrowd_40 ?_
      refine G_iload_n 3 rfl rfl dX12_layCrowd_43 ?_
      obtain ⟨c13, h⟩ := h
      refine G_iald (n := 7) rfl c13.1 c13.2 dX12_layCrowd_44 ?_
      refine G_iconst dX12_layCrowd_45 ?_
      refine G_icmp_ne (OKm.i hO 88 v3 (isLg_row (show shp 88 = (1, 7, []) from rfl) _)) (rL (-1) rfl) dX12_layCrowd_46 (tgt := 54) (by decide) (fun c14 => ?_) (fun c14 => ?_)
      · have h := h.1 c14
        refine G_iconst dX12_layCrowd_54 ?_
        refine G_aload_n 0 rfl rfl dX12_layCrowd_55 ?_
        refine G_get (k := 30) (kd := (2, 88)) (v := aR 88) gf_X12_62 rfl rfl rfl rfl dX12_layCrowd_56 ?_
        refine G_iload_n 3 rfl rfl dX12_layCrowd_59 ?_
        obtain ⟨c15, h⟩ := h
        refine G_iald (n := 7) rfl c15.1 c15.2 dX12_layCrowd_60 ?_
        refine G_ishl dX12_layCrowd_61 ?_
        refine G_iconst dX12_layCrowd_62 ?_
        refine G_ixor dX12_layCrowd_63 ?_
        refine G_iand dX12_layCrowd_64 ?_
        have h := h _ rfl
        refine G_istore (lv' := [(4, aI (((bAnd v4 (bXor (bShl 1 (σ 88 v3)) (-1)))))), (0, aR (74)), (1, aI (v1)), (2, aI (v2)), (3, aI (v3)), (5, aI (v5))]) rfl (by decide) dX12_layCrowd_65 ?_
        refine G_aload_n 1 rfl rfl dX12_layCrowd_67 ?_
        refine G_get (k := 0) (kd := (2, 75)) (v := aR 75) gf_X12_7 rfl rfl rfl rfl dX12_layCrowd_68 ?_
        refine G_bipush (by decide) dX12_layCrowd_71 ?_
        refine G_iload_n 2 rfl rfl dX12_layCrowd_73 ?_
        refine G_iadd dX12_layCrowd_74 ?_
        refine G_aload_n 1 rfl rfl dX12_layCrowd_75 ?_
        refine G_get (k := 32) (kd := (2, 90)) (v := aR 90) gf_X12_68 rfl rfl rfl rfl dX12_layCrowd_76 ?_
        refine G_iload_n 4 rfl rfl dX12_layCrowd_79 ?_
        obtain ⟨c17, h⟩ := h
        refine G_iald (n := 7) rfl c17.1 c17.2 dX12_layCrowd_80 ?_
        obtain ⟨c18, h⟩ := h
        obtain ⟨σ19, e21⟩ : ∃ τ : Mem, τ = mset σ 75 (11 + v1) (σ 90 v3) := ⟨_, rfl⟩
        have h := h σ19 e21
        have o20 : OKm σ19 := by rw [e21]; exact OKm.seti hO _ _ _ (OKm.i hO 90 v3 (isLg_row (show shp 90 = (1, 7, []) from rfl) _)) (isLg_row (show shp 75 = (1, 2119, []) from rfl) _)
        refine G_iast (n := 2119) rfl c18.1 c18.2 dX12_layCrowd_81 ?_
        rw [← e21]
        refine G_aload_n 1 rfl rfl dX12_layCrowd_82 ?_
        refine G_get (k := 30) (kd := (2, 88)) (v := aR 88) gf_X12_62 rfl rfl rfl rfl dX12_layCrowd_83 ?_
        refine G_iload_n 4 rfl rfl dX12_layCrowd_86 ?_
        refine G_dup2 rfl rfl dX12_layCrowd_87 ?_
        obtain ⟨c22, h⟩ := h
        refine G_iald (n := 7) rfl c22.1 c22.2 dX12_layCrowd_88 ?_
        refine G_iconst dX12_layCrowd_89 ?_
        refine G_iadd dX12_layCrowd_90 ?_
        obtain ⟨c23, h⟩ := h
        obtain ⟨c24, h⟩ := h
        obtain ⟨σ25, e27⟩ : ∃ τ : Mem, τ = mset σ19 88 v3 ((σ19 88 v3) + 1) := ⟨_, rfl⟩
        have h := h σ25 e27
        have o26 : OKm σ25 := by rw [e27]; exact OKm.seti o20 _ _ _ c24 (isLg_row (show shp 88 = (1, 7, []) from rfl) _)
        refine G_iast (n := 7) rfl c23.1 c23.2 dX12_layCrowd_91 ?_
        rw [← e27]
        exact G_pick [1, 2, 3, 4, 0, 5] rfl (h hv1 hv2 hv3 (r32_of _) hv5 o26)
      · have h := h.2 c14
        refine G_iload 4 rfl dX12_layCrowd_49 ?_
        refine G_goto (tgt := 64) dX12_layCrowd_51 (by decide) ?_
        refine G_iand dX12_layCrowd_64 ?_
        refine G_istore (lv' := [(4, aI ((bAnd v4 v4))), (0, aR (74)), (1, aI (v1)), (2, aI (v2)), (3, aI (v3)), (5, aI (v5))]) rfl (by decide) dX12_layCrowd_65 ?_
        refine G_aload_n 1 rfl rfl dX12_layCrowd_67 ?_
        refine G_get (k := 0) (kd := (2, 75)) (v := aR 75) gf_X12_7 rfl rfl rfl rfl dX12_layCrowd_68 ?_
        refine G_bipush (by decide) dX12_layCrowd_71 ?_
        refine G_iload_n 2 rfl rfl dX12_layCrowd_73 ?_
        refine G_iadd dX12_layCrowd_74 ?_
        refine G_aload_n 1 rfl rfl dX12_layCrowd_75 ?_
        refine G_get (k := 32) (kd := (2, 90)) (v := aR 90) gf_X12_68 rfl rfl rfl rfl dX12_layCrowd_76 ?_
        refine G_iload_n 4 rfl rfl dX12_layCrowd_79 ?_
        obtain ⟨c28, h⟩ := h
        refine G_iald (n := 7) rfl c28.1 c28.2 dX12_layCrowd_80 ?_
        obtain ⟨c29, h⟩ := h
        obtain ⟨σ30, e32⟩ : ∃ τ : Mem, τ = mset σ 75 (11 + v1) (σ 90 v3) := ⟨_, rfl⟩
        have h := h σ30 e32
        have o31 : OKm σ30 := by rw [e32]; exact OKm.seti hO _ _ _ (OKm.i hO 90 v3 (isLg_row (show shp 90 = (1, 7, []) from rfl) _)) (isLg_row (show shp 75 = (1, 2119, []) from rfl) _)
        refine G_iast (n := 2119) rfl c29.1 c29.2 dX12_layCrowd_81 ?_
        rw [← e32]
        refine G_aload_n 1 rfl rfl dX12_layCrowd_82 ?_
        refine G_get (k := 30) (kd := (2, 88)) (v := aR 88) gf_X12_62 rfl rfl rfl rfl dX12_layCrowd_83 ?_
        refine G_iload_n 4 rfl rfl dX12_layCrowd_86 ?_
        refine G_dup2 rfl rfl dX12_layCrowd_87 ?_
        obtain ⟨c33, h⟩ := h
        refine G_iald (n := 7) rfl c33.1 c33.2 dX12_layCrowd_88 ?_
        refine G_iconst dX12_layCrowd_89 ?_
        refine G_iadd dX12_layCrowd_90 ?_
        obtain ⟨c34, h⟩ := h
        obtain ⟨c35, h⟩ := h
        obtain ⟨σ36, e38⟩ : ∃ τ : Mem, τ = mset σ30 88 v3 ((σ30 88 v3) + 1) := ⟨_, rfl⟩
        have h := h σ36 e38
        have o37 : OKm σ36 := by rw [e38]; exact OKm.seti o31 _ _ _ c35 (isLg_row (show shp 88 = (1, 7, []) from rfl) _)
        refine G_iast (n := 7) rfl c34.1 c34.2 dX12_layCrowd_91 ?_
        rw [← e38]
        exact G_pick [1, 2, 3, 4, 0, 5] rfl (h hv1 hv2 hv3 (r32_of _) hv5 o37)
  · intro v1 v2 v3 v4 v5 σ h hv1 hv2 hv3 hv4 hv5 hO
    have h := h hv1 hv2 hv3 hv4 hv5 hO
    refine G_aload_n 0 rfl rfl dX12_layCrowd_92 ?_
    refine G_get (k := 30) (kd := (2, 88)) (v := aR 88) gf_X12_62 rfl rfl rfl rfl dX12_layCrowd_93 ?_
    refine G_iload_n 3 rfl rfl dX12_layCrowd_96 ?_
    obtain ⟨c39, h⟩ := h
    refine G_iald (n := 7) rfl c39.1 c39.2 dX12_layCrowd_97 ?_
    refine G_aload_n 0 rfl rfl dX12_layCrowd_98 ?_
    refine G_get (k := 0) (kd := (2, 75)) (v := aR 75) gf_X12_7 rfl rfl rfl rfl dX12_layCrowd_99 ?_
    refine G_iconst dX12_layCrowd_102 ?_
    refine G_iald (n := 2119) rfl (by decide) (by decide) dX12_layCrowd_103 ?_
    refine G_icmp_ge (OKm.i hO 88 v3 (isLg_row (show shp 88 = (1, 7, []) from rfl) _)) (OKm.i hO 75 1 (isLg_row (show shp 75 = (1, 2119, []) from rfl) _)) dX12_layCrowd_104 (tgt := 148) (by decide) (fun c40 => ?_) (fun c40 => ?_)
    · have h := h.1 c40
      exact G_pick [0, 1, 2, 3, 4, 5] rfl (h hv1 hv2 hv3 hv4 hv5 hO)
    · have h := h.2 c40
      refine G_iload 4 rfl dX12_layCrowd_107 ?_
      refine G_aload_n 0 rfl rfl dX12_layCrowd_109 ?_
      refine G_get (k := 30) (kd := (2, 88)) (v := aR 88) gf_X12_62 rfl rfl rfl rfl dX12_layCrowd_110 ?_
      refine G_iload_n 3 rfl rfl dX12_layCrowd_113 ?_
      obtain ⟨c41, h⟩ := h
      refine G_iald (n := 7) rfl c41.1 c41.2 dX12_layCrowd_114 ?_
      obtain ⟨c42, h⟩ := h
      refine G_callS (as := [_, _]) cf_X12_258 rfl (sp_X12_has (d - 1) (by omega) _ hO _ hv4 _ (OKm.i hO 88 v3 (isLg_row (show shp 88 = (1, 7, []) from rfl) _)) c42) (by omega) rfl rfl (Nat.le_of_ble_eq_true rfl) dX12_layCrowd_115 ?_
      rintro _ _ ⟨_, rfl, rfl, rfl⟩ o44 r43
      refine G_if_ne (bI_R _) dX12_layCrowd_118 (tgt := 135) (by decide) (fun c45 => ?_) (fun c45 => ?_)
      · have h := h.1 (bI_ne c45)
        refine G_aload_n 0 rfl rfl dX12_layCrowd_135 ?_
        refine G_get (k := 30) (kd := (2, 88)) (v := aR 88) gf_X12_62 rfl rfl rfl rfl dX12_layCrowd_136 ?_
        refine G_iload_n 3 rfl rfl dX12_layCrowd_139 ?_
        refine G_dup2 rfl rfl dX12_layCrowd_140 ?_
        obtain ⟨c46, h⟩ := h
        refine G_iald (n := 7) rfl c46.1 c46.2 dX12_layCrowd_141 ?_
        refine G_iconst dX12_layCrowd_142 ?_
        refine G_iadd dX12_layCrowd_143 ?_
        obtain ⟨c47, h⟩ := h
        obtain ⟨c48, h⟩ := h
        obtain ⟨σ49, e51⟩ : ∃ τ : Mem, τ = mset σ 88 v3 ((σ 88 v3) + 1) := ⟨_, rfl⟩
        have h := h σ49 e51
        have o50 : OKm σ49 := by rw [e51]; exact OKm.seti hO _ _ _ c48 (isLg_row (show shp 88 = (1, 7, []) from rfl) _)
        refine G_iast (n := 7) rfl c47.1 c47.2 dX12_layCrowd_144 ?_
        rw [← e51]
        refine G_goto (tgt := 92) dX12_layCrowd_145 (by decide) ?_
        exact G_pick [0, 1, 2, 3, 4, 5] rfl (h hv1 hv2 hv3 hv4 hv5 o50)
      · have h := h.2 ((bI_0 _).mp c45)
        refine G_aload_n 0 rfl rfl dX12_layCrowd_121 ?_
        refine G_aload_n 0 rfl rfl dX12_layCrowd_122 ?_
        refine G_get (k := 30) (kd := (2, 88)) (v := aR 88) gf_X12_62 rfl rfl rfl rfl dX12_layCrowd_123 ?_
        refine G_iload_n 3 rfl rfl dX12_layCrowd_126 ?_
        obtain ⟨c52, h⟩ := h
        refine G_iald (n := 7) rfl c52.1 c52.2 dX12_layCrowd_127 ?_
        refine G_iload_n 1 rfl rfl dX12_layCrowd_128 ?_
        obtain ⟨g53, g54, c55, h⟩ := h
        refine G_callV (as := [_, _]) cf_X12_342 rfl rfl rfl (sp_X12_isThick (d - 1) (by omega) _ hO _ (OKm.i hO 88 v3 (isLg_row (show shp 88 = (1, 7, []) from rfl) _)) _ hv1 g53 g54 c55) (by omega) rfl rfl (Nat.le_of_ble_eq_true rfl) dX12_layCrowd_129 ?_
        rintro _ σ58 ⟨u59, rfl, z60⟩ o57 r56
        have h := h _ _ (r56 _ rfl) o57 z60
        refine G_if_ne (r56 _ rfl) dX12_layCrowd_132 (tgt := 148) (by decide) (fun c61 => ?_) (fun c61 => ?_)
        · have h := h.1 c61
          exact G_pick [0, 1, 2, 3, 4, 5] rfl (h hv1 hv2 hv3 hv4 hv5 o57)
        · have h := h.2 c61
          refine G_aload_n 0 rfl rfl dX12_layCrowd_135 ?_
          refine G_get (k := 30) (kd := (2, 88)) (v := aR 88) gf_X12_62 rfl rfl rfl rfl dX12_layCrowd_136 ?_
          refine G_iload_n 3 rfl rfl dX12_layCrowd_139 ?_
          refine G_dup2 rfl rfl dX12_layCrowd_140 ?_
          obtain ⟨c62, h⟩ := h
          refine G_iald (n := 7) rfl c62.1 c62.2 dX12_layCrowd_141 ?_
          refine G_iconst dX12_layCrowd_142 ?_
          refine G_iadd dX12_layCrowd_143 ?_
          obtain ⟨c63, h⟩ := h
          obtain ⟨c64, h⟩ := h
          obtain ⟨σ65, e67⟩ : ∃ τ : Mem, τ = mset σ58 88 v3 ((σ58 88 v3) + 1) := ⟨_, rfl⟩
          have h := h σ65 e67
          have o66 : OKm σ65 := by rw [e67]; exact OKm.seti o57 _ _ _ c64 (isLg_row (show shp 88 = (1, 7, []) from rfl) _)
          refine G_iast (n := 7) rfl c63.1 c63.2 dX12_layCrowd_144 ?_
          rw [← e67]
          refine G_goto (tgt := 92) dX12_layCrowd_145 (by decide) ?_
          exact G_pick [0, 1, 2, 3, 4, 5] rfl (h hv1 hv2 hv3 hv4 hv5 o66)
  · intro v1 v2 v3 v4 v5 σ h hv1 hv2 hv3 hv4 hv5 hO
    have h := h hv1 hv2 hv3 hv4 hv5 hO
    refine G_aload_n 0 rfl rfl dX12_layCrowd_148 ?_
    refine G_get (k := 30) (kd := (2, 88)) (v := aR 88) gf_X12_62 rfl rfl rfl rfl dX12_layCrowd_149 ?_
    refine G_iload_n 3 rfl rfl dX12_layCrowd_152 ?_
    obtain ⟨c68, h⟩ := h
    refine G_iald (n := 7) rfl c68.1 c68.2 dX12_layCrowd_153 ?_
    refine G_aload_n 0 rfl rfl dX12_layCrowd_154 ?_
    refine G_get (k := 0) (kd := (2, 75)) (v := aR 75) gf_X12_7 rfl rfl rfl rfl dX12_layCrowd_155 ?_
    refine G_iconst dX12_layCrowd_158 ?_
    refine G_iald (n := 2119) rfl (by decide) (by decide) dX12_layCrowd_159 ?_
    refine G_icmp_lt (OKm.i hO 88 v3 (isLg_row (show shp 88 = (1, 7, []) from rfl) _)) (OKm.i hO 75 1 (isLg_row (show shp 75 = (1, 2119, []) from rfl) _)) dX12_layCrowd_160 (tgt := 169) (by decide) (fun c69 => ?_) (fun c69 => ?_)
    · have h := h.1 c69
      refine G_iload 4 rfl dX12_layCrowd_169 ?_
      refine G_iconst dX12_layCrowd_171 ?_
      refine G_aload_n 0 rfl rfl dX12_layCrowd_172 ?_
      refine G_get (k := 30) (kd := (2, 88)) (v := aR 88) gf_X12_62 rfl rfl rfl rfl dX12_layCrowd_173 ?_
      refine G_iload_n 3 rfl rfl dX12_layCrowd_176 ?_
      obtain ⟨c70, h⟩ := h
      refine G_iald (n := 7) rfl c70.1 c70.2 dX12_layCrowd_177 ?_
      refine G_ishl dX12_layCrowd_178 ?_
      refine G_ior dX12_layCrowd_179 ?_
      have h := h _ rfl
      refine G_istore (lv' := [(4, aI (((bOr v4 (bShl 1 (σ 88 v3)))))), (0, aR (74)), (1, aI (v1)), (2, aI (v2)), (3, aI (v3)), (5, aI (v5))]) rfl (by decide) dX12_layCrowd_180 ?_
      refine G_aload_n 1 rfl rfl dX12_layCrowd_182 ?_
      refine G_get (k := 32) (kd := (2, 90)) (v := aR 90) gf_X12_68 rfl rfl rfl rfl dX12_layCrowd_183 ?_
      refine G_iload_n 4 rfl rfl dX12_layCrowd_186 ?_
      refine G_iconst dX12_layCrowd_187 ?_
      refine G_iadd dX12_layCrowd_188 ?_
      refine G_aload_n 1 rfl rfl dX12_layCrowd_189 ?_
      refine G_get (k := 32) (kd := (2, 90)) (v := aR 90) gf_X12_68 rfl rfl rfl rfl dX12_layCrowd_190 ?_
      refine G_iload_n 4 rfl rfl dX12_layCrowd_193 ?_
      obtain ⟨c72, h⟩ := h
      refine G_iald (n := 7) rfl c72.1 c72.2 dX12_layCrowd_194 ?_
      refine G_aload_n 1 rfl rfl dX12_layCrowd_195 ?_
      refine G_aload_n 1 rfl rfl dX12_layCrowd_196 ?_
      refine G_get (k := 0) (kd := (2, 75)) (v := aR 75) gf_X12_7 rfl rfl rfl rfl dX12_layCrowd_197 ?_
      refine G_iconst dX12_layCrowd_200 ?_
      refine G_iald (n := 2119) rfl (by decide) (by decide) dX12_layCrowd_201 ?_
      refine G_aload_n 1 rfl rfl dX12_layCrowd_202 ?_
      refine G_get (k := 30) (kd := (2, 88)) (v := aR 88) gf_X12_62 rfl rfl rfl rfl dX12_layCrowd_203 ?_
      refine G_iload_n 4 rfl rfl dX12_layCrowd_206 ?_
      obtain ⟨c73, h⟩ := h
      refine G_iald (n := 7) rfl c73.1 c73.2 dX12_layCrowd_207 ?_
      refine G_iload_n 2 rfl rfl dX12_layCrowd_208 ?_
      obtain ⟨g74, g75, c76, h⟩ := h
      refine G_callV (as := [_, _, _]) cf_X12_327 rfl rfl rfl (sp_X12_sucksOf (d - 1) (by omega) _ hO _ (OKm.i hO 75 3 (isLg_row (show shp 75 = (1, 2119, []) from rfl) _)) _ (OKm.i hO 88 v3 (isLg_row (show shp 88 = (1, 7, []) from rfl) _)) _ hv1 g74 g75 c76) (by omega) rfl rfl (Nat.le_of_ble_eq_true rfl) dX12_layCrowd_209 ?_
      rintro _ σ79 ⟨u80, rfl, z81⟩ o78 r77
      have h := h _ _ (r77 _ rfl) o78 z81
      refine G_isub dX12_layCrowd_212 ?_
      obtain ⟨c82, h⟩ := h
      obtain ⟨c83, h⟩ := h
      obtain ⟨σ84, e86⟩ : ∃ τ : Mem, τ = mset σ79 90 (v3 + 1) ((σ 90 v3) - u80) := ⟨_, rfl⟩
      have h := h σ84 e86
      have o85 : OKm σ84 := by rw [e86]; exact OKm.seti o78 _ _ _ c83 (isLg_row (show shp 90 = (1, 7, []) from rfl) _)
      refine G_iast (n := 7) rfl c82.1 c82.2 dX12_layCrowd_213 ?_
      rw [← e86]
      refine G_iinc (lv' := [(3, aI ((v3 + 1))), (4, aI (((bOr v4 (bShl 1 (σ 88 v3)))))), (0, aR (74)), (1, aI (v1)), (2, aI (v2)), (5, aI (v5))]) (k := 4) rfl rfl (by decide) dX12_layCrowd_214 ?_
      refine G_aload_n 2 rfl rfl dX12_layCrowd_217 ?_
      refine G_get (k := 30) (kd := (2, 88)) (v := aR 88) gf_X12_62 rfl rfl rfl rfl dX12_layCrowd_218 ?_
      refine G_iload_n 0 rfl rfl dX12_layCrowd_221 ?_
      refine G_iconst dX12_layCrowd_222 ?_
      obtain ⟨c87, h⟩ := h
      obtain ⟨σ88, e90⟩ : ∃ τ : Mem, τ = mset σ84 88 (v3 + 1) (-1) := ⟨_, rfl⟩
      have h := h σ88 e90
      have o89 : OKm σ88 := by rw [e90]; exact OKm.seti o85 _ _ _ (rL (-1) rfl) (isLg_row (show shp 88 = (1, 7, []) from rfl) _)
      refine G_iast (n := 7) rfl c87.1 c87.2 dX12_layCrowd_223 ?_
      rw [← e90]
      refine G_iload_n 0 rfl rfl dX12_layCrowd_224 ?_
      refine G_iload_n 4 rfl rfl dX12_layCrowd_225 ?_
      obtain ⟨c91, h⟩ := h
      refine G_icmp_gt c91 hv2 dX12_layCrowd_226 (tgt := 232) (by decide) (fun c92 => ?_) (fun c92 => ?_)
      · have h := h.1 c92
        refine G_iload_n 0 rfl rfl dX12_layCrowd_232 ?_
        refine G_istore_n (lv' := [(2, aI ((v3 + 1))), (3, aI ((v3 + 1))), (4, aI (((bOr v4 (bShl 1 (σ 88 v3)))))), (0, aR (74)), (1, aI (v1)), (5, aI (v5))]) rfl rfl (by decide) dX12_layCrowd_233 ?_
        refine G_iconst dX12_layCrowd_234 ?_
        refine G_istore (lv' := [(6, aI (0)), (2, aI ((v3 + 1))), (3, aI ((v3 + 1))), (4, aI (((bOr v4 (bShl 1 (σ 88 v3)))))), (0, aR (74)), (1, aI (v1)), (5, aI (v5))]) rfl (by decide) dX12_layCrowd_235 ?_
        exact G_pick [4, 5, 1, 2, 3, 6, 0] rfl (h hv1 c91 c91 (r32_of _) hv5 (rL 0 rfl) o89)
      · have h := h.2 c92
        refine G_goto (tgt := 33) dX12_layCrowd_229 (by decide) ?_
        exact G_pick [2, 3, 4, 0, 1, 5] rfl (h hv1 hv2 c91 (r32_of _) hv5 o89)
    · have h := h.2 c69
      refine G_iinc (lv' := [(3, aI ((v3 + (-1)))), (0, aR (74)), (1, aI (v1)), (2, aI (v2)), (4, aI (v4)), (5, aI (v5))]) (k := 3) rfl rfl (by decide) dX12_layCrowd_163 ?_
      refine G_goto (tgt := 33) dX12_layCrowd_166 (by decide) ?_
      obtain ⟨c93, h⟩ := h
      exact G_pick [1, 2, 3, 0, 4, 5] rfl (h hv1 hv2 c93 hv4 hv5 hO)
  · intro v1 v2 v3 v4 v5 v6 σ h hv1 hv2 hv3 hv4 hv5 hv6 hO
    have h := h hv1 hv2 hv3 hv4 hv5 hv6 hO
    refine G_iload 6 rfl dX12_layCrowd_237 ?_
    refine G_iload_n 3 rfl rfl dX12_layCrowd_239 ?_
    refine G_icmp_ge hv6 hv3 dX12_layCrowd_240 (tgt := 263) (by decide) (fun c94 => ?_) (fun c94 => ?_)
    · have h := h.1 c94
      refine G_goto (tgt := 33) dX12_layCrowd_263 (by decide) ?_
      exact G_pick [0, 1, 2, 3, 4, 5] rfl (h hv1 hv2 hv3 hv4 hv5 hO)
    · have h := h.2 c94
      refine G_aload_n 0 rfl rfl dX12_layCrowd_243 ?_
      refine G_get (k := 31) (kd := (2, 89)) (v := aR 89) gf_X12_65 rfl rfl rfl rfl dX12_layCrowd_244 ?_
      refine G_iload 6 rfl dX12_layCrowd_247 ?_
      refine G_aload_n 0 rfl rfl dX12_layCrowd_249 ?_
      refine G_get (k := 30) (kd := (2, 88)) (v := aR 88) gf_X12_62 rfl rfl rfl rfl dX12_layCrowd_250 ?_
      refine G_iload 6 rfl dX12_layCrowd_253 ?_
      obtain ⟨c95, h⟩ := h
      refine G_iald (n := 7) rfl c95.1 c95.2 dX12_layCrowd_255 ?_
      obtain ⟨c96, h⟩ := h
      obtain ⟨σ97, e99⟩ : ∃ τ : Mem, τ = mset σ 89 v6 (σ 88 v6) := ⟨_, rfl⟩
      have h := h σ97 e99
      have o98 : OKm σ97 := by rw [e99]; exact OKm.seti hO _ _ _ (OKm.i hO 88 v6 (isLg_row (show shp 88 = (1, 7, []) from rfl) _)) (isLg_row (show shp 89 = (1, 6, []) from rfl) _)
      refine G_iast (n := 6) rfl c96.1 c96.2 dX12_layCrowd_256 ?_
      rw [← e99]
      refine G_iinc (lv' := [(6, aI ((v6 + 1))), (0, aR (74)), (1, aI (v1)), (2, aI (v2)), (3, aI (v3)), (4, aI (v4)), (5, aI (v5))]) (k := 6) rfl rfl (by decide) dX12_layCrowd_257 ?_
      refine G_goto (tgt := 237) dX12_layCrowd_260 (by decide) ?_
      obtain ⟨c100, h⟩ := h
      exact G_pick [1, 2, 3, 4, 5, 6, 0] rfl (h hv1 hv2 hv3 hv4 hv5 c100 o98)

theorem sp_X12_layCrowd (d : Nat) (hd : 6 ≤ d) (σ : Mem) (hO : OKm σ) (x1 : Int) (hx1 : R32 x1) (A : Mem) (tx : Nat → Txt) (hpre : vwM σ A tx ∧ (0 ≤ x1 ∧ x1 < A 10 0)) : Mt yX12_layCrowd cX12_layCrowd 7 (some .int) d [aR (74), aI (x1)] σ (QI (fun v σ' => v = ((crL A tx x1).length : Int) ∧ vwM σ' A tx ∧ onL σ' 89 (crL A tx x1) ∧ (∀ j : Int, j ≠ 11 + x1 → σ' 75 j = σ 75 j) ∧ Fr [75, 80, 81, 82, 88, 89, 90] σ σ')) := mt_X12_layCrowd hd hx1 hO (by
  unfold wp_X12_layCrowd
  intro P33 P92 P148 P237 h33 h92 h148 h237
  obtain ⟨hV, hr⟩ := hpre
  have hI := hV.2.2.1
  have hc := hI.1
  have k1 := hI.2.1 x1 hr.1 hr.2
  have e11 : σ 75 (11 + x1) = A 1 x1 := hV.2.1.2.1 x1 hr.1 hr.2
  rw [e11]
  have hinv : ∀ th : Int, 0 ≤ th ∧ th ≤ A 14 x1 → InvA (mset A 1 x1 th) := fun th h => hI.thick (fun _ _ => h)
  have b10 : ∀ th : Int, mset A 1 x1 th 10 = A 10 := fun th => mset_ne (by omega)
  have b1 : ∀ th : Int, mset A 1 x1 th 1 x1 = th := fun th => mset_self _ _ _ _
  have hG : ((A 10 1).toNat : Int) = A 10 1 := by omega
  have hskr : ∀ (g t : Int), 0 ≤ g ∧ g < A 10 1 → 0 ≤ t ∧ t ≤ A 14 x1 → 0 ≤ skT A tx g x1 t ∧ skT A tx g x1 t ≤ 99 := fun g t hg ht => skT_r hI hg hr ht
  generalize hsk : (fun g t => skT A tx g x1 t) = sk at *
  have esk : ∀ g t, sk g t = skT A tx g x1 t := fun g t => by rw [← hsk]
  generalize hGG : (A 10 1).toNat = G at *
  have M : ∀ (f : Nat) (p : List Int) (T : Int → Int) (u : Int) (b0 : List Int), p.length + f = 6 → okP (G : Int) p → bsP u p → (0 ≤ T (p.length : Int) ∧ T (p.length : Int) ≤ A 14 x1) →
      (∀ τ : Mem, vwM τ (mset A 1 x1 (T (p.length : Int))) tx → (∀ j : Int, j ≠ 11 + x1 → τ 75 j = σ 75 j) → Fr [75, 80, 81, 82, 88, 89, 90] σ τ → onL τ 88 p → (∀ j : Int, 0 ≤ j → j < (p.length : Int) → τ 90 j = T j) → onL τ 89 (visL (vis sk G f) sk p (T (p.length : Int)) G b0) → P33 x1 ((visL (vis sk G f) sk p (T (p.length : Int)) G b0).length : Int) ((p.length : Int) + (-1)) u (A 1 x1) τ) →
      ∀ (n c : Nat) (τ : Mem), c + n = G → vwM τ (mset A 1 x1 (T (p.length : Int))) tx → (∀ j : Int, j ≠ 11 + x1 → τ 75 j = σ 75 j) → Fr [75, 80, 81, 82, 88, 89, 90] σ τ → onL τ 88 p → τ 88 (p.length : Int) = (c : Int) → (∀ j : Int, 0 ≤ j → j ≤ (p.length : Int) → τ 90 j = T j) → onL τ 89 (visL (vis sk G f) sk p (T (p.length : Int)) c b0) → P92 x1 ((visL (vis sk G f) sk p (T (p.length : Int)) c b0).length : Int) (p.length : Int) u (A 1 x1) τ := by
    intro f
    induction f with
    | zero =>
      intro p T u b0 hl hp hu hT K n
      have hfull : ∀ x : Int, 0 ≤ x ∧ x < (G : Int) → x ∈ p := fun x hx => hp.full (by omega) hx
      induction n with
      | zero =>
        intro c τ hcn hVt hj hF hrow hrc htb hbest
        have f1 : τ 75 1 = A 10 1 := by rw [hVt.1.1.2.1, b10]
        have hcG : c = G := by omega
        subst hcG
        refine h92 _ _ _ _ _ _ (fun _ _ _ _ _ _ => ?_)
        rw [hrc, f1]
        refine ⟨by omega, fun _ => ?_, fun h => absurd h (by omega)⟩
        refine h148 _ _ _ _ _ _ (fun _ _ _ _ _ _ => ?_)
        rw [hrc, f1]
        exact ⟨by omega, fun h => absurd h (by omega), fun _ => ⟨by unfold R32; omega, K τ hVt hj hF hrow (fun j a b => htb j a (by omega)) hbest⟩⟩
      | succ n ihn =>
        intro c τ hcn hVt hj hF hrow hrc htb hbest
        have f1 : τ 75 1 = A 10 1 := by rw [hVt.1.1.2.1, b10]
        refine h92 _ _ _ _ _ _ (fun _ _ _ _ _ _ => ?_)
        rw [hrc, f1]
        have hin := hfull (c : Int) (by omega)
        have hbit : u.toNat.testBit ((c : Int)).toNat = true := by
          have := hu.2 (c : Int) (by omega)
          rw [decide_eq_true hin] at this; exact this
        refine ⟨by omega, fun h => absurd h (by omega), fun _ => ⟨by omega, ⟨by have := hu.1; omega, by omega⟩, fun _ => ⟨by omega, by omega, by unfold R32; omega, fun σ49 e49 => ?_⟩, fun h => absurd hbit h⟩⟩
        have hno := visL_no (rc := vis sk G 0) (sk := sk) (p := p) (th := T (p.length : Int)) (k := c) (b := b0) (fun q => q.1 hin)
        rw [← hno] at hbest ⊢
        refine ihn (c + 1) σ49 (by omega) (hVt.fr (by rw [e49]; exact (Fr.rf _ _).set (by simp [ScrM]))) (fun j a => by rw [e49, mset_off (by omega)]; exact hj j a) (by rw [e49]; exact hF.set (by simp)) (hrow.congr (fun i a b => by rw [e49, mset_miss (by omega)])) (by rw [e49, mset_hit rfl]; omega) (fun j a b => by rw [e49, mset_off (by omega)]; exact htb j a b) (hbest.congr (fun i a b => by rw [e49, mset_off (by omega)]))
    | succ f ihf =>
      intro p T u b0 hl hp hu hT K n
      induction n with
      | zero =>
        intro c τ hcn hVt hj hF hrow hrc htb hbest
        have f1 : τ 75 1 = A 10 1 := by rw [hVt.1.1.2.1, b10]
        have hcG : c = G := by omega
        subst hcG
        refine h92 _ _ _ _ _ _ (fun _ _ _ _ _ _ => ?_)
        rw [hrc, f1]
        refine ⟨by omega, fun _ => ?_, fun h => absurd h (by omega)⟩
        refine h148 _ _ _ _ _ _ (fun _ _ _ _ _ _ => ?_)
        rw [hrc, f1]
        exact ⟨by omega, fun h => absurd h (by omega), fun _ => ⟨by unfold R32; omega, K τ hVt hj hF hrow (fun j a b => htb j a (by omega)) hbest⟩⟩
      | succ n ihn =>
        intro c τ hcn hVt hj hF hrow hrc htb hbest
        have f1 : τ 75 1 = A 10 1 := by rw [hVt.1.1.2.1, b10]
        have hcg : 0 ≤ (c : Int) ∧ (c : Int) < A 10 1 := by omega
        have hs := hskr (c : Int) (T (p.length : Int)) hcg hT
        have skip : ∀ ρ : Mem, vwM ρ (mset A 1 x1 (T (p.length : Int))) tx → (∀ j : Int, j ≠ 11 + x1 → ρ 75 j = σ 75 j) → Fr [75, 80, 81, 82, 88, 89, 90] σ ρ → onL ρ 88 p → ρ 88 (p.length : Int) = (c : Int) → (∀ j : Int, 0 ≤ j → j ≤ (p.length : Int) → ρ 90 j = T j) → onL ρ 89 (visL (vis sk G (f + 1)) sk p (T (p.length : Int)) c b0) → ¬ ((c : Int) ∉ p ∧ sk (c : Int) (T (p.length : Int)) ≤ T (p.length : Int)) → ∀ σ' : Mem, σ' = mset ρ 88 (p.length : Int) ((c : Int) + 1) → P92 x1 ((visL (vis sk G (f + 1)) sk p (T (p.length : Int)) c b0).length : Int) (p.length : Int) u (A 1 x1) σ' := by
          intro ρ hVt hj hF hrow hrc htb hbest hn σ49 e49
          have hno := visL_no (rc := vis sk G (f + 1)) (sk := sk) (p := p) (th := T (p.length : Int)) (k := c) (b := b0) hn
          rw [← hno] at hbest ⊢
          exact ihn (c + 1) σ49 (by omega) (hVt.fr (by rw [e49]; exact (Fr.rf _ _).set (by simp [ScrM]))) (fun j a => by rw [e49, mset_off (by omega)]; exact hj j a) (by rw [e49]; exact hF.set (by simp)) (hrow.congr (fun i a b => by rw [e49, mset_miss (by omega)])) (by rw [e49, mset_hit rfl]; omega) (fun j a b => by rw [e49, mset_off (by omega)]; exact htb j a b) (hbest.congr (fun i a b => by rw [e49, mset_off (by omega)]))
        refine h92 _ _ _ _ _ _ (fun _ _ _ _ _ _ => ?_)
        rw [hrc, f1]
        have hbit : (u.toNat.testBit ((c : Int)).toNat = true) ↔ (c : Int) ∈ p := by
          have := hu.2 (c : Int) (by omega)
          unfold tbt at this
          rw [this, decide_eq_true_eq]
        refine ⟨by omega, fun h => absurd h (by omega), fun _ => ⟨by omega, ⟨by have := hu.1; omega, by omega⟩, fun h => ⟨by omega, by omega, by unfold R32; omega, fun σ49 e49 => skip τ hVt hj hF hrow hrc htb hbest (fun q => q.1 (hbit.mp h)) σ49 e49⟩, fun h => ⟨by omega, ?_⟩⟩⟩
        have hnp : (c : Int) ∉ p := fun q => h (hbit.mpr q)
        refine ⟨_, tx, ⟨hVt, by rw [b10]; exact hcg, by rw [b10]; exact hr⟩, ?_⟩
        intro u59 σ58 hu59 hO58 ⟨eu59, hV58, hF58⟩
        rw [b10, b1] at eu59
        have eu59 : u59 = if sk (c : Int) (T (p.length : Int)) ≤ T (p.length : Int) then 1 else 0 := by rw [esk]; exact eu59
        have g88 : σ58 88 = τ 88 := hF58 88 (by simp [F80])
        have g89 : σ58 89 = τ 89 := hF58 89 (by simp [F80])
        have g90 : σ58 90 = τ 90 := hF58 90 (by simp [F80])
        have g75 : σ58 75 = τ 75 := hF58 75 (by simp [F80])
        have hF58' : Fr [75, 80, 81, 82, 88, 89, 90] σ σ58 := hF.tr (hF58.wk (by simp [F80]))
        have hj58 : ∀ j : Int, j ≠ 11 + x1 → σ58 75 j = σ 75 j := fun j a => by rw [g75]; exact hj j a
        have hrow58 : onL σ58 88 p := hrow.congr (fun i _ _ => by rw [g88])
        have hrc58 : σ58 88 (p.length : Int) = (c : Int) := by rw [g88]; exact hrc
        have htb58 : ∀ j : Int, 0 ≤ j → j ≤ (p.length : Int) → σ58 90 j = T j := fun j a b => by rw [g90]; exact htb j a b
        have hbest58 := hbest.congr (τ' := σ58) (fun i _ _ => by rw [g89])
        refine ⟨fun hne => ?_, fun heq => ⟨by omega, by omega, by rw [hrc58]; unfold R32; omega, fun σ65 e65 => ?_⟩⟩
        rotate_left
        · rw [hrc58] at e65
          refine skip σ58 hV58 hj58 hF58' hrow58 hrc58 htb58 hbest58 (fun q => ?_) σ65 e65
          rw [if_pos q.2] at eu59; omega
        have hle : sk (c : Int) (T (p.length : Int)) ≤ T (p.length : Int) := by
          by_cases q : sk (c : Int) (T (p.length : Int)) ≤ T (p.length : Int)
          · exact q
          · rw [if_neg q] at eu59; exact absurd eu59 hne
        have f1b : σ58 75 1 = A 10 1 := by rw [g75]; exact f1
        have f3b : σ58 75 3 = A 10 4 := by rw [vwM_tx hV58, b10]
        refine h148 _ _ _ _ _ _ (fun _ _ _ _ _ _ => ?_)
        rw [hrc58, f1b, f3b]
        refine ⟨by omega, fun _ => ⟨by omega, fun y71 e71 => ⟨by omega, by omega, _, tx, ⟨hV58, by rw [b10]; omega, by rw [b10]; exact hcg, by rw [b10]; exact hr⟩, ?_⟩⟩, fun h => absurd h (by omega)⟩
        intro u80 σ79 hu80 hO79 ⟨eu80, hV79, hF79⟩
        have eu80 : u80 = sk (c : Int) (T (p.length : Int)) := by rw [esk]; exact eu80
        rw [htb58 _ (by omega) (Int.le_refl _), eu80]
        have hsn := esk (c : Int) (T (p.length : Int))
        have hT2 : 0 ≤ T (p.length : Int) - sk (c : Int) (T (p.length : Int)) ∧ T (p.length : Int) - sk (c : Int) (T (p.length : Int)) ≤ A 14 x1 := by omega
        generalize hth' : T (p.length : Int) - sk (c : Int) (T (p.length : Int)) = th' at *
        refine ⟨by omega, by unfold R32; omega, fun σ84 e84 => ⟨by omega, fun σ88 e88 => ⟨by unfold R32; omega, ?_⟩⟩⟩
        have hp' : okP (G : Int) (p ++ [(c : Int)]) := hp.snoc (by omega) hnp
        have hu' : bsP y71 (p ++ [(c : Int)]) := by rw [e71]; exact hu.snoc (by omega)
        have hlen : (p ++ [(c : Int)]).length = p.length + 1 := by simp
        have hlenI : ((p ++ [(c : Int)]).length : Int) = (p.length : Int) + 1 := by omega
        -- at the next place in the row
        let T' : Int → Int := fun j => if j = (p.length : Int) + 1 then th' else T j
        have hT'k : T' ((p ++ [(c : Int)]).length : Int) = th' := by rw [hlenI]; show (if _ then _ else _) = _; rw [if_pos rfl]
        have hT'j : ∀ j : Int, j ≤ (p.length : Int) → T' j = T j := fun j a => by show (if _ then _ else _) = _; rw [if_neg (by omega)]
        have hyes := visL_yes (rc := vis sk G (f + 1)) (sk := sk) (p := p) (th := T (p.length : Int)) (k := c) (b := b0) ⟨hnp, hle⟩
        rw [hth'] at hyes
        generalize hb : visL (vis sk G (f + 1)) sk p (T (p.length : Int)) c b0 = b at *
        have hF88 : Fr [75, 80, 81, 82, 88, 89, 90] σ σ88 := by rw [e88, e84]; exact ((hF58'.tr (hF79.wk (by simp))).set (by simp)).set (by simp)
        have r88 : ∀ i : Int, i ≠ (p.length : Int) + 1 → σ88 88 i = σ58 88 i := fun i a => by rw [e88, mset_miss a, e84, mset_off (by omega), hF79 88 (by simp)]
        have hrow' : onL σ88 88 (p ++ [(c : Int)]) := (hrow58.snoc hrc58).congr (fun i a b => r88 i (by omega))
        have htb' : ∀ j : Int, 0 ≤ j → j ≤ (p.length : Int) + 1 → σ88 90 j = T' j := fun j a b => by
          rw [e88, mset_off (by omega), e84]
          by_cases e : j = (p.length : Int) + 1
          · subst e; rw [mset_hit rfl]; show _ = (if _ then _ else _); rw [if_pos rfl]
          · rw [mset_miss e, hT'j j (by omega), hF79 90 (by simp)]; exact htb58 j a (by omega)
        have hbest' : onL σ88 89 b := hbest58.congr (fun i _ _ => by rw [e88, mset_off (by omega), e84, mset_off (by omega), hF79 89 (by simp)])
        have h75' : ∀ j : Int, j ≠ 11 + x1 → σ88 75 j = σ 75 j := fun j a => by rw [e88, mset_off (by omega), e84, mset_off (by omega), hF79 75 (by simp)]; exact hj58 j a
        have hV88 : vwM σ88 (mset A 1 x1 (T (p.length : Int))) tx := hV79.fr (by rw [e88, e84]; exact ((Fr.rf _ _).set (by simp [ScrM])).set (by simp [ScrM]))
        have r1 : σ88 88 ((p.length : Int) + 1) = -1 := by rw [e88, mset_hit rfl]
        -- from the head of the loop, one deeper
        have enter : ∀ (b1 : List Int) (ρ : Mem), b1 = (if b.length < (p ++ [(c : Int)]).length then p ++ [(c : Int)] else b) → vwM ρ (mset A 1 x1 (T (p.length : Int))) tx → (∀ j : Int, j ≠ 11 + x1 → ρ 75 j = σ 75 j) → Fr [75, 80, 81, 82, 88, 89, 90] σ ρ → onL ρ 88 (p ++ [(c : Int)]) → ρ 88 ((p.length : Int) + 1) = -1 → (∀ j : Int, 0 ≤ j → j ≤ (p.length : Int) + 1 → ρ 90 j = T' j) → onL ρ 89 b1 → P33 x1 (b1.length : Int) ((p.length : Int) + 1) y71 (A 1 x1) ρ := by
          intro b1l ρ eb1 hVr hjr hFr hrowr hrm htbr hbr
          refine h33 _ _ _ _ _ _ (fun _ _ _ _ _ _ => ⟨fun h => absurd h (by omega), fun _ => ⟨by omega, fun h => absurd hrm h, fun _ => ⟨by omega, by omega, fun σ30 e30 => ⟨by omega, by omega, ?_, fun σ36 e36 => ?_⟩⟩⟩⟩)
          · rw [e30, mset_off (by omega), hrm]; unfold R32; omega
          rw [hu'.self, ← hlenI]
          have e90 : ρ 90 ((p.length : Int) + 1) = th' := by rw [htbr _ (by omega) (Int.le_refl _), ← hlenI]; exact hT'k
          rw [e90] at e30
          have hV36 : vwM σ36 (mset A 1 x1 (T' ((p ++ [(c : Int)]).length : Int))) tx := by
            rw [hT'k]
            have h30 : vwM σ30 (mset A 1 x1 th') tx := by rw [e30]; exact hVr.th (by omega) (hinv _ hT2)
            exact h30.fr (by rw [e36]; exact (Fr.rf _ _).set (by simp [ScrM]))
          have w : ∀ (n c2 : Nat) (τ : Mem), _ := ihf (p ++ [(c : Int)]) T' y71 b1l (by omega) hp' hu' (by rw [hT'k]; exact hT2) ?_
          rotate_left
          · intro τ2 hV2 hj2 hF2 hrow2 htb2 hbest2
            rw [hT'k] at hbest2 hV2 ⊢
            have eres : visL (vis sk G f) sk (p ++ [(c : Int)]) th' G b1l = visL (vis sk G (f + 1)) sk p (T (p.length : Int)) (c + 1) b0 := by
              rw [hyes, eb1]; rfl
            rw [eres] at hbest2 ⊢
            rw [hlenI, show (p.length : Int) + 1 + (-1) = (p.length : Int) by omega]
            have hrc2 : τ2 88 (p.length : Int) = (c : Int) := hrow2.last
            refine h33 _ _ _ _ _ _ (fun _ _ _ _ _ _ => ⟨fun h => absurd h (by omega), fun _ => ?_⟩)
            rw [hrc2]
            refine ⟨by omega, fun _ => ⟨by omega, fun y16 e16 => ⟨by omega, by omega, fun σ19 e19 => ⟨by omega, by omega, ?_, fun σ25 e25 => ?_⟩⟩⟩, fun h => absurd h (by omega)⟩
            · rw [e19, mset_off (by omega), hrc2]; unfold R32; omega
            have ey : y16 = u := by rw [e16]; exact hu.uniq (hu'.drop (by omega) hnp)
            rw [ey]
            have e90b : τ2 90 (p.length : Int) = T (p.length : Int) := by rw [htb2 _ (by omega) (by rw [hlenI]; omega), hT'j _ (Int.le_refl _)]
            rw [e90b] at e19
            rw [e19, mset_off (by omega), hrc2, ← e19] at e25
            refine ihn (c + 1) σ25 (by omega) ?_ (fun j a => by rw [e25, mset_off (by omega), e19, mset_miss a]; exact hj2 j a) (by rw [e25, e19]; exact (hF2.set (by simp)).set (by simp)) (hrow2.pre.congr (fun i a b => by rw [e25, mset_miss (by omega), e19, mset_off (by omega)])) (by rw [e25, mset_hit rfl]; omega) (fun j a b => by rw [e25, mset_off (by omega), e19, mset_off (by omega), htb2 j a (by rw [hlenI]; omega), hT'j j b]) (hbest2.congr (fun i a b => by rw [e25, mset_off (by omega), e19, mset_off (by omega)]))
            have h19 : vwM σ19 (mset A 1 x1 (T (p.length : Int))) tx := by rw [e19]; exact hV2.th (by omega) (hinv _ hT)
            exact h19.fr (by rw [e25]; exact (Fr.rf _ _).set (by simp [ScrM]))
          · refine w G 0 σ36 (Nat.zero_add _) hV36 (fun j a => by rw [e36, mset_off (by omega), e30, mset_miss a]; exact hjr j a) (by rw [e36, e30]; exact (hFr.set (by simp)).set (by simp)) (hrowr.congr (fun i a b => by rw [e36, mset_miss (by omega), e30, mset_off (by omega)])) ?_ (fun j a b => by rw [e36, mset_off (by omega), e30, mset_off (by omega)]; exact htbr j a (by omega)) (hbr.congr (fun i a b => by rw [e36, mset_off (by omega), e30, mset_off (by omega)]))
            rw [e36, hlenI, mset_hit rfl, e30, mset_off (by omega), hrm]; rfl
        refine ⟨fun hm => ?_, fun hm => ?_⟩
        · have eb : (p ++ [(c : Int)]) = (if b.length < (p ++ [(c : Int)]).length then p ++ [(c : Int)] else b) := by rw [if_pos (by omega)]
          have H237 : ∀ (m i : Nat) (ρ : Mem), i + m = p.length + 1 → Fr [75, 80, 81, 82, 88, 89, 90] σ ρ → (∀ q : Nat, q ≠ 89 → ρ q = σ88 q) → (∀ j : Int, 0 ≤ j → j < (i : Int) → ρ 89 j = σ88 88 j) → P237 x1 ((p.length : Int) + 1) ((p.length : Int) + 1) y71 (A 1 x1) (i : Int) ρ := by
            intro m
            induction m with
            | zero =>
              intro i ρ hi hFr hq h89
              refine h237 _ _ _ _ _ _ _ (fun _ _ _ _ _ _ _ => ⟨fun _ => ?_, fun h => absurd h (by omega)⟩)
              have w := enter (p ++ [(c : Int)]) ρ eb (hV88.fr (fun q hq2 => hq q (fun e => hq2 (by rw [e]; simp [ScrM])))) (fun j a => by rw [hq 75 (by omega)]; exact h75' j a) hFr (hrow'.congr (fun i _ _ => by rw [hq 88 (by omega)])) (by rw [hq 88 (by omega)]; exact r1) (fun j a b => by rw [hq 90 (by omega)]; exact htb' j a b) (fun i2 x hx => by
                have : i2 < (p ++ [(c : Int)]).length := (List.getElem?_eq_some_iff.mp hx).1
                rw [h89 (i2 : Int) (by omega) (by omega)]; exact hrow' i2 x hx)
              rw [hlenI] at w; exact w
            | succ m ihm =>
              intro i ρ hi hFr hq h89
              refine h237 _ _ _ _ _ _ _ (fun _ _ _ _ _ _ _ => ⟨fun h => absurd h (by omega), fun _ => ⟨by omega, by omega, fun σ97 e97 => ⟨by unfold R32; omega, ?_⟩⟩⟩)
              refine ihm (i + 1) σ97 (by omega) (by rw [e97]; exact hFr.set (by simp)) (fun q a => by rw [e97, mset_ne a]; exact hq q a) (fun j a b => ?_)
              rw [e97]
              by_cases e : j = (i : Int)
              · subst e; rw [mset_hit rfl, hq 88 (by omega)]
              · rw [mset_miss e]; exact h89 j a (by omega)
          exact H237 _ 0 σ88 (Nat.zero_add _) hF88 (fun q _ => rfl) (fun j a b => absurd b (by omega))
        · have eb : b = (if b.length < (p ++ [(c : Int)]).length then p ++ [(c : Int)] else b) := by rw [if_neg (by omega)]
          exact enter b σ88 eb hV88 h75' hF88 hrow' r1 htb' hbest'
  refine ⟨by omega, fun σ2 e2 σ5 e5 => ?_⟩
  have hF5 : Fr [75, 80, 81, 82, 88, 89, 90] σ σ5 := by rw [e5, e2]; exact ((Fr.rf _ _).set (by simp)).set (by simp)
  have hV5 : vwM σ5 A tx := hV.fr (by rw [e5, e2]; exact ((Fr.rf _ _).set (by simp [ScrM])).set (by simp [ScrM]))
  have r0 : σ5 88 0 = -1 := by rw [e5, mset_off (by omega), e2, mset_hit rfl]
  have q0 : σ5 90 0 = A 1 x1 := by rw [e5, mset_hit rfl]
  have g75 : σ5 75 = σ 75 := by rw [e5, mset_ne (by omega), e2, mset_ne (by omega)]
  refine h33 _ _ _ _ _ _ (fun _ _ _ _ _ _ => ⟨fun h => absurd h (by omega), fun _ => ⟨by omega, fun h => absurd r0 h, fun _ => ⟨by omega, by omega, fun σ30 e30 => ⟨by omega, by omega, ?_, fun σ36 e36 => ?_⟩⟩⟩⟩)
  · rw [e30, mset_off (by omega), r0]; unfold R32; omega
  rw [(bsP.nil).self]
  rw [q0] at e30
  have r30 : σ30 88 0 = -1 := by rw [e30, mset_off (by omega)]; exact r0
  rw [r30] at e36
  have hVt : ∀ ρ, vwM ρ A tx → vwM ρ (mset A 1 x1 (A 1 x1)) tx := fun ρ h => by rw [mset_id]; exact h
  have h30 : vwM σ30 (mset A 1 x1 (A 1 x1)) tx := by rw [e30]; exact (hVt _ hV5).th (by omega) (hinv _ (by omega))
  have h36 : vwM σ36 (mset A 1 x1 (A 1 x1)) tx := h30.fr (by rw [e36]; exact (Fr.rf _ _).set (by simp [ScrM]))
  have w := M 6 [] (fun _ => A 1 x1) 0 [] rfl ⟨by simp, fun x h => by simp at h⟩ bsP.nil (by omega) ?_ G 0 σ36 (Nat.zero_add _) h36 (fun j a => by rw [e36, mset_off (by omega), e30, mset_miss a, g75]) (by rw [e36, e30]; exact (hF5.set (by simp)).set (by simp)) (onL.nil _ _) (by rw [e36]; show mset σ30 88 0 (-1 + 1) 88 0 = 0; rw [mset_hit rfl]; rfl) (fun j a b => ?_) (onL.nil _ _)
  · exact w
  · intro τ hVτ hj hF hrow htb hbest
    have hcr : visL (vis sk G 6) sk [] (A 1 x1) G [] = crL A tx x1 := by unfold crL; rw [hGG, hsk]; rfl
    rw [hcr] at hbest ⊢
    refine h33 _ _ _ _ _ _ (fun _ _ _ _ _ _ => ⟨fun _ => ⟨by omega, fun σ10 e10 => ⟨rfl, ?_, ?_, fun j a => by rw [e10, mset_miss a]; exact hj j a, by rw [e10]; exact hF.set (by simp)⟩⟩, fun h => absurd h (by simp)⟩)
    · have := hVτ.th (v := A 1 x1) (by omega) (hinv _ (by omega))
      rw [e10]; rw [mset_id] at this; exact this
    · exact hbest.congr (fun i _ _ => by rw [e10, mset_off (by omega)])
  · have : j = 0 := by simp at b; omega
    subst this
    rw [e36, mset_off (by omega), e30, mset_off (by omega)]; exact q0)
