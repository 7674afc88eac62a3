theorem iabs_nn {a : Int} (h : 0 ≤ a) : iabs a = a := by unfold iabs; split <;> omega

def wp_X12_likely (x1 : Int) (x2 : Int) (x3 : Int) (x4 : Int) (σ : Mem) (Q : Int → Mem → Prop) : Prop :=
 ∀ P30 : Int → Int → Int → Int → Int → Mem → Prop,
 ∀ P67 : Int → Int → Int → Int → Int → Mem → Prop,
 (∀ (v1 : Int) (v2 : Int) (v3 : Int) (v4 : Int) (v5 : Int) (σ : Mem), (R32 v1 → R32 v2 → R32 v3 → R32 v4 → R32 v5 → OKm σ →
   ((8 ≤ v5) →
     P67 v2 v3 v4 1 0 σ) ∧
    ((v5 < 8) →
     ((v5 ≠ v1) →
      (0 ≤ v5 ∧ v5 < 8) ∧
      ∀ σ13 : Mem, σ13 = mset σ 91 v5 0 →
      R32 (v5 + 1) ∧ P30 v1 v2 v3 v4 (v5 + 1) σ13) ∧
     ((v5 = v1) →
      (0 ≤ v5 ∧ v5 < 8) ∧
      ∀ σ18 : Mem, σ18 = mset σ 91 v5 1 →
      R32 (v5 + 1) ∧ P30 v1 v2 v3 v4 (v5 + 1) σ18))) → P30 v1 v2 v3 v4 v5 σ) →
 (∀ (v2 : Int) (v3 : Int) (v4 : Int) (v5 : Int) (v7 : Int) (σ : Mem), (R32 v2 → R32 v3 → R32 v4 → R64 v5 → R32 v7 → OKm σ →
   ((v2 ≤ v7) →
     ((v4 = 0) →
      (0 ≤ v3 ∧ v3 < 8) ∧
      (0 ≤ v3 ∧ v3 < 8) ∧
      (-9223372036854775808 < (σ 91 v3) ∧ -9223372036854775808 < v5) ∧
      ((gcdI (iabs (σ 91 v3)) (iabs v5)) ≠ 0) ∧
      R64 (Int.tdiv (σ 91 v3) (gcdI (iabs (σ 91 v3)) (iabs v5))) ∧
      Q (Int.tdiv (σ 91 v3) (gcdI (iabs (σ 91 v3)) (iabs v5))) σ) ∧
     ((v4 ≠ 0) →
      (0 ≤ v3 ∧ v3 < 8) ∧
      (-9223372036854775808 < (σ 91 v3) ∧ -9223372036854775808 < v5) ∧
      ((gcdI (iabs (σ 91 v3)) (iabs v5)) ≠ 0) ∧
      R64 (Int.tdiv v5 (gcdI (iabs (σ 91 v3)) (iabs v5))) ∧
      Q (Int.tdiv v5 (gcdI (iabs (σ 91 v3)) (iabs v5))) σ)) ∧
    ((v7 < v2) →
     ∃ g37 : Mem, ∃ g38 : Nat → Txt, ∃ g39 : Int → Int, (vwM σ g37 g38 ∧ (∀ t : Int, 0 ≤ t → t ≤ 7 → σ 91 t = g39 t) ∧ (∀ t, 0 ≤ g39 t) ∧ sm8 g39 * 720720 ≤ 4611686018427387904) ∧
     ∀ σ43 : Mem, OKm σ43 → (vwM σ43 g37 g38 ∧ (∀ t : Int, 0 ≤ t → t ≤ 7 → σ43 91 t = wkN g37 720720 g39 8 t) ∧ Fr [91, 92] σ σ43) →
     R64 (v5 * 720720) ∧ R32 (v7 + 1) ∧ P67 v2 v3 v4 (v5 * 720720) (v7 + 1) σ43)) → P67 v2 v3 v4 v5 v7 σ) →
  ((¬ (0 ≤ x1 ∧ x1 ≤ 7)) →
    Q (-1) σ) ∧
   ((0 ≤ x1 ∧ x1 ≤ 7) →
    ((¬ (0 ≤ x3 ∧ x3 ≤ 7)) →
     Q (-1) σ) ∧
    ((0 ≤ x3 ∧ x3 ≤ 7) →
     (((0 : Int) ≤ x2 ∧ x2 ≤ (3 : Int)) →
      P30 x1 x2 x3 x4 0 σ) ∧
     ((¬ ((0 : Int) ≤ x2 ∧ x2 ≤ (3 : Int))) →
      Q (-1) σ)))
theorem mt_X12_likely {d : Nat} (hd : 4 ≤ d) {x1 : Int} {x2 : Int} {x3 : Int} {x4 : Int} {σ : Mem} {Q : Int → Mem → Prop} (hx1 : R32 x1) (hx2 : R32 x2) (hx3 : R32 x3) (hx4 : R32 x4) (hO : OKm σ) (h : wp_X12_likely x1 x2 x3 x4 σ Q) : Mt yX12_likely cX12_likely 8 (some .long) d [aR (74), aI (x1), aI (x2), aI (x3), aI (x4)] σ (QL Q) := by
  refine Mt.intro (by decide +kernel) (Nat.le_of_ble_eq_true rfl) [(0, aR (74)), (1, aI (x1)), (2, aI (x2)), (3, aI (x3)), (4, aI (x4))] rfl ?_
  unfold wp_X12_likely at h
  have h := h (fun (v1 : Int) (v2 : Int) (v3 : Int) (v4 : Int) (v5 : Int) (σ : Mem) => R32 v1 → R32 v2 → R32 v3 → R32 v4 → R32 v5 → OKm σ → G yX12_likely cX12_likely 8 (some .long) d (QL Q) 30 [(0, aR (74)), (1, aI (v1)), (2, aI (v2)), (3, aI (v3)), (4, aI (v4)), (5, aI (v5))] [] σ)
    (fun (v2 : Int) (v3 : Int) (v4 : Int) (v5 : Int) (v7 : Int) (σ : Mem) => R32 v2 → R32 v3 → R32 v4 → R64 v5 → R32 v7 → OKm σ → G yX12_likely cX12_likely 8 (some .long) d (QL Q) 67 [(0, aR (74)), (2, aI (v2)), (3, aI (v3)), (4, aI (v4)), (5, aL (v5)), (7, aI (v7))] [] σ) ?_ ?_
  · refine G_iload_n 1 rfl rfl dX12_likely_0 ?_
    refine G_callS (as := [_]) cf_X12_89 rfl (sp_X12_isTown (d - 1) (by omega) _ hO _ hx1) (by omega) rfl rfl (Nat.le_of_ble_eq_true rfl) dX12_likely_1 ?_
    rintro _ _ ⟨_, rfl, rfl, rfl⟩ o2 r1
    refine G_if_eq (bI_R _) dX12_likely_4 (tgt := 23) (by decide) (fun c3 => ?_) (fun c3 => ?_)
    · have h := h.1 ((bI_0 _).mp c3)
      refine G_ldc2 (n := (-1)) rfl (by decide) kc_X12_455 dX12_likely_23 ?_
      exact G_lret rfl (rLL (-1) rfl) dX12_likely_26 ⟨_, rfl, h⟩ hO
    · have h := h.2 (bI_ne c3)
      refine G_iload_n 3 rfl rfl dX12_likely_7 ?_
      refine G_callS (as := [_]) cf_X12_89 rfl (sp_X12_isTown (d - 1) (by omega) _ hO _ hx3) (by omega) rfl rfl (Nat.le_of_ble_eq_true rfl) dX12_likely_8 ?_
      rintro _ _ ⟨_, rfl, rfl, rfl⟩ o5 r4
      refine G_if_eq (bI_R _) dX12_likely_11 (tgt := 23) (by decide) (fun c6 => ?_) (fun c6 => ?_)
      · have h := h.1 ((bI_0 _).mp c6)
        refine G_ldc2 (n := (-1)) rfl (by decide) kc_X12_455 dX12_likely_23 ?_
        exact G_lret rfl (rLL (-1) rfl) dX12_likely_26 ⟨_, rfl, h⟩ hO
      · have h := h.2 (bI_ne c6)
        refine G_iload_n 2 rfl rfl dX12_likely_14 ?_
        refine G_iconst dX12_likely_15 ?_
        refine G_iconst dX12_likely_16 ?_
        refine G_callS (as := [_, _, _]) cf_X12_81 rfl (sp_X12_isIn (d - 1) (by omega) _ hO _ hx2 _ (rL 0 rfl) _ (rL 3 rfl)) (by omega) rfl rfl (Nat.le_of_ble_eq_true rfl) dX12_likely_17 ?_
        rintro _ _ ⟨_, rfl, rfl, rfl⟩ o8 r7
        refine G_if_ne (bI_R _) dX12_likely_20 (tgt := 27) (by decide) (fun c9 => ?_) (fun c9 => ?_)
        · have h := h.1 (bI_ne c9)
          refine G_iconst dX12_likely_27 ?_
          refine G_istore (lv' := [(5, aI (0)), (0, aR (74)), (1, aI (x1)), (2, aI (x2)), (3, aI (x3)), (4, aI (x4))]) rfl (by decide) dX12_likely_28 ?_
          exact G_pick [1, 2, 3, 4, 5, 0] rfl (h hx1 hx2 hx3 hx4 (rL 0 rfl) hO)
        · have h := h.2 ((bI_0 _).mp c9)
          refine G_ldc2 (n := (-1)) rfl (by decide) kc_X12_455 dX12_likely_23 ?_
          exact G_lret rfl (rLL (-1) rfl) dX12_likely_26 ⟨_, rfl, h⟩ hO
  · intro v1 v2 v3 v4 v5 σ h hv1 hv2 hv3 hv4 hv5 hO
    have h := h hv1 hv2 hv3 hv4 hv5 hO
    refine G_iload 5 rfl dX12_likely_30 ?_
    refine G_bipush (by decide) dX12_likely_32 ?_
    refine G_icmp_ge hv5 (rL 8 rfl) dX12_likely_34 (tgt := 61) (by decide) (fun c10 => ?_) (fun c10 => ?_)
    · have h := h.1 c10
      refine G_lconst (n := 1) (by decide) dX12_likely_61 ?_
      refine G_lstore (lv' := [(5, aL (1)), (0, aR (74)), (1, aI (v1)), (2, aI (v2)), (3, aI (v3)), (4, aI (v4))]) rfl (by decide) dX12_likely_62 ?_
      refine G_iconst dX12_likely_64 ?_
      refine G_istore (lv' := [(7, aI (0)), (5, aL (1)), (0, aR (74)), (1, aI (v1)), (2, aI (v2)), (3, aI (v3)), (4, aI (v4))]) rfl (by decide) dX12_likely_65 ?_
      exact G_pick [2, 4, 5, 6, 1, 0] rfl (h hv2 hv3 hv4 (rLL 1 rfl) (rL 0 rfl) hO)
    · have h := h.2 c10
      refine G_aload_n 0 rfl rfl dX12_likely_37 ?_
      refine G_get (k := 33) (kd := (2, 91)) (v := aR 91) gf_X12_71 rfl rfl rfl rfl dX12_likely_38 ?_
      refine G_iload 5 rfl dX12_likely_41 ?_
      refine G_iload 5 rfl dX12_likely_43 ?_
      refine G_iload_n 1 rfl rfl dX12_likely_45 ?_
      refine G_icmp_ne hv5 hv1 dX12_likely_46 (tgt := 53) (by decide) (fun c11 => ?_) (fun c11 => ?_)
      · have h := h.1 c11
        refine G_lconst (n := 0) (by decide) dX12_likely_53 ?_
        obtain ⟨c12, h⟩ := h
        obtain ⟨σ13, e15⟩ : ∃ τ : Mem, τ = mset σ 91 v5 0 := ⟨_, rfl⟩
        have h := h σ13 e15
        have o14 : OKm σ13 := by rw [e15]; exact OKm.setl hO _ _ _ (rLL 0 rfl) (isLg_rowL (show shp 91 = (2, 8, []) from rfl) _)
        refine G_last (n := 8) rfl c12.1 c12.2 dX12_likely_54 ?_
        rw [← e15]
        refine G_iinc (lv' := [(5, aI ((v5 + 1))), (0, aR (74)), (1, aI (v1)), (2, aI (v2)), (3, aI (v3)), (4, aI (v4))]) (k := 5) rfl rfl (by decide) dX12_likely_55 ?_
        refine G_goto (tgt := 30) dX12_likely_58 (by decide) ?_
        obtain ⟨c16, h⟩ := h
        exact G_pick [1, 2, 3, 4, 5, 0] rfl (h hv1 hv2 hv3 hv4 c16 o14)
      · have h := h.2 c11
        refine G_lconst (n := 1) (by decide) dX12_likely_49 ?_
        refine G_goto (tgt := 54) dX12_likely_50 (by decide) ?_
        obtain ⟨c17, h⟩ := h
        obtain ⟨σ18, e20⟩ : ∃ τ : Mem, τ = mset σ 91 v5 1 := ⟨_, rfl⟩
        have h := h σ18 e20
        have o19 : OKm σ18 := by rw [e20]; exact OKm.setl hO _ _ _ (rLL 1 rfl) (isLg_rowL (show shp 91 = (2, 8, []) from rfl) _)
        refine G_last (n := 8) rfl c17.1 c17.2 dX12_likely_54 ?_
        rw [← e20]
        refine G_iinc (lv' := [(5, aI ((v5 + 1))), (0, aR (74)), (1, aI (v1)), (2, aI (v2)), (3, aI (v3)), (4, aI (v4))]) (k := 5) rfl rfl (by decide) dX12_likely_55 ?_
        refine G_goto (tgt := 30) dX12_likely_58 (by decide) ?_
        obtain ⟨c21, h⟩ := h
        exact G_pick [1, 2, 3, 4, 5, 0] rfl (h hv1 hv2 hv3 hv4 c21 o19)
  · intro v2 v3 v4 v5 v7 σ h hv2 hv3 hv4 hv5 hv7 hO
    have h := h hv2 hv3 hv4 hv5 hv7 hO
    refine G_iload 5 rfl dX12_likely_67 ?_
    refine G_iload_n 1 rfl rfl dX12_likely_69 ?_
    refine G_icmp_ge hv7 hv2 dX12_likely_70 (tgt := 91) (by decide) (fun c22 => ?_) (fun c22 => ?_)
    · have h := h.1 c22
      refine G_iload 3 rfl dX12_likely_91 ?_
      refine G_if_eq hv4 dX12_likely_93 (tgt := 101) (by decide) (fun c23 => ?_) (fun c23 => ?_)
      · have h := h.1 c23
        refine G_aload_n 0 rfl rfl dX12_likely_101 ?_
        refine G_get (k := 33) (kd := (2, 91)) (v := aR 91) gf_X12_71 rfl rfl rfl rfl dX12_likely_102 ?_
        refine G_iload_n 2 rfl rfl dX12_likely_105 ?_
        obtain ⟨c24, h⟩ := h
        refine G_lald (n := 8) rfl c24.1 c24.2 dX12_likely_106 ?_
        refine G_aload_n 0 rfl rfl dX12_likely_107 ?_
        refine G_get (k := 33) (kd := (2, 91)) (v := aR 91) gf_X12_71 rfl rfl rfl rfl dX12_likely_108 ?_
        refine G_iload_n 2 rfl rfl dX12_likely_111 ?_
        obtain ⟨c25, h⟩ := h
        refine G_lald (n := 8) rfl c25.1 c25.2 dX12_likely_112 ?_
        refine G_lload 4 rfl dX12_likely_113 ?_
        obtain ⟨c26, h⟩ := h
        refine G_callS (as := [_, _]) cf_X12_282 rfl (sp_X12_commonOf (d - 1) (by omega) _ hO _ (OKm.l hO 91 v3 (isLg_rowL (show shp 91 = (2, 8, []) from rfl) _)) _ hv5 c26) (by omega) rfl rfl (Nat.le_of_ble_eq_true rfl) dX12_likely_115 ?_
        rintro _ _ ⟨_, rfl, rfl, rfl⟩ o28 r27
        obtain ⟨c29, h⟩ := h
        refine G_ldiv (OKm.l hO 91 v3 (isLg_rowL (show shp 91 = (2, 8, []) from rfl) _)) (r27 _ rfl) c29 dX12_likely_118 ?_
        obtain ⟨c30, h⟩ := h
        exact G_lret rfl c30 dX12_likely_119 ⟨_, rfl, h⟩ hO
      · have h := h.2 c23
        refine G_lload 4 rfl dX12_likely_96 ?_
        refine G_goto (tgt := 107) dX12_likely_98 (by decide) ?_
        refine G_aload_n 0 rfl rfl dX12_likely_107 ?_
        refine G_get (k := 33) (kd := (2, 91)) (v := aR 91) gf_X12_71 rfl rfl rfl rfl dX12_likely_108 ?_
        refine G_iload_n 2 rfl rfl dX12_likely_111 ?_
        obtain ⟨c31, h⟩ := h
        refine G_lald (n := 8) rfl c31.1 c31.2 dX12_likely_112 ?_
        refine G_lload 4 rfl dX12_likely_113 ?_
        obtain ⟨c32, h⟩ := h
        refine G_callS (as := [_, _]) cf_X12_282 rfl (sp_X12_commonOf (d - 1) (by omega) _ hO _ (OKm.l hO 91 v3 (isLg_rowL (show shp 91 = (2, 8, []) from rfl) _)) _ hv5 c32) (by omega) rfl rfl (Nat.le_of_ble_eq_true rfl) dX12_likely_115 ?_
        rintro _ _ ⟨_, rfl, rfl, rfl⟩ o34 r33
        obtain ⟨c35, h⟩ := h
        refine G_ldiv hv5 (r33 _ rfl) c35 dX12_likely_118 ?_
        obtain ⟨c36, h⟩ := h
        exact G_lret rfl c36 dX12_likely_119 ⟨_, rfl, h⟩ hO
    · have h := h.2 c22
      refine G_aload_n 0 rfl rfl dX12_likely_73 ?_
      obtain ⟨g37, g38, g39, c40, h⟩ := h
      refine G_callV (as := []) cf_X12_462 rfl rfl rfl (sp_X12_goAny (d - 1) (by omega) _ hO  g37 g38 g39 c40) (by omega) rfl rfl (Nat.le_of_ble_eq_true rfl) dX12_likely_74 ?_
      rintro _ σ43 ⟨rfl, z45⟩ o42 r41
      have h := h _ o42 z45
      refine G_lload 4 rfl dX12_likely_77 ?_
      refine G_ldc2 (n := 720720) rfl (by decide) kc_X12_460 dX12_likely_79 ?_
      refine G_lmul dX12_likely_82 ?_
      refine G_lstore (lv' := [(5, aL ((v5 * 720720))), (0, aR (74)), (2, aI (v2)), (3, aI (v3)), (4, aI (v4)), (7, aI (v7))]) rfl (by decide) dX12_likely_83 ?_
      refine G_iinc (lv' := [(7, aI ((v7 + 1))), (5, aL ((v5 * 720720))), (0, aR (74)), (2, aI (v2)), (3, aI (v3)), (4, aI (v4))]) (k := 5) rfl rfl (by decide) dX12_likely_85 ?_
      refine G_goto (tgt := 67) dX12_likely_88 (by decide) ?_
      obtain ⟨c46, h⟩ := h
      obtain ⟨c47, h⟩ := h
      exact G_pick [2, 3, 4, 5, 1, 0] rfl (h hv2 hv3 hv4 c46 c47 o42)

theorem sp_X12_likely (d : Nat) (hd : 4 ≤ d) (σ : Mem) (hO : OKm σ) (x1 : Int) (hx1 : R32 x1) (x2 : Int) (hx2 : R32 x2) (x3 : Int) (hx3 : R32 x3) (x4 : Int) (hx4 : R32 x4) (A : Mem) (tx : Nat → Txt) (hpre : vwM σ A tx) : Mt yX12_likely cX12_likely 8 (some .long) d [aR (74), aI (x1), aI (x2), aI (x3), aI (x4)] σ (QL (fun v σ' => v = likS A x1 x2 x3 (x4 ≠ 0) ∧ vwM σ' A tx ∧ Fr [91, 92] σ σ')) := mt_X12_likely hd hx1 hx2 hx3 hx4 hO (by
  unfold wp_X12_likely
  intro P30 P67 h30 h67
  have hV := hpre
  have hI := hV.2.2.1
  have hc := hI.1
  have hA := dvA_all hI
  have no : ¬ ((0 ≤ x1 ∧ x1 ≤ 7) ∧ (0 ≤ x3 ∧ x3 ≤ 7) ∧ (0 ≤ x2 ∧ x2 ≤ 3)) → (-1 : Int) = likS A x1 x2 x3 (x4 ≠ 0) ∧ vwM σ A tx ∧ Fr [91, 92] σ σ := fun h => ⟨by unfold likS; rw [if_neg h], hV, Fr.rf _ _⟩
  refine ⟨fun h => no (fun q => h q.1), fun hx1 => ⟨fun h => no (fun q => h q.2.1), fun hx3 => ⟨fun hx2 => ?_, fun h => no (fun q => h q.2.2)⟩⟩⟩
  have el : likS A x1 x2 x3 (x4 ≠ 0) = (if x4 ≠ 0 then 720720 ^ x2.toNat else itr A 720720 x1 x2.toNat x3) / gcdI (itr A 720720 x1 x2.toNat x3) (720720 ^ x2.toNat) := by unfold likS; rw [if_pos ⟨hx1, hx3, hx2⟩]
  rw [el] at h67
  have hm : (0 : Int) < 720720 := by omega
  have H67 : ∀ (n k : Nat) (τ : Mem), k + n = x2.toNat → vwM τ A tx → (∀ t : Int, 0 ≤ t → t ≤ 7 → τ 91 t = itr A 720720 x1 k t) → Fr [91, 92] σ τ → P67 x2 x3 x4 (720720 ^ k) (k : Int) τ := by
    intro n
    induction n with
    | zero =>
      intro k τ hk hVt hpc hF
      have hkk : k = x2.toNat := by omega
      have pk := pw3 ⟨hm, Int.le_refl _⟩ k (by omega)
      have hnn := itr_nn (A := A) (t0 := x1) (Int.le_of_lt hm) k x3
      have hle := le_sm8 (itr_nn (A := A) (t0 := x1) (Int.le_of_lt hm) k) (u := x3) (by omega)
      rw [itr_sum hI hA (by omega) k] at hle
      have hg := gcdI_pos (a := itr A 720720 x1 k x3) pk.1
      refine h67 _ _ _ _ _ _ (fun _ _ _ _ _ _ => ⟨fun _ => ?_, fun h => absurd h (by omega)⟩)
      rw [hpc x3 hx3.1 hx3.2, ← hkk, iabs_nn hnn, iabs_nn (Int.le_of_lt pk.1), Int.tdiv_eq_ediv_of_nonneg hnn, Int.tdiv_eq_ediv_of_nonneg (Int.le_of_lt pk.1)]
      have b1 := Int.ediv_nonneg hnn (Int.le_of_lt hg)
      have b2 := Int.ediv_le_self (gcdI (itr A 720720 x1 k x3) (720720 ^ k)) hnn
      have b3 := Int.ediv_nonneg (Int.le_of_lt pk.1) (Int.le_of_lt hg)
      have b4 := Int.ediv_le_self (gcdI (itr A 720720 x1 k x3) (720720 ^ k)) (Int.le_of_lt pk.1)
      generalize (720720 : Int) ^ k = z at *
      refine ⟨fun h4 => ⟨by omega, by omega, by omega, by omega, by unfold R64; omega, by rw [if_neg (fun q => q h4)], hVt, hF⟩, fun h4 => ⟨by omega, by omega, by omega, by unfold R64; omega, by rw [if_pos h4], hVt, hF⟩⟩
    | succ n ih =>
      intro k τ hk hVt hpc hF
      have pk := pw3 ⟨hm, Int.le_refl _⟩ (k + 1) (by omega)
      refine h67 _ _ _ _ _ _ (fun _ _ _ _ _ _ => ⟨fun h => absurd h (by omega), fun _ => ⟨A, tx, itr A 720720 x1 k, ⟨hVt, hpc, itr_nn (Int.le_of_lt hm) k, ?_⟩, ?_⟩⟩)
      · rw [itr_sum hI hA (by omega) k, ← Int.pow_succ]; generalize (720720 : Int) ^ (k + 1) = z at pk ⊢; omega
      · intro σ43 hO43 ⟨hV43, hc43, hF43⟩
        rw [← Int.pow_succ]
        exact ⟨by generalize (720720 : Int) ^ (k + 1) = z at pk ⊢; unfold R64; omega, by unfold R32; omega, ih (k + 1) σ43 (by omega) hV43 hc43 (hF.tr hF43)⟩
  have H30 : ∀ (n k : Nat) (τ : Mem), k + n = 8 → vwM τ A tx → (∀ t : Int, 0 ≤ t → t < (k : Int) → τ 91 t = if t = x1 then 1 else 0) → Fr [91, 92] σ τ → P30 x1 x2 x3 x4 (k : Int) τ := by
    intro n
    induction n with
    | zero =>
      intro k τ hk hVt hpc hF
      have w := H67 _ 0 τ (Nat.zero_add _) hVt (fun t a b => hpc t a (by omega)) hF
      rw [Int.pow_zero] at w
      exact h30 _ _ _ _ _ _ (fun _ _ _ _ _ _ => ⟨fun _ => w, fun h => absurd h (by omega)⟩)
    | succ n ih =>
      intro k τ hk hVt hpc hF
      have go : ∀ σ' : Mem, σ' = mset τ 91 (k : Int) (if (k : Int) = x1 then 1 else 0) → R32 ((k : Int) + 1) ∧ P30 x1 x2 x3 x4 ((k : Int) + 1) σ' := fun σ' e' => by
        refine ⟨by unfold R32; omega, ih (k + 1) σ' (by omega) (hVt.fr (by rw [e']; exact (Fr.rf _ _).set (by simp [ScrM]))) (fun t a b => ?_) (by rw [e']; exact hF.set (by simp))⟩
        rw [e']
        by_cases e : t = (k : Int)
        · subst e; rw [mset_hit rfl]
        · rw [mset_miss e]; exact hpc t a (by omega)
      refine h30 _ _ _ _ _ _ (fun _ _ _ _ _ _ => ⟨fun h => absurd h (by omega), fun _ => ⟨fun h => ⟨by omega, fun σ' e' => go σ' ?_⟩, fun h => ⟨by omega, fun σ' e' => go σ' ?_⟩⟩⟩)
      · rw [if_neg h]; exact e'
      · rw [if_pos h]; exact e'
  exact H30 8 0 σ (by omega) hV (fun t a b => absurd b (by omega)) (Fr.rf _ _))
