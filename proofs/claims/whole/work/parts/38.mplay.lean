def roadOK (A : Mem) (a b n th : Int) : Prop := (0 ≤ a ∧ a ≤ 7) ∧ (0 ≤ b ∧ b ≤ 7) ∧ a ≠ b ∧ (1 ≤ n ∧ n ≤ 9) ∧ (1 ≤ th ∧ th ≤ 99) ∧ A 10 0 < 16
def goerOK (A : Mem) (t m : Int) : Prop := (0 ≤ t ∧ t ≤ 7) ∧ (1 ≤ m ∧ m ≤ 9) ∧ A 10 1 < 6
theorem vsM.told {σ τ A A' : Mem} {L : List Mem} {tx : Nat → Txt} (h : vsM σ A L tx) (hT : toldM τ 75 A') (hN : nowM τ 75 A') (hI : InvA A') (h2 : A' 10 2 = A 10 2) (hs : ∀ j : Int, j = 4 ∨ (139 ≤ j ∧ j < 2089) → τ 75 j = σ 75 j) (hF : Fr [75] σ τ) : vsM τ A' L tx := by
  refine ⟨⟨hT, hN, hI, fun i hi => (h.1.2.2.2.1 i (by rw [← h2]; exact hi)).congr (by omega) (fun j _ _ => by rw [hF 77 (by simp)]), ?_⟩, h.2.1.keep hs, by rw [hF 74 (by simp)]; exact h.2.2⟩
  unfold nmOK; rw [hF 80 (by simp)]; exact h.1.2.2.2.2

def wp_X12_road (x1 : Int) (x2 : Int) (x3 : Int) (x4 : Int) (σ : Mem) (Q : Int → Mem → Prop) : Prop :=
  ((¬ (0 ≤ x1 ∧ x1 ≤ 7)) →
    Q (-1) σ) ∧
   ((0 ≤ x1 ∧ x1 ≤ 7) →
    ((¬ (0 ≤ x2 ∧ x2 ≤ 7)) →
     Q (-1) σ) ∧
    ((0 ≤ x2 ∧ x2 ≤ 7) →
     ((x1 = x2) →
      Q (-1) σ) ∧
     ((x1 ≠ x2) →
      ((¬ ((1 : Int) ≤ x3 ∧ x3 ≤ (9 : Int))) →
       Q (-1) σ) ∧
      (((1 : Int) ≤ x3 ∧ x3 ≤ (9 : Int)) →
       ((¬ ((1 : Int) ≤ x4 ∧ x4 ≤ (99 : Int))) →
        Q (-1) σ) ∧
       (((1 : Int) ≤ x4 ∧ x4 ≤ (99 : Int)) →
        (((σ 75 0) ≠ 16) →
         (0 ≤ (39 + (4 * (σ 75 0))) ∧ (39 + (4 * (σ 75 0))) < 2119) ∧
         ∀ σ16 : Mem, σ16 = mset σ 75 (39 + (4 * (σ 75 0))) x1 →
         (0 ≤ ((39 + (4 * (σ 75 0))) + 1) ∧ ((39 + (4 * (σ 75 0))) + 1) < 2119) ∧
         ∀ σ20 : Mem, σ20 = mset σ16 75 ((39 + (4 * (σ 75 0))) + 1) x2 →
         (0 ≤ ((39 + (4 * (σ 75 0))) + 2) ∧ ((39 + (4 * (σ 75 0))) + 2) < 2119) ∧
         ∀ σ24 : Mem, σ24 = mset σ20 75 ((39 + (4 * (σ 75 0))) + 2) x3 →
         (0 ≤ ((39 + (4 * (σ 75 0))) + 3) ∧ ((39 + (4 * (σ 75 0))) + 3) < 2119) ∧
         ∀ σ28 : Mem, σ28 = mset σ24 75 ((39 + (4 * (σ 75 0))) + 3) x4 →
         (0 ≤ (11 + (σ 75 0)) ∧ (11 + (σ 75 0)) < 2119) ∧
         ∀ σ32 : Mem, σ32 = mset σ28 75 (11 + (σ 75 0)) x4 →
         R32 ((σ32 75 0) + 1) ∧
         ∀ σ36 : Mem, σ36 = mset σ32 75 0 ((σ32 75 0) + 1) →
         Q (σ 75 0) σ36) ∧
        (((σ 75 0) = 16) →
         Q (-1) σ))))))
theorem mt_X12_road {d : Nat} (hd : 2 ≤ d) {x1 : Int} {x2 : Int} {x3 : Int} {x4 : Int} {σ : Mem} {Q : Int → Mem → Prop} (hx1 : R32 x1) (hx2 : R32 x2) (hx3 : R32 x3) (hx4 : R32 x4) (hO : OKm σ) (h : wp_X12_road x1 x2 x3 x4 σ Q) : Mt yX12_road cX12_road 6 (some .int) d [aR (74), aI (x1), aI (x2), aI (x3), aI (x4)] σ (QI Q) := by
  refine Mt.intro (by decide +kernel) (Nat.le_of_ble_eq_true rfl) [(0, aR (74)), (1, aI (x1)), (2, aI (x2)), (3, aI (x3)), (4, aI (x4))] rfl ?_
  unfold wp_X12_road at h
  refine G_iload_n 1 rfl rfl dX12_road_0 ?_
  refine G_callS (as := [_]) cf_X12_89 rfl (sp_X12_isTown (d - 1) (by omega) _ hO _ hx1) (by omega) rfl rfl (Nat.le_of_ble_eq_true rfl) dX12_road_1 ?_
  rintro _ _ ⟨_, rfl, rfl, rfl⟩ o2 r1
  refine G_if_eq (bI_R _) dX12_road_4 (tgt := 51) (by decide) (fun c3 => ?_) (fun c3 => ?_)
  · have h := h.1 ((bI_0 _).mp c3)
    refine G_iconst dX12_road_51 ?_
    exact G_iret rfl (rL (-1) rfl) dX12_road_52 ⟨_, rfl, h⟩ hO
  · have h := h.2 (bI_ne c3)
    refine G_iload_n 2 rfl rfl dX12_road_7 ?_
    refine G_callS (as := [_]) cf_X12_89 rfl (sp_X12_isTown (d - 1) (by omega) _ hO _ hx2) (by omega) rfl rfl (Nat.le_of_ble_eq_true rfl) dX12_road_8 ?_
    rintro _ _ ⟨_, rfl, rfl, rfl⟩ o5 r4
    refine G_if_eq (bI_R _) dX12_road_11 (tgt := 51) (by decide) (fun c6 => ?_) (fun c6 => ?_)
    · have h := h.1 ((bI_0 _).mp c6)
      refine G_iconst dX12_road_51 ?_
      exact G_iret rfl (rL (-1) rfl) dX12_road_52 ⟨_, rfl, h⟩ hO
    · have h := h.2 (bI_ne c6)
      refine G_iload_n 1 rfl rfl dX12_road_14 ?_
      refine G_iload_n 2 rfl rfl dX12_road_15 ?_
      refine G_icmp_eq hx1 hx2 dX12_road_16 (tgt := 51) (by decide) (fun c7 => ?_) (fun c7 => ?_)
      · have h := h.1 c7
        refine G_iconst dX12_road_51 ?_
        exact G_iret rfl (rL (-1) rfl) dX12_road_52 ⟨_, rfl, h⟩ hO
      · have h := h.2 c7
        refine G_iload_n 3 rfl rfl dX12_road_19 ?_
        refine G_iconst dX12_road_20 ?_
        refine G_bipush (by decide) dX12_road_21 ?_
        refine G_callS (as := [_, _, _]) cf_X12_81 rfl (sp_X12_isIn (d - 1) (by omega) _ hO _ hx3 _ (rL 1 rfl) _ (rL 9 rfl)) (by omega) rfl rfl (Nat.le_of_ble_eq_true rfl) dX12_road_23 ?_
        rintro _ _ ⟨_, rfl, rfl, rfl⟩ o9 r8
        refine G_if_eq (bI_R _) dX12_road_26 (tgt := 51) (by decide) (fun c10 => ?_) (fun c10 => ?_)
        · have h := h.1 ((bI_0 _).mp c10)
          refine G_iconst dX12_road_51 ?_
          exact G_iret rfl (rL (-1) rfl) dX12_road_52 ⟨_, rfl, h⟩ hO
        · have h := h.2 (bI_ne c10)
          refine G_iload 4 rfl dX12_road_29 ?_
          refine G_iconst dX12_road_31 ?_
          refine G_bipush (by decide) dX12_road_32 ?_
          refine G_callS (as := [_, _, _]) cf_X12_81 rfl (sp_X12_isIn (d - 1) (by omega) _ hO _ hx4 _ (rL 1 rfl) _ (rL 99 rfl)) (by omega) rfl rfl (Nat.le_of_ble_eq_true rfl) dX12_road_34 ?_
          rintro _ _ ⟨_, rfl, rfl, rfl⟩ o12 r11
          refine G_if_eq (bI_R _) dX12_road_37 (tgt := 51) (by decide) (fun c13 => ?_) (fun c13 => ?_)
          · have h := h.1 ((bI_0 _).mp c13)
            refine G_iconst dX12_road_51 ?_
            exact G_iret rfl (rL (-1) rfl) dX12_road_52 ⟨_, rfl, h⟩ hO
          · have h := h.2 (bI_ne c13)
            refine G_aload_n 0 rfl rfl dX12_road_40 ?_
            refine G_get (k := 0) (kd := (2, 75)) (v := aR 75) gf_X12_7 rfl rfl rfl rfl dX12_road_41 ?_
            refine G_iconst dX12_road_44 ?_
            refine G_iald (n := 2119) rfl (by decide) (by decide) dX12_road_45 ?_
            refine G_bipush (by decide) dX12_road_46 ?_
            refine G_icmp_ne (OKm.i hO 75 0 (isLg_row (show shp 75 = (1, 2119, []) from rfl) _)) (rL 16 rfl) dX12_road_48 (tgt := 53) (by decide) (fun c14 => ?_) (fun c14 => ?_)
            · have h := h.1 c14
              refine G_aload_n 0 rfl rfl dX12_road_53 ?_
              refine G_get (k := 0) (kd := (2, 75)) (v := aR 75) gf_X12_7 rfl rfl rfl rfl dX12_road_54 ?_
              refine G_iconst dX12_road_57 ?_
              refine G_iald (n := 2119) rfl (by decide) (by decide) dX12_road_58 ?_
              refine G_istore (lv' := [(5, aI ((σ 75 0))), (0, aR (74)), (1, aI (x1)), (2, aI (x2)), (3, aI (x3)), (4, aI (x4))]) rfl (by decide) dX12_road_59 ?_
              refine G_aload_n 1 rfl rfl dX12_road_61 ?_
              refine G_get (k := 0) (kd := (2, 75)) (v := aR 75) gf_X12_7 rfl rfl rfl rfl dX12_road_62 ?_
              refine G_bipush (by decide) dX12_road_65 ?_
              refine G_iconst dX12_road_67 ?_
              refine G_iload 0 rfl dX12_road_68 ?_
              refine G_imul dX12_road_70 ?_
              refine G_iadd dX12_road_71 ?_
              refine G_iload_n 2 rfl rfl dX12_road_72 ?_
              obtain ⟨c15, h⟩ := h
              obtain ⟨σ16, e18⟩ : ∃ τ : Mem, τ = mset σ 75 (39 + (4 * (σ 75 0))) x1 := ⟨_, rfl⟩
              have h := h σ16 e18
              have o17 : OKm σ16 := by rw [e18]; exact OKm.seti hO _ _ _ hx1 (isLg_row (show shp 75 = (1, 2119, []) from rfl) _)
              refine G_iast (n := 2119) rfl c15.1 c15.2 dX12_road_73 ?_
              rw [← e18]
              refine G_aload_n 1 rfl rfl dX12_road_74 ?_
              refine G_get (k := 0) (kd := (2, 75)) (v := aR 75) gf_X12_7 rfl rfl rfl rfl dX12_road_75 ?_
              refine G_bipush (by decide) dX12_road_78 ?_
              refine G_iconst dX12_road_80 ?_
              refine G_iload 0 rfl dX12_road_81 ?_
              refine G_imul dX12_road_83 ?_
              refine G_iadd dX12_road_84 ?_
              refine G_iconst dX12_road_85 ?_
              refine G_iadd dX12_road_86 ?_
              refine G_iload_n 3 rfl rfl dX12_road_87 ?_
              obtain ⟨c19, h⟩ := h
              obtain ⟨σ20, e22⟩ : ∃ τ : Mem, τ = mset σ16 75 ((39 + (4 * (σ 75 0))) + 1) x2 := ⟨_, rfl⟩
              have h := h σ20 e22
              have o21 : OKm σ20 := by rw [e22]; exact OKm.seti o17 _ _ _ hx2 (isLg_row (show shp 75 = (1, 2119, []) from rfl) _)
              refine G_iast (n := 2119) rfl c19.1 c19.2 dX12_road_88 ?_
              rw [← e22]
              refine G_aload_n 1 rfl rfl dX12_road_89 ?_
              refine G_get (k := 0) (kd := (2, 75)) (v := aR 75) gf_X12_7 rfl rfl rfl rfl dX12_road_90 ?_
              refine G_bipush (by decide) dX12_road_93 ?_
              refine G_iconst dX12_road_95 ?_
              refine G_iload 0 rfl dX12_road_96 ?_
              refine G_imul dX12_road_98 ?_
              refine G_iadd dX12_road_99 ?_
              refine G_iconst dX12_road_100 ?_
              refine G_iadd dX12_road_101 ?_
              refine G_iload_n 4 rfl rfl dX12_road_102 ?_
              obtain ⟨c23, h⟩ := h
              obtain ⟨σ24, e26⟩ : ∃ τ : Mem, τ = mset σ20 75 ((39 + (4 * (σ 75 0))) + 2) x3 := ⟨_, rfl⟩
              have h := h σ24 e26
              have o25 : OKm σ24 := by rw [e26]; exact OKm.seti o21 _ _ _ hx3 (isLg_row (show shp 75 = (1, 2119, []) from rfl) _)
              refine G_iast (n := 2119) rfl c23.1 c23.2 dX12_road_103 ?_
              rw [← e26]
              refine G_aload_n 1 rfl rfl dX12_road_104 ?_
              refine G_get (k := 0) (kd := (2, 75)) (v := aR 75) gf_X12_7 rfl rfl rfl rfl dX12_road_105 ?_
              refine G_bipush (by decide) dX12_road_108 ?_
              refine G_iconst dX12_road_110 ?_
              refine G_iload 0 rfl dX12_road_111 ?_
              refine G_imul dX12_road_113 ?_
              refine G_iadd dX12_road_114 ?_
              refine G_iconst dX12_road_115 ?_
              refine G_iadd dX12_road_116 ?_
              refine G_iload 5 rfl dX12_road_117 ?_
              obtain ⟨c27, h⟩ := h
              obtain ⟨σ28, e30⟩ : ∃ τ : Mem, τ = mset σ24 75 ((39 + (4 * (σ 75 0))) + 3) x4 := ⟨_, rfl⟩
              have h := h σ28 e30
              have o29 : OKm σ28 := by rw [e30]; exact OKm.seti o25 _ _ _ hx4 (isLg_row (show shp 75 = (1, 2119, []) from rfl) _)
              refine G_iast (n := 2119) rfl c27.1 c27.2 dX12_road_119 ?_
              rw [← e30]
              refine G_aload_n 1 rfl rfl dX12_road_120 ?_
              refine G_get (k := 0) (kd := (2, 75)) (v := aR 75) gf_X12_7 rfl rfl rfl rfl dX12_road_121 ?_
              refine G_bipush (by decide) dX12_road_124 ?_
              refine G_iload 0 rfl dX12_road_126 ?_
              refine G_iadd dX12_road_128 ?_
              refine G_iload 5 rfl dX12_road_129 ?_
              obtain ⟨c31, h⟩ := h
              obtain ⟨σ32, e34⟩ : ∃ τ : Mem, τ = mset σ28 75 (11 + (σ 75 0)) x4 := ⟨_, rfl⟩
              have h := h σ32 e34
              have o33 : OKm σ32 := by rw [e34]; exact OKm.seti o29 _ _ _ hx4 (isLg_row (show shp 75 = (1, 2119, []) from rfl) _)
              refine G_iast (n := 2119) rfl c31.1 c31.2 dX12_road_131 ?_
              rw [← e34]
              refine G_aload_n 1 rfl rfl dX12_road_132 ?_
              refine G_get (k := 0) (kd := (2, 75)) (v := aR 75) gf_X12_7 rfl rfl rfl rfl dX12_road_133 ?_
              refine G_iconst dX12_road_136 ?_
              refine G_dup2 rfl rfl dX12_road_137 ?_
              refine G_iald (n := 2119) rfl (by decide) (by decide) dX12_road_138 ?_
              refine G_iconst dX12_road_139 ?_
              refine G_iadd dX12_road_140 ?_
              obtain ⟨c35, h⟩ := h
              obtain ⟨σ36, e38⟩ : ∃ τ : Mem, τ = mset σ32 75 0 ((σ32 75 0) + 1) := ⟨_, rfl⟩
              have h := h σ36 e38
              have o37 : OKm σ36 := by rw [e38]; exact OKm.seti o33 _ _ _ c35 (isLg_row (show shp 75 = (1, 2119, []) from rfl) _)
              refine G_iast (n := 2119) rfl (by decide) (by decide) dX12_road_141 ?_
              rw [← e38]
              refine G_iload 0 rfl dX12_road_142 ?_
              exact G_iret rfl (OKm.i hO 75 0 (isLg_row (show shp 75 = (1, 2119, []) from rfl) _)) dX12_road_144 ⟨_, rfl, h⟩ o37
            · have h := h.2 c14
              refine G_iconst dX12_road_51 ?_
              exact G_iret rfl (rL (-1) rfl) dX12_road_52 ⟨_, rfl, h⟩ hO

theorem sp_X12_road (d : Nat) (hd : 2 ≤ d) (σ : Mem) (hO : OKm σ) (x1 : Int) (hx1 : R32 x1) (x2 : Int) (hx2 : R32 x2) (x3 : Int) (hx3 : R32 x3) (x4 : Int) (hx4 : R32 x4) (A : Mem) (L : List Mem) (tx : Nat → Txt) (hpre : vsM σ A L tx) : Mt yX12_road cX12_road 6 (some .int) d [aR (74), aI (x1), aI (x2), aI (x3), aI (x4)] σ (QI (fun v σ' => (roadOK A x1 x2 x3 x4 → v = A 10 0 ∧ vsM σ' (roadS A x1 x2 x3 x4) L tx) ∧ (¬ roadOK A x1 x2 x3 x4 → v = -1 ∧ vsM σ' A L tx) ∧ Fr [75] σ σ')) := mt_X12_road hd hx1 hx2 hx3 hx4 hO (by
  unfold wp_X12_road
  have hS := hpre
  have hI := hS.1.2.2.1
  have hc := hI.1
  have e0 : σ 75 0 = A 10 0 := hS.1.1.1.1
  rw [e0]
  have no : ¬ roadOK A x1 x2 x3 x4 → (roadOK A x1 x2 x3 x4 → (-1 : Int) = A 10 0 ∧ vsM σ (roadS A x1 x2 x3 x4) L tx) ∧ (¬ roadOK A x1 x2 x3 x4 → (-1 : Int) = -1 ∧ vsM σ A L tx) ∧ Fr [75] σ σ := fun h => ⟨fun h2 => absurd h2 h, fun _ => ⟨rfl, hS⟩, Fr.rf _ _⟩
  refine ⟨fun h => no (fun q => h q.1), fun h1 => ⟨fun h => no (fun q => h q.2.1), fun h2 => ⟨fun h => no (fun q => q.2.2.1 h), fun h3 => ⟨fun h => no (fun q => h q.2.2.2.1), fun h4 => ⟨fun h => no (fun q => h q.2.2.2.2.1), fun h5 => ⟨fun h6 => ?_, fun h => no (fun q => by have := q.2.2.2.2.2; omega)⟩⟩⟩⟩⟩⟩
  have hok : roadOK A x1 x2 x3 x4 := ⟨h1, h2, h3, h4, h5, by omega⟩
  unfold R32
  repeat' (first | (intro _ e; subst e) | (refine And.intro ?_ ?_; first | omega | (simp (disch := omega) only [mset_off, mset_hit, mset_miss, mcpy_off, mcpy_hit, mcpy_miss, mrow_off, mrow_same]; omega)))
  refine ⟨fun _ => ⟨rfl, ?_⟩, fun h => absurd hok h, ?_⟩
  · obtain ⟨⟨t0, t1, t2, t3⟩, ⟨n0, n1, n2, n3⟩, -, hX⟩ := hS.1
    refine hS.told ⟨?_, fun r h1 h2 => ?_, fun g h1 h2 => ?_, fun i h1 h2 => ?_⟩ ⟨?_, fun r h1 h2 => ?_, fun g h1 h2 => ?_, fun i h1 h2 => ?_⟩ (hI.road hok.2.2.2.2.2 (by omega) h4 h5) ?_ (fun j hj => ?_) ?_
    · unfold roadS; simp (disch := omega) only [mset_off, mset_hit, mset_miss, mcpy_off, mcpy_hit, mcpy_miss, mrow_off, mrow_same]; omega
    · unfold roadS at h2 ⊢
      simp (disch := omega) only [mset_hit] at h2
      by_cases e : r = A 10 0
      · subst e; simp (disch := omega) only [mset_off, mset_hit, mset_miss, mcpy_off, mcpy_hit, mcpy_miss, mrow_off, mrow_same]; exact ⟨trivial, trivial, trivial, trivial⟩
      · simp (disch := omega) only [mset_off, mset_hit, mset_miss, mcpy_off, mcpy_hit, mcpy_miss, mrow_off, mrow_same]; exact t1 r h1 (by omega)
    · unfold roadS at h2 ⊢
      simp (disch := omega) only [mset_off, mset_miss] at h2
      simp (disch := omega) only [mset_off, mset_hit, mset_miss, mcpy_off, mcpy_hit, mcpy_miss, mrow_off, mrow_same]; exact t2 g h1 h2
    · unfold roadS at h2 ⊢
      simp (disch := omega) only [mset_off, mset_miss] at h2
      simp (disch := omega) only [mset_off, mset_hit, mset_miss, mcpy_off, mcpy_hit, mcpy_miss, mrow_off, mrow_same]; exact t3 i h1 h2
    · unfold roadS; simp (disch := omega) only [mset_off, mset_hit, mset_miss, mcpy_off, mcpy_hit, mcpy_miss, mrow_off, mrow_same]; exact n0
    · unfold roadS at h2 ⊢
      simp (disch := omega) only [mset_hit] at h2
      by_cases e : r = A 10 0
      · subst e; simp (disch := omega) only [mset_off, mset_hit, mset_miss, mcpy_off, mcpy_hit, mcpy_miss, mrow_off, mrow_same]
      · simp (disch := omega) only [mset_off, mset_hit, mset_miss, mcpy_off, mcpy_hit, mcpy_miss, mrow_off, mrow_same]; exact n1 r h1 (by omega)
    · unfold roadS at h2 ⊢
      simp (disch := omega) only [mset_off, mset_miss] at h2
      simp (disch := omega) only [mset_off, mset_hit, mset_miss, mcpy_off, mcpy_hit, mcpy_miss, mrow_off, mrow_same]; exact n2 g h1 h2
    · have k3 := hI.2.2.2.1
      unfold roadS bkM at *
      simp (disch := omega) only [mset_off] at h2
      simp (disch := omega) only [mset_off, mset_hit, mset_miss, mcpy_off, mcpy_hit, mcpy_miss, mrow_off, mrow_same]; exact n3 i h1 h2
    · unfold roadS; simp (disch := omega) only [mset_off, mset_hit, mset_miss, mcpy_off, mcpy_hit, mcpy_miss, mrow_off, mrow_same]
    · simp (disch := omega) only [mset_off, mset_hit, mset_miss, mcpy_off, mcpy_hit, mcpy_miss, mrow_off, mrow_same]
    · exact ((((((Fr.rf _ _).set (by simp)).set (by simp)).set (by simp)).set (by simp)).set (by simp)).set (by simp)
  · exact ((((((Fr.rf _ _).set (by simp)).set (by simp)).set (by simp)).set (by simp)).set (by simp)).set (by simp))

def wp_X12_goer (x1 : Int) (x2 : Int) (σ : Mem) (Q : Int → Mem → Prop) : Prop :=
  ((¬ (0 ≤ x1 ∧ x1 ≤ 7)) →
    Q (-1) σ) ∧
   ((0 ≤ x1 ∧ x1 ≤ 7) →
    ((¬ ((1 : Int) ≤ x2 ∧ x2 ≤ (9 : Int))) →
     Q (-1) σ) ∧
    (((1 : Int) ≤ x2 ∧ x2 ≤ (9 : Int)) →
     (((σ 75 1) ≠ 6) →
      (0 ≤ (103 + (2 * (σ 75 1))) ∧ (103 + (2 * (σ 75 1))) < 2119) ∧
      ∀ σ9 : Mem, σ9 = mset σ 75 (103 + (2 * (σ 75 1))) x1 →
      (0 ≤ ((103 + (2 * (σ 75 1))) + 1) ∧ ((103 + (2 * (σ 75 1))) + 1) < 2119) ∧
      ∀ σ13 : Mem, σ13 = mset σ9 75 ((103 + (2 * (σ 75 1))) + 1) x2 →
      (0 ≤ (σ 75 1) ∧ (σ 75 1) < 6) ∧
      ∀ σ19 : Mem, σ19 = (mset (mset σ13 75 (27 + 2 * (σ 75 1)) (σ13 75 (103 + 2 * (σ 75 1)))) 75 (27 + 2 * (σ 75 1) + 1) 0) →
      R32 ((σ19 75 1) + 1) ∧
      ∀ σ22 : Mem, σ22 = mset σ19 75 1 ((σ19 75 1) + 1) →
      Q (σ 75 1) σ22) ∧
     (((σ 75 1) = 6) →
      Q (-1) σ)))
theorem mt_X12_goer {d : Nat} (hd : 2 ≤ d) {x1 : Int} {x2 : Int} {σ : Mem} {Q : Int → Mem → Prop} (hx1 : R32 x1) (hx2 : R32 x2) (hO : OKm σ) (h : wp_X12_goer x1 x2 σ Q) : Mt yX12_goer cX12_goer 4 (some .int) d [aR (74), aI (x1), aI (x2)] σ (QI Q) := by
  refine Mt.intro (by decide +kernel) (Nat.le_of_ble_eq_true rfl) [(0, aR (74)), (1, aI (x1)), (2, aI (x2))] rfl ?_
  unfold wp_X12_goer at h
  refine G_iload_n 1 rfl rfl dX12_goer_0 ?_
  refine G_callS (as := [_]) cf_X12_89 rfl (sp_X12_isTown (d - 1) (by omega) _ hO _ hx1) (by omega) rfl rfl (Nat.le_of_ble_eq_true rfl) dX12_goer_1 ?_
  rintro _ _ ⟨_, rfl, rfl, rfl⟩ o2 r1
  refine G_if_eq (bI_R _) dX12_goer_4 (tgt := 28) (by decide) (fun c3 => ?_) (fun c3 => ?_)
  · have h := h.1 ((bI_0 _).mp c3)
    refine G_iconst dX12_goer_28 ?_
    exact G_iret rfl (rL (-1) rfl) dX12_goer_29 ⟨_, rfl, h⟩ hO
  · have h := h.2 (bI_ne c3)
    refine G_iload_n 2 rfl rfl dX12_goer_7 ?_
    refine G_iconst dX12_goer_8 ?_
    refine G_bipush (by decide) dX12_goer_9 ?_
    refine G_callS (as := [_, _, _]) cf_X12_81 rfl (sp_X12_isIn (d - 1) (by omega) _ hO _ hx2 _ (rL 1 rfl) _ (rL 9 rfl)) (by omega) rfl rfl (Nat.le_of_ble_eq_true rfl) dX12_goer_11 ?_
    rintro _ _ ⟨_, rfl, rfl, rfl⟩ o5 r4
    refine G_if_eq (bI_R _) dX12_goer_14 (tgt := 28) (by decide) (fun c6 => ?_) (fun c6 => ?_)
    · have h := h.1 ((bI_0 _).mp c6)
      refine G_iconst dX12_goer_28 ?_
      exact G_iret rfl (rL (-1) rfl) dX12_goer_29 ⟨_, rfl, h⟩ hO
    · have h := h.2 (bI_ne c6)
      refine G_aload_n 0 rfl rfl dX12_goer_17 ?_
      refine G_get (k := 0) (kd := (2, 75)) (v := aR 75) gf_X12_7 rfl rfl rfl rfl dX12_goer_18 ?_
      refine G_iconst dX12_goer_21 ?_
      refine G_iald (n := 2119) rfl (by decide) (by decide) dX12_goer_22 ?_
      refine G_bipush (by decide) dX12_goer_23 ?_
      refine G_icmp_ne (OKm.i hO 75 1 (isLg_row (show shp 75 = (1, 2119, []) from rfl) _)) (rL 6 rfl) dX12_goer_25 (tgt := 30) (by decide) (fun c7 => ?_) (fun c7 => ?_)
      · have h := h.1 c7
        refine G_aload_n 0 rfl rfl dX12_goer_30 ?_
        refine G_get (k := 0) (kd := (2, 75)) (v := aR 75) gf_X12_7 rfl rfl rfl rfl dX12_goer_31 ?_
        refine G_iconst dX12_goer_34 ?_
        refine G_iald (n := 2119) rfl (by decide) (by decide) dX12_goer_35 ?_
        refine G_istore_n (lv' := [(3, aI ((σ 75 1))), (0, aR (74)), (1, aI (x1)), (2, aI (x2))]) rfl rfl (by decide) dX12_goer_36 ?_
        refine G_aload_n 1 rfl rfl dX12_goer_37 ?_
        refine G_get (k := 0) (kd := (2, 75)) (v := aR 75) gf_X12_7 rfl rfl rfl rfl dX12_goer_38 ?_
        refine G_bipush (by decide) dX12_goer_41 ?_
        refine G_iconst dX12_goer_43 ?_
        refine G_iload_n 0 rfl rfl dX12_goer_44 ?_
        refine G_imul dX12_goer_45 ?_
        refine G_iadd dX12_goer_46 ?_
        refine G_iload_n 2 rfl rfl dX12_goer_47 ?_
        obtain ⟨c8, h⟩ := h
        obtain ⟨σ9, e11⟩ : ∃ τ : Mem, τ = mset σ 75 (103 + (2 * (σ 75 1))) x1 := ⟨_, rfl⟩
        have h := h σ9 e11
        have o10 : OKm σ9 := by rw [e11]; exact OKm.seti hO _ _ _ hx1 (isLg_row (show shp 75 = (1, 2119, []) from rfl) _)
        refine G_iast (n := 2119) rfl c8.1 c8.2 dX12_goer_48 ?_
        rw [← e11]
        refine G_aload_n 1 rfl rfl dX12_goer_49 ?_
        refine G_get (k := 0) (kd := (2, 75)) (v := aR 75) gf_X12_7 rfl rfl rfl rfl dX12_goer_50 ?_
        refine G_bipush (by decide) dX12_goer_53 ?_
        refine G_iconst dX12_goer_55 ?_
        refine G_iload_n 0 rfl rfl dX12_goer_56 ?_
        refine G_imul dX12_goer_57 ?_
        refine G_iadd dX12_goer_58 ?_
        refine G_iconst dX12_goer_59 ?_
        refine G_iadd dX12_goer_60 ?_
        refine G_iload_n 3 rfl rfl dX12_goer_61 ?_
        obtain ⟨c12, h⟩ := h
        obtain ⟨σ13, e15⟩ : ∃ τ : Mem, τ = mset σ9 75 ((103 + (2 * (σ 75 1))) + 1) x2 := ⟨_, rfl⟩
        have h := h σ13 e15
        have o14 : OKm σ13 := by rw [e15]; exact OKm.seti o10 _ _ _ hx2 (isLg_row (show shp 75 = (1, 2119, []) from rfl) _)
        refine G_iast (n := 2119) rfl c12.1 c12.2 dX12_goer_62 ?_
        rw [← e15]
        refine G_aload_n 1 rfl rfl dX12_goer_63 ?_
        refine G_iload_n 0 rfl rfl dX12_goer_64 ?_
        obtain ⟨c16, h⟩ := h
        refine G_callV (as := [_]) cf_X12_93 rfl rfl rfl (sp_X12_begin (d - 1) (by omega) _ o14 _ (OKm.i hO 75 1 (isLg_row (show shp 75 = (1, 2119, []) from rfl) _)) c16) (by omega) rfl rfl (Nat.le_of_ble_eq_true rfl) dX12_goer_65 ?_
        rintro _ σ19 ⟨rfl, e20⟩ o18 r17
        have h := h σ19 e20
        refine G_aload_n 1 rfl rfl dX12_goer_68 ?_
        refine G_get (k := 0) (kd := (2, 75)) (v := aR 75) gf_X12_7 rfl rfl rfl rfl dX12_goer_69 ?_
        refine G_iconst dX12_goer_72 ?_
        refine G_dup2 rfl rfl dX12_goer_73 ?_
        refine G_iald (n := 2119) rfl (by decide) (by decide) dX12_goer_74 ?_
        refine G_iconst dX12_goer_75 ?_
        refine G_iadd dX12_goer_76 ?_
        obtain ⟨c21, h⟩ := h
        obtain ⟨σ22, e24⟩ : ∃ τ : Mem, τ = mset σ19 75 1 ((σ19 75 1) + 1) := ⟨_, rfl⟩
        have h := h σ22 e24
        have o23 : OKm σ22 := by rw [e24]; exact OKm.seti o18 _ _ _ c21 (isLg_row (show shp 75 = (1, 2119, []) from rfl) _)
        refine G_iast (n := 2119) rfl (by decide) (by decide) dX12_goer_77 ?_
        rw [← e24]
        refine G_iload_n 0 rfl rfl dX12_goer_78 ?_
        exact G_iret rfl (OKm.i hO 75 1 (isLg_row (show shp 75 = (1, 2119, []) from rfl) _)) dX12_goer_79 ⟨_, rfl, h⟩ o23
      · have h := h.2 c7
        refine G_iconst dX12_goer_28 ?_
        exact G_iret rfl (rL (-1) rfl) dX12_goer_29 ⟨_, rfl, h⟩ hO

theorem sp_X12_goer (d : Nat) (hd : 2 ≤ d) (σ : Mem) (hO : OKm σ) (x1 : Int) (hx1 : R32 x1) (x2 : Int) (hx2 : R32 x2) (A : Mem) (L : List Mem) (tx : Nat → Txt) (hpre : vsM σ A L tx) : Mt yX12_goer cX12_goer 4 (some .int) d [aR (74), aI (x1), aI (x2)] σ (QI (fun v σ' => (goerOK A x1 x2 → v = A 10 1 ∧ vsM σ' (goerS A x1 x2) L tx) ∧ (¬ goerOK A x1 x2 → v = -1 ∧ vsM σ' A L tx) ∧ Fr [75] σ σ')) := mt_X12_goer hd hx1 hx2 hO (by
  unfold wp_X12_goer
  have hS := hpre
  have hI := hS.1.2.2.1
  have hc := hI.1
  have e1 : σ 75 1 = A 10 1 := hS.1.1.1.2.1
  rw [e1]
  have no : ¬ goerOK A x1 x2 → (goerOK A x1 x2 → (-1 : Int) = A 10 1 ∧ vsM σ (goerS A x1 x2) L tx) ∧ (¬ goerOK A x1 x2 → (-1 : Int) = -1 ∧ vsM σ A L tx) ∧ Fr [75] σ σ := fun h => ⟨fun h2 => absurd h2 h, fun _ => ⟨rfl, hS⟩, Fr.rf _ _⟩
  refine ⟨fun h => no (fun q => h q.1), fun h1 => ⟨fun h => no (fun q => h q.2.1), fun h2 => ⟨fun h6 => ?_, fun h => no (fun q => by have := q.2.2; omega)⟩⟩⟩
  have hok : goerOK A x1 x2 := ⟨h1, h2, by omega⟩
  unfold R32
  repeat' (first | (intro _ e; subst e) | (refine And.intro ?_ ?_; first | omega | (simp (disch := omega) only [mset_off, mset_hit, mset_miss, mcpy_off, mcpy_hit, mcpy_miss, mrow_off, mrow_same]; omega)))
  refine ⟨fun _ => ⟨rfl, ?_⟩, fun h => absurd hok h, ?_⟩
  · obtain ⟨⟨t0, t1, t2, t3⟩, ⟨n0, n1, n2, n3⟩, -, hX⟩ := hS.1
    refine hS.told ⟨?_, fun r h1 h2 => ?_, fun g h1 h2 => ?_, fun i h1 h2 => ?_⟩ ⟨?_, fun r h1 h2 => ?_, fun g h1 h2 => ?_, fun i h1 h2 => ?_⟩ (hI.goer hok.2.2 h1 h2) ?_ (fun j hj => ?_) ?_
    · unfold goerS; simp (disch := omega) only [mset_off, mset_hit, mset_miss, mcpy_off, mcpy_hit, mcpy_miss, mrow_off, mrow_same]; omega
    · unfold goerS at h2 ⊢
      simp (disch := omega) only [mset_off, mset_miss] at h2
      simp (disch := omega) only [mset_off, mset_hit, mset_miss, mcpy_off, mcpy_hit, mcpy_miss, mrow_off, mrow_same]; exact t1 r h1 h2
    · unfold goerS at h2 ⊢
      simp (disch := omega) only [mset_hit] at h2
      by_cases e : g = A 10 1
      · subst e; simp (disch := omega) only [mset_off, mset_hit, mset_miss, mcpy_off, mcpy_hit, mcpy_miss, mrow_off, mrow_same]; exact ⟨trivial, trivial⟩
      · simp (disch := omega) only [mset_off, mset_hit, mset_miss, mcpy_off, mcpy_hit, mcpy_miss, mrow_off, mrow_same]; exact t2 g h1 (by omega)
    · unfold goerS at h2 ⊢
      simp (disch := omega) only [mset_off, mset_miss] at h2
      simp (disch := omega) only [mset_off, mset_hit, mset_miss, mcpy_off, mcpy_hit, mcpy_miss, mrow_off, mrow_same]; exact t3 i h1 h2
    · unfold goerS; simp (disch := omega) only [mset_off, mset_hit, mset_miss, mcpy_off, mcpy_hit, mcpy_miss, mrow_off, mrow_same]; exact n0
    · unfold goerS at h2 ⊢
      simp (disch := omega) only [mset_off, mset_miss] at h2
      simp (disch := omega) only [mset_off, mset_hit, mset_miss, mcpy_off, mcpy_hit, mcpy_miss, mrow_off, mrow_same]; exact n1 r h1 h2
    · unfold goerS at h2 ⊢
      simp (disch := omega) only [mset_hit] at h2
      by_cases e : g = A 10 1
      · subst e; simp (disch := omega) only [mset_off, mset_hit, mset_miss, mcpy_off, mcpy_hit, mcpy_miss, mrow_off, mrow_same]; exact ⟨trivial, trivial⟩
      · simp (disch := omega) only [mset_off, mset_hit, mset_miss, mcpy_off, mcpy_hit, mcpy_miss, mrow_off, mrow_same]; exact n2 g h1 (by omega)
    · have k3 := hI.2.2.2.1
      unfold goerS bkM at *
      simp (disch := omega) only [mset_off] at h2
      simp (disch := omega) only [mset_off, mset_hit, mset_miss, mcpy_off, mcpy_hit, mcpy_miss, mrow_off, mrow_same]; exact n3 i h1 h2
    · unfold goerS; simp (disch := omega) only [mset_off, mset_hit, mset_miss, mcpy_off, mcpy_hit, mcpy_miss, mrow_off, mrow_same]
    · simp (disch := omega) only [mset_off, mset_hit, mset_miss, mcpy_off, mcpy_hit, mcpy_miss, mrow_off, mrow_same]
    · exact (((((Fr.rf _ _).set (by simp)).set (by simp)).set (by simp)).set (by simp)).set (by simp)
  · exact (((((Fr.rf _ _).set (by simp)).set (by simp)).set (by simp)).set (by simp)).set (by simp))

/-- one clause of a script: whether it can be, state, steps -/
def playS (A : Mem) (L : List Mem) (tx : Nat → Txt) (c : Cl) : Int × Mem × List Mem :=
  if c.1 = 2 then (if A 10 0 < 16 ∧ c.2.1 ≠ c.2.2.1 then (1, roadS A c.2.1 c.2.2.1 c.2.2.2.1 c.2.2.2.2, L) else (0, A, L))
  else if c.1 = 3 then (if A 10 1 < 6 then (1, goerS A c.2.1 c.2.2.1, L) else (0, A, L))
  else if c.1 = 4 then (if canGoV A tx c.2.2.1 c.2.1 = true then (1, goneS A tx c.2.2.1 c.2.1, pushS A L) else (0, A, L))
  else if c.1 = 5 then (if canLayS A c.2.1 = true then (1, layS A c.2.1, pushS A L) else (0, A, L))
  else if c.1 = 6 then (if A 0 0 + c.2.1 ≤ 999 then (1, coilS A c.2.1, pushS A L) else (0, A, L))
  else if c.1 = 7 then (if A 0 2 + c.2.1 ≤ 9999 then 1 else 0, (dayN tx A L (min c.2.1 (9999 - A 0 2)).toNat).1, (dayN tx A L (min c.2.1 (9999 - A 0 2)).toNat).2.1)
  else (1, A, L)
def playL (tx : Nat → Txt) : List Cl → Int → Mem → List Mem → Int × Mem × List Mem
  | [], _, A, L => (-1, A, L)
  | c :: cs, k, A, L => if (playS A L tx c).1 = 0 then (k, (playS A L tx c).2.1, (playS A L tx c).2.2) else playL tx cs (k + 1) (playS A L tx c).2.1 (playS A L tx c).2.2
def clM (σ : Mem) (x : Int) (c : Cl) : Prop := clOK c ∧ σ 77 x = c.1 ∧ (1 ≤ clN c.1 → σ 77 (x + 1) = c.2.1) ∧ (2 ≤ clN c.1 → σ 77 (x + 2) = c.2.2.1) ∧ (4 ≤ clN c.1 → σ 77 (x + 3) = c.2.2.2.1 ∧ σ 77 (x + 4) = c.2.2.2.2)
theorem stM.of75' {σ τ : Mem} (h : Fr [75] σ τ) : stM σ τ 0 := stM.of75 h

def wp_X12_isPlayed (x1 : Int) (σ : Mem) (Q : Int → Mem → Prop) : Prop :=
  (0 ≤ (x1 + 1) ∧ (x1 + 1) < 2916) ∧
   (0 ≤ (x1 + 2) ∧ (x1 + 2) < 2916) ∧
   (0 ≤ x1 ∧ x1 < 2916) ∧
   ((σ 77 x1) = 2 →
    (0 ≤ (x1 + 3) ∧ (x1 + 3) < 2916) ∧
    (0 ≤ (x1 + 4) ∧ (x1 + 4) < 2916) ∧
    ∃ g7 : Mem, ∃ g8 : List Mem, ∃ g9 : Nat → Txt, (vsM σ g7 g8 g9) ∧
    ∀ (u14 : Int) (σ13 : Mem), R32 u14 → OKm σ13 → ((roadOK g7 (σ 77 (x1 + 1)) (σ 77 (x1 + 2)) (σ 77 (x1 + 3)) (σ 77 (x1 + 4)) → u14 = g7 10 0 ∧ vsM σ13 (roadS g7 (σ 77 (x1 + 1)) (σ 77 (x1 + 2)) (σ 77 (x1 + 3)) (σ 77 (x1 + 4))) g8 g9) ∧ (¬ roadOK g7 (σ 77 (x1 + 1)) (σ 77 (x1 + 2)) (σ 77 (x1 + 3)) (σ 77 (x1 + 4)) → u14 = -1 ∧ vsM σ13 g7 g8 g9) ∧ Fr [75] σ σ13) →
    ((u14 < 0) →
     Q 0 σ13) ∧
    ((0 ≤ u14) →
     Q 1 σ13)) ∧
   ((σ 77 x1) ≠ 2 →
    ((σ 77 x1) = 3 →
     ∃ g18 : Mem, ∃ g19 : List Mem, ∃ g20 : Nat → Txt, (vsM σ g18 g19 g20) ∧
     ∀ (u25 : Int) (σ24 : Mem), R32 u25 → OKm σ24 → ((goerOK g18 (σ 77 (x1 + 1)) (σ 77 (x1 + 2)) → u25 = g18 10 1 ∧ vsM σ24 (goerS g18 (σ 77 (x1 + 1)) (σ 77 (x1 + 2))) g19 g20) ∧ (¬ goerOK g18 (σ 77 (x1 + 1)) (σ 77 (x1 + 2)) → u25 = -1 ∧ vsM σ24 g18 g19 g20) ∧ Fr [75] σ σ24) →
     ((u25 < 0) →
      Q 0 σ24) ∧
     ((0 ≤ u25) →
      Q 1 σ24)) ∧
    ((σ 77 x1) ≠ 3 →
     ((σ 77 x1) = 4 →
      ∃ g29 : Mem, ∃ g30 : List Mem, ∃ g31 : Nat → Txt, (vsM σ g29 g30 g31 ∧ σ 74 24 < 800000000) ∧
      ∀ (u36 : Int) (σ35 : Mem), R32 u36 → OKm σ35 → ((canGoV g29 g31 (σ 77 (x1 + 2)) (σ 77 (x1 + 1)) = true → u36 = acrS g29 (σ 77 (x1 + 1)) (g29 2 (σ 77 (x1 + 2))) ∧ vsM σ35 (goneS g29 g31 (σ 77 (x1 + 2)) (σ 77 (x1 + 1))) (pushS g29 g30) g31) ∧ (canGoV g29 g31 (σ 77 (x1 + 2)) (σ 77 (x1 + 1)) = false → u36 = -1 ∧ vsM σ35 g29 g30 g31) ∧ stM σ σ35 1) →
      ((u36 < 0) →
       Q 0 σ35) ∧
      ((0 ≤ u36) →
       Q 1 σ35)) ∧
     ((σ 77 x1) ≠ 4 →
      ((σ 77 x1) = 5 →
       ∃ g40 : Mem, ∃ g41 : List Mem, ∃ g42 : Nat → Txt, (vsM σ g40 g41 g42) ∧
       ∀ (u47 : Int) (σ46 : Mem), R32 u47 → OKm σ46 → ((canLayS g40 (σ 77 (x1 + 1)) = true → u47 = 1 ∧ vsM σ46 (layS g40 (σ 77 (x1 + 1))) (pushS g40 g41) g42) ∧ (canLayS g40 (σ 77 (x1 + 1)) = false → u47 = 0 ∧ vsM σ46 g40 g41 g42) ∧ stM σ σ46 0) →
       (u47 = 0 ∨ u47 = 1) ∧
       Q u47 σ46) ∧
      ((σ 77 x1) ≠ 5 →
       ((σ 77 x1) = 6 →
        ∃ g51 : Mem, ∃ g52 : List Mem, ∃ g53 : Nat → Txt, (vsM σ g51 g52 g53) ∧
        ∀ (u58 : Int) (σ57 : Mem), R32 u58 → OKm σ57 → ((((1 ≤ (σ 77 (x1 + 1)) ∧ (σ 77 (x1 + 1)) ≤ 99) ∧ g51 0 0 + (σ 77 (x1 + 1)) ≤ 999) → u58 = 1 ∧ vsM σ57 (coilS g51 (σ 77 (x1 + 1))) (pushS g51 g52) g53) ∧ (¬ ((1 ≤ (σ 77 (x1 + 1)) ∧ (σ 77 (x1 + 1)) ≤ 99) ∧ g51 0 0 + (σ 77 (x1 + 1)) ≤ 999) → u58 = 0 ∧ vsM σ57 g51 g52 g53) ∧ stM σ σ57 0) →
        (u58 = 0 ∨ u58 = 1) ∧
        Q u58 σ57) ∧
       ((σ 77 x1) ≠ 6 →
        ((σ 77 x1) = 7 →
         ∃ g62 : Mem, ∃ g63 : List Mem, ∃ g64 : Nat → Txt, (vsM σ g62 g63 g64 ∧ (1 ≤ (σ 77 (x1 + 1)) ∧ (σ 77 (x1 + 1)) ≤ 60) ∧ σ 74 24 < 800000000) ∧
         ∀ (u69 : Int) (σ68 : Mem), R32 u69 → OKm σ68 → (u69 = (if g62 0 2 + (σ 77 (x1 + 1)) ≤ 9999 then 1 else 0) ∧ vsM σ68 (dayN g64 g62 g63 (min (σ 77 (x1 + 1)) (9999 - g62 0 2)).toNat).1 (dayN g64 g62 g63 (min (σ 77 (x1 + 1)) (9999 - g62 0 2)).toNat).2.1 g64 ∧ σ68 74 24 = (dayN g64 g62 g63 (min (σ 77 (x1 + 1)) (9999 - g62 0 2)).toNat).2.2 ∧ (∀ j : Int, j ≠ 24 → σ68 74 j = σ 74 j) ∧ Fr FGM σ σ68 ∧ σ68 74 24 ≤ 360) →
         (u69 = 0 ∨ u69 = 1) ∧
         Q u69 σ68) ∧
        ((σ 77 x1) ≠ 7 →
         Q 1 σ))))))
theorem mt_X12_isPlayed {d : Nat} (hd : 10 ≤ d) {x1 : Int} {σ : Mem} {Q : Int → Mem → Prop} (hx1 : R32 x1) (hO : OKm σ) (h : wp_X12_isPlayed x1 σ Q) : Mt yX12_isPlayed cX12_isPlayed 4 (some .boolean) d [aR (74), aI (x1)] σ (QI Q) := by
  refine Mt.intro (by decide +kernel) (Nat.le_of_ble_eq_true rfl) [(0, aR (74)), (1, aI (x1))] rfl ?_
  unfold wp_X12_isPlayed at h
  refine G_aload_n 0 rfl rfl dX12_isPlayed_0 ?_
  refine G_get (k := 2) (kd := (2, 77)) (v := aR 77) gf_X12_16 rfl rfl rfl rfl dX12_isPlayed_1 ?_
  refine G_iload_n 1 rfl rfl dX12_isPlayed_4 ?_
  refine G_iconst dX12_isPlayed_5 ?_
  refine G_iadd dX12_isPlayed_6 ?_
  obtain ⟨c1, h⟩ := h
  refine G_iald (n := 2916) rfl c1.1 c1.2 dX12_isPlayed_7 ?_
  refine G_istore_n (lv' := [(2, aI ((σ 77 (x1 + 1)))), (0, aR (74)), (1, aI (x1))]) rfl rfl (by decide) dX12_isPlayed_8 ?_
  refine G_aload_n 1 rfl rfl dX12_isPlayed_9 ?_
  refine G_get (k := 2) (kd := (2, 77)) (v := aR 77) gf_X12_16 rfl rfl rfl rfl dX12_isPlayed_10 ?_
  refine G_iload_n 2 rfl rfl dX12_isPlayed_13 ?_
  refine G_iconst dX12_isPlayed_14 ?_
  refine G_iadd dX12_isPlayed_15 ?_
  obtain ⟨c2, h⟩ := h
  refine G_iald (n := 2916) rfl c2.1 c2.2 dX12_isPlayed_16 ?_
  refine G_istore_n (lv' := [(3, aI ((σ 77 (x1 + 2)))), (2, aI ((σ 77 (x1 + 1)))), (0, aR (74)), (1, aI (x1))]) rfl rfl (by decide) dX12_isPlayed_17 ?_
  refine G_aload_n 2 rfl rfl dX12_isPlayed_18 ?_
  refine G_get (k := 2) (kd := (2, 77)) (v := aR 77) gf_X12_16 rfl rfl rfl rfl dX12_isPlayed_19 ?_
  refine G_iload_n 3 rfl rfl dX12_isPlayed_22 ?_
  obtain ⟨c3, h⟩ := h
  refine G_iald (n := 2916) rfl c3.1 c3.2 dX12_isPlayed_23 ?_
  refine G_tsw (tgt := 64) 0 2 (by decide) (rL _ rfl) (by decide) rfl (by decide) (OKm.i hO 77 x1 (isLg_row (show shp 77 = (1, 2916, []) from rfl) _)) dX12_isPlayed_24 (fun n72 => ?_) (fun n72 => ?_)
  · have h := h.1 n72
    refine G_aload_n 2 rfl rfl dX12_isPlayed_64 ?_
    refine G_iload_n 1 rfl rfl dX12_isPlayed_65 ?_
    refine G_iload_n 0 rfl rfl dX12_isPlayed_66 ?_
    refine G_aload_n 2 rfl rfl dX12_isPlayed_67 ?_
    refine G_get (k := 2) (kd := (2, 77)) (v := aR 77) gf_X12_16 rfl rfl rfl rfl dX12_isPlayed_68 ?_
    refine G_iload_n 3 rfl rfl dX12_isPlayed_71 ?_
    refine G_iconst dX12_isPlayed_72 ?_
    refine G_iadd dX12_isPlayed_73 ?_
    obtain ⟨c5, h⟩ := h
    refine G_iald (n := 2916) rfl c5.1 c5.2 dX12_isPlayed_74 ?_
    refine G_aload_n 2 rfl rfl dX12_isPlayed_75 ?_
    refine G_get (k := 2) (kd := (2, 77)) (v := aR 77) gf_X12_16 rfl rfl rfl rfl dX12_isPlayed_76 ?_
    refine G_iload_n 3 rfl rfl dX12_isPlayed_79 ?_
    refine G_iconst dX12_isPlayed_80 ?_
    refine G_iadd dX12_isPlayed_81 ?_
    obtain ⟨c6, h⟩ := h
    refine G_iald (n := 2916) rfl c6.1 c6.2 dX12_isPlayed_82 ?_
    obtain ⟨g7, g8, g9, c10, h⟩ := h
    refine G_callV (as := [_, _, _, _]) cf_X12_388 rfl rfl rfl (sp_X12_road (d - 1) (by omega) _ hO _ (OKm.i hO 77 (x1 + 1) (isLg_row (show shp 77 = (1, 2916, []) from rfl) _)) _ (OKm.i hO 77 (x1 + 2) (isLg_row (show shp 77 = (1, 2916, []) from rfl) _)) _ (OKm.i hO 77 (x1 + 3) (isLg_row (show shp 77 = (1, 2916, []) from rfl) _)) _ (OKm.i hO 77 (x1 + 4) (isLg_row (show shp 77 = (1, 2916, []) from rfl) _)) g7 g8 g9 c10) (by omega) rfl rfl (Nat.le_of_ble_eq_true rfl) dX12_isPlayed_83 ?_
    rintro _ σ13 ⟨u14, rfl, z15⟩ o12 r11
    have h := h _ _ (r11 _ rfl) o12 z15
    refine G_if_lt (r11 _ rfl) dX12_isPlayed_86 (tgt := 93) (by decide) (fun c16 => ?_) (fun c16 => ?_)
    · have h := h.1 c16
      refine G_iconst dX12_isPlayed_93 ?_
      exact G_zret rfl (by decide) dX12_isPlayed_94 ⟨_, rfl, h⟩ o12
    · have h := h.2 c16
      refine G_iconst dX12_isPlayed_89 ?_
      refine G_goto (tgt := 94) dX12_isPlayed_90 (by decide) ?_
      exact G_zret rfl (by decide) dX12_isPlayed_94 ⟨_, rfl, h⟩ o12
  · have h := h.2 n72
    have n73 : (3 : Int) ≤ (σ 77 x1) ∨ (σ 77 x1) < 2 := tsw_next (by decide) (tsw_0 _ _) n72
    refine G_tsw (tgt := 95) 1 3 (by decide) (rL _ rfl) (by decide) rfl (by decide) (OKm.i hO 77 x1 (isLg_row (show shp 77 = (1, 2916, []) from rfl) _)) dX12_isPlayed_24 (fun n74 => ?_) (fun n74 => ?_)
    · have h := h.1 n74
      refine G_aload_n 2 rfl rfl dX12_isPlayed_95 ?_
      refine G_iload_n 1 rfl rfl dX12_isPlayed_96 ?_
      refine G_iload_n 0 rfl rfl dX12_isPlayed_97 ?_
      obtain ⟨g18, g19, g20, c21, h⟩ := h
      refine G_callV (as := [_, _]) cf_X12_391 rfl rfl rfl (sp_X12_goer (d - 1) (by omega) _ hO _ (OKm.i hO 77 (x1 + 1) (isLg_row (show shp 77 = (1, 2916, []) from rfl) _)) _ (OKm.i hO 77 (x1 + 2) (isLg_row (show shp 77 = (1, 2916, []) from rfl) _)) g18 g19 g20 c21) (by omega) rfl rfl (Nat.le_of_ble_eq_true rfl) dX12_isPlayed_98 ?_
      rintro _ σ24 ⟨u25, rfl, z26⟩ o23 r22
      have h := h _ _ (r22 _ rfl) o23 z26
      refine G_if_lt (r22 _ rfl) dX12_isPlayed_101 (tgt := 108) (by decide) (fun c27 => ?_) (fun c27 => ?_)
      · have h := h.1 c27
        refine G_iconst dX12_isPlayed_108 ?_
        exact G_zret rfl (by decide) dX12_isPlayed_109 ⟨_, rfl, h⟩ o23
      · have h := h.2 c27
        refine G_iconst dX12_isPlayed_104 ?_
        refine G_goto (tgt := 109) dX12_isPlayed_105 (by decide) ?_
        exact G_zret rfl (by decide) dX12_isPlayed_109 ⟨_, rfl, h⟩ o23
    · have h := h.2 n74
      have n75 : (4 : Int) ≤ (σ 77 x1) ∨ (σ 77 x1) < 2 := tsw_next (by decide) n73 n74
      refine G_tsw (tgt := 110) 2 4 (by decide) (rL _ rfl) (by decide) rfl (by decide) (OKm.i hO 77 x1 (isLg_row (show shp 77 = (1, 2916, []) from rfl) _)) dX12_isPlayed_24 (fun n76 => ?_) (fun n76 => ?_)
      · have h := h.1 n76
        refine G_aload_n 2 rfl rfl dX12_isPlayed_110 ?_
        refine G_iload_n 0 rfl rfl dX12_isPlayed_111 ?_
        refine G_iload_n 1 rfl rfl dX12_isPlayed_112 ?_
        obtain ⟨g29, g30, g31, c32, h⟩ := h
        refine G_callV (as := [_, _]) cf_X12_394 rfl rfl rfl (sp_X12_go (d - 1) (by omega) _ hO _ (OKm.i hO 77 (x1 + 2) (isLg_row (show shp 77 = (1, 2916, []) from rfl) _)) _ (OKm.i hO 77 (x1 + 1) (isLg_row (show shp 77 = (1, 2916, []) from rfl) _)) g29 g30 g31 c32) (by omega) rfl rfl (Nat.le_of_ble_eq_true rfl) dX12_isPlayed_113 ?_
        rintro _ σ35 ⟨u36, rfl, z37⟩ o34 r33
        have h := h _ _ (r33 _ rfl) o34 z37
        refine G_if_lt (r33 _ rfl) dX12_isPlayed_116 (tgt := 123) (by decide) (fun c38 => ?_) (fun c38 => ?_)
        · have h := h.1 c38
          refine G_iconst dX12_isPlayed_123 ?_
          exact G_zret rfl (by decide) dX12_isPlayed_124 ⟨_, rfl, h⟩ o34
        · have h := h.2 c38
          refine G_iconst dX12_isPlayed_119 ?_
          refine G_goto (tgt := 124) dX12_isPlayed_120 (by decide) ?_
          exact G_zret rfl (by decide) dX12_isPlayed_124 ⟨_, rfl, h⟩ o34
      · have h := h.2 n76
        have n77 : (5 : Int) ≤ (σ 77 x1) ∨ (σ 77 x1) < 2 := tsw_next (by decide) n75 n76
        refine G_tsw (tgt := 125) 3 5 (by decide) (rL _ rfl) (by decide) rfl (by decide) (OKm.i hO 77 x1 (isLg_row (show shp 77 = (1, 2916, []) from rfl) _)) dX12_isPlayed_24 (fun n78 => ?_) (fun n78 => ?_)
        · have h := h.1 n78
          refine G_aload_n 2 rfl rfl dX12_isPlayed_125 ?_
          refine G_iload_n 1 rfl rfl dX12_isPlayed_126 ?_
          obtain ⟨g40, g41, g42, c43, h⟩ := h
          refine G_callV (as := [_]) cf_X12_397 rfl rfl rfl (sp_X12_relay (d - 1) (by omega) _ hO _ (OKm.i hO 77 (x1 + 1) (isLg_row (show shp 77 = (1, 2916, []) from rfl) _)) g40 g41 g42 c43) (by omega) rfl rfl (Nat.le_of_ble_eq_true rfl) dX12_isPlayed_127 ?_
          rintro _ σ46 ⟨u47, rfl, z48⟩ o45 r44
          have h := h _ _ (r44 _ rfl) o45 z48
          obtain ⟨c49, h⟩ := h
          exact G_zret rfl c49 dX12_isPlayed_130 ⟨_, rfl, h⟩ o45
        · have h := h.2 n78
          have n79 : (6 : Int) ≤ (σ 77 x1) ∨ (σ 77 x1) < 2 := tsw_next (by decide) n77 n78
          refine G_tsw (tgt := 131) 4 6 (by decide) (rL _ rfl) (by decide) rfl (by decide) (OKm.i hO 77 x1 (isLg_row (show shp 77 = (1, 2916, []) from rfl) _)) dX12_isPlayed_24 (fun n80 => ?_) (fun n80 => ?_)
          · have h := h.1 n80
            refine G_aload_n 2 rfl rfl dX12_isPlayed_131 ?_
            refine G_iload_n 1 rfl rfl dX12_isPlayed_132 ?_
            obtain ⟨g51, g52, g53, c54, h⟩ := h
            refine G_callV (as := [_]) cf_X12_400 rfl rfl rfl (sp_X12_coil (d - 1) (by omega) _ hO _ (OKm.i hO 77 (x1 + 1) (isLg_row (show shp 77 = (1, 2916, []) from rfl) _)) g51 g52 g53 c54) (by omega) rfl rfl (Nat.le_of_ble_eq_true rfl) dX12_isPlayed_133 ?_
            rintro _ σ57 ⟨u58, rfl, z59⟩ o56 r55
            have h := h _ _ (r55 _ rfl) o56 z59
            obtain ⟨c60, h⟩ := h
            exact G_zret rfl c60 dX12_isPlayed_136 ⟨_, rfl, h⟩ o56
          · have h := h.2 n80
            have n81 : (7 : Int) ≤ (σ 77 x1) ∨ (σ 77 x1) < 2 := tsw_next (by decide) n79 n80
            refine G_tsw (tgt := 137) 5 7 (by decide) (rL _ rfl) (by decide) rfl (by decide) (OKm.i hO 77 x1 (isLg_row (show shp 77 = (1, 2916, []) from rfl) _)) dX12_isPlayed_24 (fun n82 => ?_) (fun n82 => ?_)
            · have h := h.1 n82
              refine G_aload_n 2 rfl rfl dX12_isPlayed_137 ?_
              refine G_iload_n 1 rfl rfl dX12_isPlayed_138 ?_
              obtain ⟨g62, g63, g64, c65, h⟩ := h
              refine G_callV (as := [_]) cf_X12_385 rfl rfl rfl (sp_X12_arePassed (d - 1) (by omega) _ hO _ (OKm.i hO 77 (x1 + 1) (isLg_row (show shp 77 = (1, 2916, []) from rfl) _)) g62 g63 g64 c65) (by omega) rfl rfl (Nat.le_of_ble_eq_true rfl) dX12_isPlayed_139 ?_
              rintro _ σ68 ⟨u69, rfl, z70⟩ o67 r66
              have h := h _ _ (r66 _ rfl) o67 z70
              obtain ⟨c71, h⟩ := h
              exact G_zret rfl c71 dX12_isPlayed_142 ⟨_, rfl, h⟩ o67
            · have h := h.2 n82
              have n83 : (8 : Int) ≤ (σ 77 x1) ∨ (σ 77 x1) < 2 := tsw_next (by decide) n81 n82
              refine G_tswd (tgt := 143) (OKm.i hO 77 x1 (isLg_row (show shp 77 = (1, 2916, []) from rfl) _)) (tsw_out n83) (by decide) dX12_isPlayed_24 ?_
              refine G_iconst dX12_isPlayed_143 ?_
              exact G_zret rfl (by decide) dX12_isPlayed_144 ⟨_, rfl, h⟩ hO

theorem sp_X12_isPlayed (d : Nat) (hd : 10 ≤ d) (σ : Mem) (hO : OKm σ) (x1 : Int) (hx1 : R32 x1) (A : Mem) (L : List Mem) (tx : Nat → Txt) (c : Cl) (hpre : vsM σ A L tx ∧ σ 74 24 < 800000000 ∧ (0 ≤ x1 ∧ x1 + 4 < 2916) ∧ clM σ x1 c) : Mt yX12_isPlayed cX12_isPlayed 4 (some .boolean) d [aR (74), aI (x1)] σ (QI (fun v σ' => v = (playS A L tx c).1 ∧ vsM σ' (playS A L tx c).2.1 (playS A L tx c).2.2 tx ∧ stM σ σ' 360)) := mt_X12_isPlayed hd hx1 hO (by
  unfold wp_X12_isPlayed
  obtain ⟨hS, hgo, hx, hcl, c0, c1, c2, c4⟩ := hpre
  rw [c0]
  have hI := hS.1.2.2.1
  have k3 := hI.2.2.2.1
  unfold clOK at hcl
  rcases hcl with h | ⟨h, ha, hb, hn, ht⟩ | ⟨h, ha, hb⟩ | ⟨h, ha, hb⟩ | ⟨h, ha⟩ | ⟨h, ha⟩ | ⟨h, ha⟩
  · refine ⟨by omega, by omega, by omega, fun q => absurd q (by omega), fun _ => ⟨fun q => absurd q (by omega), fun _ => ⟨fun q => absurd q (by omega), fun _ => ⟨fun q => absurd q (by omega), fun _ => ⟨fun q => absurd q (by omega), fun _ => ⟨fun q => absurd q (by omega), fun _ => ?_⟩⟩⟩⟩⟩⟩
    unfold playS
    rw [if_neg (by omega), if_neg (by omega), if_neg (by omega), if_neg (by omega), if_neg (by omega), if_neg (by omega)]
    exact ⟨rfl, hS, (stM.rf _).wk (by omega)⟩
  · have q1 := c1 (by rw [h]; decide)
    have q2 := c2 (by rw [h]; decide)
    have q4 := c4 (by rw [h]; decide)
    rw [q1, q2, q4.1, q4.2]
    refine ⟨by omega, by omega, by omega, fun _ => ⟨by omega, by omega, A, L, tx, hS, ?_⟩, fun q => absurd h q⟩
    intro u σ1 hu hO1 ⟨p1, p2, hF⟩
    unfold playS
    rw [if_pos h]
    by_cases hok : A 10 0 < 16 ∧ c.2.1 ≠ c.2.2.1
    · obtain ⟨eu, hS1⟩ := p1 ⟨ha, hb, hok.2, hn, ht, hok.1⟩
      have := hI.1
      rw [if_pos hok]
      exact ⟨fun q => absurd q (by omega), fun _ => ⟨rfl, hS1, (stM.of75 hF).wk (by omega)⟩⟩
    · obtain ⟨eu, hS1⟩ := p2 (fun q => hok ⟨q.2.2.2.2.2, q.2.2.1⟩)
      rw [if_neg hok]
      exact ⟨fun _ => ⟨rfl, hS1, (stM.of75 hF).wk (by omega)⟩, fun q => absurd q (by omega)⟩
  · have q1 := c1 (by rw [h]; decide)
    have q2 := c2 (by rw [h]; decide)
    rw [q1, q2]
    refine ⟨by omega, by omega, by omega, fun q => absurd q (by omega), fun _ => ⟨fun _ => ⟨A, L, tx, hS, ?_⟩, fun q => absurd h q⟩⟩
    intro u σ1 hu hO1 ⟨p1, p2, hF⟩
    unfold playS
    rw [if_neg (by omega), if_pos h]
    by_cases hok : A 10 1 < 6
    · obtain ⟨eu, hS1⟩ := p1 ⟨ha, hb, hok⟩
      have := hI.1
      rw [if_pos hok]
      exact ⟨fun q => absurd q (by omega), fun _ => ⟨rfl, hS1, (stM.of75 hF).wk (by omega)⟩⟩
    · obtain ⟨eu, hS1⟩ := p2 (fun q => hok q.2.2)
      rw [if_neg hok]
      exact ⟨fun _ => ⟨rfl, hS1, (stM.of75 hF).wk (by omega)⟩, fun q => absurd q (by omega)⟩
  · have q1 := c1 (by rw [h]; decide)
    have q2 := c2 (by rw [h]; decide)
    rw [q1, q2]
    refine ⟨by omega, by omega, by omega, fun q => absurd q (by omega), fun _ => ⟨fun q => absurd q (by omega), fun _ => ⟨fun _ => ⟨A, L, tx, ⟨hS, hgo⟩, ?_⟩, fun q => absurd h q⟩⟩⟩
    intro u σ1 hu hO1 ⟨p1, p2, hs⟩
    unfold playS
    rw [if_neg (by omega), if_neg (by omega), if_pos h]
    cases hok : canGoV A tx c.2.2.1 c.2.1 with
    | true =>
      obtain ⟨eu, hS1⟩ := p1 hok
      have hr := (canGoV_spec hok).2.1
      have := acrS_r (t := A 2 c.2.2.1) hI hr
      rw [if_pos rfl]
      exact ⟨fun q => absurd q (by omega), fun _ => ⟨rfl, hS1, hs.wk (by omega)⟩⟩
    | false =>
      obtain ⟨eu, hS1⟩ := p2 hok
      rw [if_neg (by simp)]
      exact ⟨fun _ => ⟨rfl, hS1, hs.wk (by omega)⟩, fun q => absurd q (by omega)⟩
  · have q1 := c1 (by rw [h]; decide)
    rw [q1]
    refine ⟨by omega, by omega, by omega, fun q => absurd q (by omega), fun _ => ⟨fun q => absurd q (by omega), fun _ => ⟨fun q => absurd q (by omega), fun _ => ⟨fun _ => ⟨A, L, tx, hS, ?_⟩, fun q => absurd h q⟩⟩⟩⟩
    intro u σ1 hu hO1 ⟨p1, p2, hs⟩
    unfold playS
    rw [if_neg (by omega), if_neg (by omega), if_neg (by omega), if_pos h]
    cases hok : canLayS A c.2.1 with
    | true =>
      obtain ⟨eu, hS1⟩ := p1 hok
      rw [if_pos rfl]
      exact ⟨by omega, eu, hS1, hs.wk (by omega)⟩
    | false =>
      obtain ⟨eu, hS1⟩ := p2 hok
      rw [if_neg (by simp)]
      exact ⟨by omega, eu, hS1, hs.wk (by omega)⟩
  · have q1 := c1 (by rw [h]; decide)
    rw [q1]
    refine ⟨by omega, by omega, by omega, fun q => absurd q (by omega), fun _ => ⟨fun q => absurd q (by omega), fun _ => ⟨fun q => absurd q (by omega), fun _ => ⟨fun q => absurd q (by omega), fun _ => ⟨fun _ => ⟨A, L, tx, hS, ?_⟩, fun q => absurd h q⟩⟩⟩⟩⟩
    intro u σ1 hu hO1 ⟨p1, p2, hs⟩
    unfold playS
    rw [if_neg (by omega), if_neg (by omega), if_neg (by omega), if_neg (by omega), if_pos h]
    by_cases hok : A 0 0 + c.2.1 ≤ 999
    · obtain ⟨eu, hS1⟩ := p1 ⟨ha, hok⟩
      rw [if_pos hok]
      exact ⟨by omega, eu, hS1, hs.wk (by omega)⟩
    · obtain ⟨eu, hS1⟩ := p2 (fun q => hok q.2)
      rw [if_neg hok]
      exact ⟨by omega, eu, hS1, hs.wk (by omega)⟩
  · have q1 := c1 (by rw [h]; decide)
    rw [q1]
    refine ⟨by omega, by omega, by omega, fun q => absurd q (by omega), fun _ => ⟨fun q => absurd q (by omega), fun _ => ⟨fun q => absurd q (by omega), fun _ => ⟨fun q => absurd q (by omega), fun _ => ⟨fun q => absurd q (by omega), fun _ => ⟨fun _ => ⟨A, L, tx, ⟨hS, ha, hgo⟩, ?_⟩, fun q => absurd h q⟩⟩⟩⟩⟩⟩
    intro u σ1 hu hO1 ⟨eu, hS1, hn1, hj1, hF1, hb1⟩
    unfold playS
    rw [if_neg (by omega), if_neg (by omega), if_neg (by omega), if_neg (by omega), if_neg (by omega), if_pos h]
    have := hS.2.2.2
    exact ⟨by rw [eu]; split <;> omega, eu, hS1, hj1, hF1, by omega⟩)
