def wp_X11_road (x1 : Int) (x2 : Int) (x3 : Int) (x4 : Int) (σ : Mem) (Q : Int → Mem → Prop) : Prop :=
  ((¬ (0 ≤ x1 ∧ x1 ≤ 7)) →
    Q (-1) σ) ∧
   ((0 ≤ x1 ∧ x1 ≤ 7) →
    ((¬ (0 ≤ x2 ∧ x2 ≤ 7)) →
     Q (-1) σ) ∧
    ((0 ≤ x2 ∧ x2 ≤ 7) →
     ((x1 = x2) →
      Q (-1) σ) ∧
     ((x1 ≠ x2) →
      ((¬ ((1 : Int) ≤ x3 ∧ x3 ≤ (9 : Int))) →
       Q (-1) σ) ∧
      (((1 : Int) ≤ x3 ∧ x3 ≤ (9 : Int)) →
       ((¬ ((1 : Int) ≤ x4 ∧ x4 ≤ (99 : Int))) →
        Q (-1) σ) ∧
       (((1 : Int) ≤ x4 ∧ x4 ≤ (99 : Int)) →
        ∃ g20 : Mem, ∃ g21 : Nat → Txt, (vwC σ g20 g21 ∧ (0 ≤ x1 ∧ x1 ≤ 7 ∧ 0 ≤ x2 ∧ x2 ≤ 7) ∧ (1 ≤ x3 ∧ x3 ≤ 9) ∧ (1 ≤ x4 ∧ x4 ≤ 99)) ∧
        ∀ (u26 : Int) (σ25 : Mem), R32 u26 → OKm σ25 → ((g20 10 0 < 16 ∧ x1 ≠ x2 → u26 = g20 10 0 ∧ vwC σ25 (roadS g20 x1 x2 x3 x4) g21) ∧ (¬ (g20 10 0 < 16 ∧ x1 ≠ x2) → u26 = -1 ∧ vwC σ25 g20 g21) ∧ Fr [1, 2, 3, 4, 5, 11] σ σ25) →
        Q u26 σ25)))))
theorem mt_X11_road {d : Nat} (hd : 2 ≤ d) {x1 : Int} {x2 : Int} {x3 : Int} {x4 : Int} {σ : Mem} {Q : Int → Mem → Prop} (hx1 : R32 x1) (hx2 : R32 x2) (hx3 : R32 x3) (hx4 : R32 x4) (hO : OKm σ) (h : wp_X11_road x1 x2 x3 x4 σ Q) : Mt yX11_road cX11_road 6 (some .int) d [aR (0), aI (x1), aI (x2), aI (x3), aI (x4)] σ (QI Q) := by
  refine Mt.intro (by decide +kernel) (Nat.le_of_ble_eq_true rfl) [(0, aR (0)), (1, aI (x1)), (2, aI (x2)), (3, aI (x3)), (4, aI (x4))] rfl ?_
  unfold wp_X11_road at h
  refine G_iload_n 1 rfl rfl dX11_road_0 ?_
  refine G_callS (as := [_]) cf_X11_103 rfl (sp_X11_isTown (d - 1) (by omega) _ hO _ hx1) (by omega) rfl rfl (Nat.le_of_ble_eq_true rfl) dX11_road_1 ?_
  rintro _ _ ⟨_, rfl, rfl, rfl⟩ o2 r1
  refine G_if_eq (bI_R _) dX11_road_4 (tgt := 44) (by decide) (fun c3 => ?_) (fun c3 => ?_)
  · have h := h.1 ((bI_0 _).mp c3)
    refine G_iconst dX11_road_44 ?_
    refine G_istore (lv' := [(5, aI (0)), (0, aR (0)), (1, aI (x1)), (2, aI (x2)), (3, aI (x3)), (4, aI (x4))]) rfl (by decide) dX11_road_45 ?_
    refine G_iload 0 rfl dX11_road_47 ?_
    refine G_if_eq (rL 0 rfl) dX11_road_49 (tgt := 67) (by decide) (fun _ => ?_) (fun c4 => absurd c4 (by decide))
    refine G_iconst dX11_road_67 ?_
    exact G_iret rfl (rL (-1) rfl) dX11_road_68 ⟨_, rfl, h⟩ hO
  · have h := h.2 (bI_ne c3)
    refine G_iload_n 2 rfl rfl dX11_road_7 ?_
    refine G_callS (as := [_]) cf_X11_103 rfl (sp_X11_isTown (d - 1) (by omega) _ hO _ hx2) (by omega) rfl rfl (Nat.le_of_ble_eq_true rfl) dX11_road_8 ?_
    rintro _ _ ⟨_, rfl, rfl, rfl⟩ o6 r5
    refine G_if_eq (bI_R _) dX11_road_11 (tgt := 44) (by decide) (fun c7 => ?_) (fun c7 => ?_)
    · have h := h.1 ((bI_0 _).mp c7)
      refine G_iconst dX11_road_44 ?_
      refine G_istore (lv' := [(5, aI (0)), (0, aR (0)), (1, aI (x1)), (2, aI (x2)), (3, aI (x3)), (4, aI (x4))]) rfl (by decide) dX11_road_45 ?_
      refine G_iload 0 rfl dX11_road_47 ?_
      refine G_if_eq (rL 0 rfl) dX11_road_49 (tgt := 67) (by decide) (fun _ => ?_) (fun c8 => absurd c8 (by decide))
      refine G_iconst dX11_road_67 ?_
      exact G_iret rfl (rL (-1) rfl) dX11_road_68 ⟨_, rfl, h⟩ hO
    · have h := h.2 (bI_ne c7)
      refine G_iload_n 1 rfl rfl dX11_road_14 ?_
      refine G_iload_n 2 rfl rfl dX11_road_15 ?_
      refine G_icmp_eq hx1 hx2 dX11_road_16 (tgt := 44) (by decide) (fun c9 => ?_) (fun c9 => ?_)
      · have h := h.1 c9
        refine G_iconst dX11_road_44 ?_
        refine G_istore (lv' := [(5, aI (0)), (0, aR (0)), (1, aI (x1)), (2, aI (x2)), (3, aI (x3)), (4, aI (x4))]) rfl (by decide) dX11_road_45 ?_
        refine G_iload 0 rfl dX11_road_47 ?_
        refine G_if_eq (rL 0 rfl) dX11_road_49 (tgt := 67) (by decide) (fun _ => ?_) (fun c10 => absurd c10 (by decide))
        refine G_iconst dX11_road_67 ?_
        exact G_iret rfl (rL (-1) rfl) dX11_road_68 ⟨_, rfl, h⟩ hO
      · have h := h.2 c9
        refine G_iload_n 3 rfl rfl dX11_road_19 ?_
        refine G_iconst dX11_road_20 ?_
        refine G_bipush (by decide) dX11_road_21 ?_
        refine G_callS (as := [_, _, _]) cf_X11_107 rfl (sp_X11_within (d - 1) (by omega) _ hO _ hx3 _ (rL 1 rfl) _ (rL 9 rfl)) (by omega) rfl rfl (Nat.le_of_ble_eq_true rfl) dX11_road_23 ?_
        rintro _ _ ⟨_, rfl, rfl, rfl⟩ o12 r11
        refine G_if_eq (bI_R _) dX11_road_26 (tgt := 44) (by decide) (fun c13 => ?_) (fun c13 => ?_)
        · have h := h.1 ((bI_0 _).mp c13)
          refine G_iconst dX11_road_44 ?_
          refine G_istore (lv' := [(5, aI (0)), (0, aR (0)), (1, aI (x1)), (2, aI (x2)), (3, aI (x3)), (4, aI (x4))]) rfl (by decide) dX11_road_45 ?_
          refine G_iload 0 rfl dX11_road_47 ?_
          refine G_if_eq (rL 0 rfl) dX11_road_49 (tgt := 67) (by decide) (fun _ => ?_) (fun c14 => absurd c14 (by decide))
          refine G_iconst dX11_road_67 ?_
          exact G_iret rfl (rL (-1) rfl) dX11_road_68 ⟨_, rfl, h⟩ hO
        · have h := h.2 (bI_ne c13)
          refine G_iload 4 rfl dX11_road_29 ?_
          refine G_iconst dX11_road_31 ?_
          refine G_bipush (by decide) dX11_road_32 ?_
          refine G_callS (as := [_, _, _]) cf_X11_107 rfl (sp_X11_within (d - 1) (by omega) _ hO _ hx4 _ (rL 1 rfl) _ (rL 99 rfl)) (by omega) rfl rfl (Nat.le_of_ble_eq_true rfl) dX11_road_34 ?_
          rintro _ _ ⟨_, rfl, rfl, rfl⟩ o16 r15
          refine G_if_eq (bI_R _) dX11_road_37 (tgt := 44) (by decide) (fun c17 => ?_) (fun c17 => ?_)
          · have h := h.1 ((bI_0 _).mp c17)
            refine G_iconst dX11_road_44 ?_
            refine G_istore (lv' := [(5, aI (0)), (0, aR (0)), (1, aI (x1)), (2, aI (x2)), (3, aI (x3)), (4, aI (x4))]) rfl (by decide) dX11_road_45 ?_
            refine G_iload 0 rfl dX11_road_47 ?_
            refine G_if_eq (rL 0 rfl) dX11_road_49 (tgt := 67) (by decide) (fun _ => ?_) (fun c18 => absurd c18 (by decide))
            refine G_iconst dX11_road_67 ?_
            exact G_iret rfl (rL (-1) rfl) dX11_road_68 ⟨_, rfl, h⟩ hO
          · have h := h.2 (bI_ne c17)
            refine G_iconst dX11_road_40 ?_
            refine G_goto (tgt := 45) dX11_road_41 (by decide) ?_
            refine G_istore (lv' := [(5, aI (1)), (0, aR (0)), (1, aI (x1)), (2, aI (x2)), (3, aI (x3)), (4, aI (x4))]) rfl (by decide) dX11_road_45 ?_
            refine G_iload 0 rfl dX11_road_47 ?_
            refine G_if_eq (rL 1 rfl) dX11_road_49 (tgt := 67) (by decide) (fun c19 => absurd c19 (by decide)) (fun _ => ?_)
            refine G_aload_n 1 rfl rfl dX11_road_52 ?_
            refine G_get (k := 10) (kd := (2, 38)) (v := aR 38) gf_X11_76 rfl rfl rfl rfl dX11_road_53 ?_
            refine G_iload_n 2 rfl rfl dX11_road_56 ?_
            refine G_iload_n 3 rfl rfl dX11_road_57 ?_
            refine G_iload_n 4 rfl rfl dX11_road_58 ?_
            refine G_iload 5 rfl dX11_road_59 ?_
            obtain ⟨g20, g21, c22, h⟩ := h
            refine G_callV (as := [_, _, _, _]) cf_X11_111 rfl rfl rfl (sp_X0_tellRoad (d - 1) (by omega) _ hO _ hx1 _ hx2 _ hx3 _ hx4 g20 g21 c22) (by omega) rfl rfl (Nat.le_of_ble_eq_true rfl) dX11_road_61 ?_
            rintro _ σ25 ⟨u26, rfl, z27⟩ o24 r23
            have h := h _ _ (r23 _ rfl) o24 z27
            refine G_goto (tgt := 68) dX11_road_64 (by decide) ?_
            exact G_iret rfl (r23 _ rfl) dX11_road_68 ⟨_, rfl, h⟩ o24

theorem sp_X11_road (d : Nat) (hd : 2 ≤ d) (σ : Mem) (hO : OKm σ) (x1 : Int) (hx1 : R32 x1) (x2 : Int) (hx2 : R32 x2) (x3 : Int) (hx3 : R32 x3) (x4 : Int) (hx4 : R32 x4) (A : Mem) (L : List Mem) (tx : Nat → Txt) (hpre : vsC σ A L tx) : Mt yX11_road cX11_road 6 (some .int) d [aR (0), aI (x1), aI (x2), aI (x3), aI (x4)] σ (QI (fun v σ' => (roadOK A x1 x2 x3 x4 → v = A 10 0 ∧ vsC σ' (roadS A x1 x2 x3 x4) L tx) ∧ (¬ roadOK A x1 x2 x3 x4 → v = -1 ∧ vsC σ' A L tx) ∧ Fr PLC σ σ')) := mt_X11_road hd hx1 hx2 hx3 hx4 hO (by
  unfold wp_X11_road
  have hS := hpre
  have no : ¬ roadOK A x1 x2 x3 x4 → (roadOK A x1 x2 x3 x4 → (-1 : Int) = A 10 0 ∧ vsC σ (roadS A x1 x2 x3 x4) L tx) ∧ (¬ roadOK A x1 x2 x3 x4 → (-1 : Int) = -1 ∧ vsC σ A L tx) ∧ Fr PLC σ σ := fun h => ⟨fun h2 => absurd h2 h, fun _ => ⟨rfl, hS⟩, Fr.rf _ _⟩
  refine ⟨fun h => no (fun q => h q.1), fun h1 => ⟨fun h => no (fun q => h q.2.1), fun h2 => ⟨fun h => no (fun q => q.2.2.1 h), fun h3 => ⟨fun h => no (fun q => h q.2.2.2.1), fun h4 => ⟨fun h => no (fun q => h q.2.2.2.2.1), fun h5 => ⟨A, tx, ⟨hS.1, by omega, h4, h5⟩, ?_⟩⟩⟩⟩⟩⟩
  intro u σ1 hu hO1 ⟨p1, p2, hF⟩
  have hL1 := hS.2.congr (hF 15 (by simp)) (hF (15 + 1) (by simp))
  exact ⟨fun hok => ⟨(p1 ⟨hok.2.2.2.2.2, h3⟩).1, (p1 ⟨hok.2.2.2.2.2, h3⟩).2, hL1⟩, fun hno => ⟨(p2 (fun q => hno ⟨h1, h2, h3, h4, h5, q.1⟩)).1, (p2 (fun q => hno ⟨h1, h2, h3, h4, h5, q.1⟩)).2, hL1⟩, hF.wk (by simp)⟩)

def wp_X11_goer (x1 : Int) (x2 : Int) (σ : Mem) (Q : Int → Mem → Prop) : Prop :=
  ((¬ (0 ≤ x1 ∧ x1 ≤ 7)) →
    Q (-1) σ) ∧
   ((0 ≤ x1 ∧ x1 ≤ 7) →
    ((¬ ((1 : Int) ≤ x2 ∧ x2 ≤ (9 : Int))) →
     Q (-1) σ) ∧
    (((1 : Int) ≤ x2 ∧ x2 ≤ (9 : Int)) →
     ∃ g7 : Mem, ∃ g8 : Nat → Txt, (vwC σ g7 g8 ∧ (0 ≤ x1 ∧ x1 ≤ 7) ∧ (1 ≤ x2 ∧ x2 ≤ 9)) ∧
     ∀ (u13 : Int) (σ12 : Mem), R32 u13 → OKm σ12 → ((g7 10 1 < 6 → u13 = g7 10 1 ∧ vwC σ12 (goerS g7 x1 x2) g8) ∧ (¬ (g7 10 1 < 6) → u13 = -1 ∧ vwC σ12 g7 g8) ∧ Fr [1, 6, 12, 13] σ σ12) →
     Q u13 σ12))
theorem mt_X11_goer {d : Nat} (hd : 2 ≤ d) {x1 : Int} {x2 : Int} {σ : Mem} {Q : Int → Mem → Prop} (hx1 : R32 x1) (hx2 : R32 x2) (hO : OKm σ) (h : wp_X11_goer x1 x2 σ Q) : Mt yX11_goer cX11_goer 3 (some .int) d [aR (0), aI (x1), aI (x2)] σ (QI Q) := by
  refine Mt.intro (by decide +kernel) (Nat.le_of_ble_eq_true rfl) [(0, aR (0)), (1, aI (x1)), (2, aI (x2))] rfl ?_
  unfold wp_X11_goer at h
  refine G_iload_n 1 rfl rfl dX11_goer_0 ?_
  refine G_callS (as := [_]) cf_X11_103 rfl (sp_X11_isTown (d - 1) (by omega) _ hO _ hx1) (by omega) rfl rfl (Nat.le_of_ble_eq_true rfl) dX11_goer_1 ?_
  rintro _ _ ⟨_, rfl, rfl, rfl⟩ o2 r1
  refine G_if_eq (bI_R _) dX11_goer_4 (tgt := 29) (by decide) (fun c3 => ?_) (fun c3 => ?_)
  · have h := h.1 ((bI_0 _).mp c3)
    refine G_iconst dX11_goer_29 ?_
    exact G_iret rfl (rL (-1) rfl) dX11_goer_30 ⟨_, rfl, h⟩ hO
  · have h := h.2 (bI_ne c3)
    refine G_iload_n 2 rfl rfl dX11_goer_7 ?_
    refine G_iconst dX11_goer_8 ?_
    refine G_bipush (by decide) dX11_goer_9 ?_
    refine G_callS (as := [_, _, _]) cf_X11_107 rfl (sp_X11_within (d - 1) (by omega) _ hO _ hx2 _ (rL 1 rfl) _ (rL 9 rfl)) (by omega) rfl rfl (Nat.le_of_ble_eq_true rfl) dX11_goer_11 ?_
    rintro _ _ ⟨_, rfl, rfl, rfl⟩ o5 r4
    refine G_if_eq (bI_R _) dX11_goer_14 (tgt := 29) (by decide) (fun c6 => ?_) (fun c6 => ?_)
    · have h := h.1 ((bI_0 _).mp c6)
      refine G_iconst dX11_goer_29 ?_
      exact G_iret rfl (rL (-1) rfl) dX11_goer_30 ⟨_, rfl, h⟩ hO
    · have h := h.2 (bI_ne c6)
      refine G_aload_n 0 rfl rfl dX11_goer_17 ?_
      refine G_get (k := 10) (kd := (2, 38)) (v := aR 38) gf_X11_76 rfl rfl rfl rfl dX11_goer_18 ?_
      refine G_iload_n 1 rfl rfl dX11_goer_21 ?_
      refine G_iload_n 2 rfl rfl dX11_goer_22 ?_
      obtain ⟨g7, g8, c9, h⟩ := h
      refine G_callV (as := [_, _]) cf_X11_115 rfl rfl rfl (sp_X0_tellGoer (d - 1) (by omega) _ hO _ hx1 _ hx2 g7 g8 c9) (by omega) rfl rfl (Nat.le_of_ble_eq_true rfl) dX11_goer_23 ?_
      rintro _ σ12 ⟨u13, rfl, z14⟩ o11 r10
      have h := h _ _ (r10 _ rfl) o11 z14
      refine G_goto (tgt := 30) dX11_goer_26 (by decide) ?_
      exact G_iret rfl (r10 _ rfl) dX11_goer_30 ⟨_, rfl, h⟩ o11

theorem sp_X11_goer (d : Nat) (hd : 2 ≤ d) (σ : Mem) (hO : OKm σ) (x1 : Int) (hx1 : R32 x1) (x2 : Int) (hx2 : R32 x2) (A : Mem) (L : List Mem) (tx : Nat → Txt) (hpre : vsC σ A L tx) : Mt yX11_goer cX11_goer 3 (some .int) d [aR (0), aI (x1), aI (x2)] σ (QI (fun v σ' => (goerOK A x1 x2 → v = A 10 1 ∧ vsC σ' (goerS A x1 x2) L tx) ∧ (¬ goerOK A x1 x2 → v = -1 ∧ vsC σ' A L tx) ∧ Fr PLC σ σ')) := mt_X11_goer hd hx1 hx2 hO (by
  unfold wp_X11_goer
  have hS := hpre
  have no : ¬ goerOK A x1 x2 → (goerOK A x1 x2 → (-1 : Int) = A 10 1 ∧ vsC σ (goerS A x1 x2) L tx) ∧ (¬ goerOK A x1 x2 → (-1 : Int) = -1 ∧ vsC σ A L tx) ∧ Fr PLC σ σ := fun h => ⟨fun h2 => absurd h2 h, fun _ => ⟨rfl, hS⟩, Fr.rf _ _⟩
  refine ⟨fun h => no (fun q => h q.1), fun h1 => ⟨fun h => no (fun q => h q.2.1), fun h2 => ⟨A, tx, ⟨hS.1, h1, h2⟩, ?_⟩⟩⟩
  intro u σ1 hu hO1 ⟨p1, p2, hF⟩
  have hL1 := hS.2.congr (hF 15 (by simp)) (hF (15 + 1) (by simp))
  exact ⟨fun hok => ⟨(p1 hok.2.2).1, (p1 hok.2.2).2, hL1⟩, fun hno => ⟨(p2 (fun q => hno ⟨h1, h2, q⟩)).1, (p2 (fun q => hno ⟨h1, h2, q⟩)).2, hL1⟩, hF.wk (by simp)⟩)

theorem goneS_place {A : Mem} {tx : Nat → Txt} {g r : Int} : goneS A tx g r 2 g = acrS A r (A 2 g) := by
  unfold goneS walkS; rw [mset_off (by omega), mset_self]

def wp_X11_go (x1 : Int) (x2 : Int) (σ : Mem) (Q : Int → Mem → Prop) : Prop :=
  ∃ g1 : Mem, ∃ g2 : List Mem, ∃ g3 : Nat → Txt, (vsC σ g1 g2 g3) ∧
   ∀ (u8 : Int) (σ7 : Mem), R32 u8 → OKm σ7 → ((canGoV g1 g3 x1 x2 = true → u8 = 1 ∧ vsC σ7 (goneS g1 g3 x1 x2) (pushS g1 g2) g3) ∧ (canGoV g1 g3 x1 x2 = false → u8 = 0 ∧ vsC σ7 g1 g2 g3) ∧ Fr DDC σ σ7) →
   ((u8 = 0) →
    Q (-1) σ7) ∧
   ((u8 ≠ 0) →
    (0 ≤ x1 ∧ x1 < 6) ∧
    Q (σ7 12 x1) σ7)
theorem mt_X11_go {d : Nat} (hd : 6 ≤ d) {x1 : Int} {x2 : Int} {σ : Mem} {Q : Int → Mem → Prop} (hx1 : R32 x1) (hx2 : R32 x2) (hO : OKm σ) (h : wp_X11_go x1 x2 σ Q) : Mt yX11_go cX11_go 3 (some .int) d [aR (0), aI (x1), aI (x2)] σ (QI Q) := by
  refine Mt.intro (by decide +kernel) (Nat.le_of_ble_eq_true rfl) [(0, aR (0)), (1, aI (x1)), (2, aI (x2))] rfl ?_
  unfold wp_X11_go at h
  refine G_aload_n 0 rfl rfl dX11_go_0 ?_
  refine G_get (k := 10) (kd := (2, 38)) (v := aR 38) gf_X11_76 rfl rfl rfl rfl dX11_go_1 ?_
  refine G_iload_n 1 rfl rfl dX11_go_4 ?_
  refine G_iload_n 2 rfl rfl dX11_go_5 ?_
  obtain ⟨g1, g2, g3, c4, h⟩ := h
  refine G_callV (as := [_, _]) cf_X11_145 rfl rfl rfl (sp_X0_stepGo (d - 1) (by omega) _ hO _ hx1 _ hx2 g1 g2 g3 c4) (by omega) rfl rfl (Nat.le_of_ble_eq_true rfl) dX11_go_6 ?_
  rintro _ σ7 ⟨u8, rfl, z9⟩ o6 r5
  have h := h _ _ (r5 _ rfl) o6 z9
  refine G_if_eq (r5 _ rfl) dX11_go_9 (tgt := 24) (by decide) (fun c10 => ?_) (fun c10 => ?_)
  · have h := h.1 c10
    refine G_iconst dX11_go_24 ?_
    exact G_iret rfl (rL (-1) rfl) dX11_go_25 ⟨_, rfl, h⟩ o6
  · have h := h.2 c10
    refine G_aload_n 0 rfl rfl dX11_go_12 ?_
    refine G_get (k := 1) (kd := (2, 10)) (v := aR 10) gf_X11_19 rfl rfl rfl rfl dX11_go_13 ?_
    refine G_get (k := 1) (kd := (3, 2)) (v := aR (12)) gf_X11_149 rfl rfl rfl rfl dX11_go_16 ?_
    refine G_iload_n 1 rfl rfl dX11_go_19 ?_
    obtain ⟨c11, h⟩ := h
    refine G_iald (n := 6) rfl c11.1 c11.2 dX11_go_20 ?_
    refine G_goto (tgt := 25) dX11_go_21 (by decide) ?_
    exact G_iret rfl (OKm.i o6 12 x1 (isLg_row (show shp 12 = (1, 6, []) from rfl) _)) dX11_go_25 ⟨_, rfl, h⟩ o6

theorem sp_X11_go (d : Nat) (hd : 6 ≤ d) (σ : Mem) (hO : OKm σ) (x1 : Int) (hx1 : R32 x1) (x2 : Int) (hx2 : R32 x2) (A : Mem) (L : List Mem) (tx : Nat → Txt) (hpre : vsC σ A L tx) : Mt yX11_go cX11_go 3 (some .int) d [aR (0), aI (x1), aI (x2)] σ (QI (fun v σ' => (canGoV A tx x1 x2 = true → v = acrS A x2 (A 2 x1) ∧ vsC σ' (goneS A tx x1 x2) (pushS A L) tx) ∧ (canGoV A tx x1 x2 = false → v = -1 ∧ vsC σ' A L tx) ∧ Fr PLC σ σ')) := mt_X11_go hd hx1 hx2 hO (by
  unfold wp_X11_go
  have hS := hpre
  have hc := hS.1.2.2.1.1
  refine ⟨A, L, tx, hS, ?_⟩
  intro u σ1 hu hO1 ⟨p1, p2, hF⟩
  cases hcg : canGoV A tx x1 x2 with
  | false =>
    obtain ⟨eu, hS1⟩ := p2 hcg
    exact ⟨fun _ => ⟨fun h => by simp at h, fun _ => ⟨rfl, hS1⟩, hF.wk (by simp)⟩, fun h => absurd eu h⟩
  | true =>
    obtain ⟨eu, hS1⟩ := p1 hcg
    obtain ⟨hg, hr, -⟩ := canGoV_spec hcg
    have ht : goneS A tx x1 x2 10 = A 10 := walkS_told (by omega)
    have e := (hS1.1.2.1.2.2.1 x1 hg.1 (by rw [ht]; exact hg.2)).1
    rw [goneS_place] at e
    exact ⟨fun h => absurd h (by omega), fun _ => ⟨by omega, fun _ => ⟨e, hS1⟩, fun h => by simp at h, hF.wk (by simp)⟩⟩)

def wp_X11_relay (x1 : Int) (σ : Mem) (Q : Int → Mem → Prop) : Prop :=
  ∃ g1 : Mem, ∃ g2 : List Mem, ∃ g3 : Nat → Txt, (vsC σ g1 g2 g3) ∧
   ∀ (u8 : Int) (σ7 : Mem), R32 u8 → OKm σ7 → ((canLayS g1 x1 = true → u8 = 1 ∧ vsC σ7 (layS g1 x1) (pushS g1 g2) g3) ∧ (canLayS g1 x1 = false → u8 = 0 ∧ vsC σ7 g1 g2 g3) ∧ Fr DDC σ σ7) →
   (u8 = 0 ∨ u8 = 1) ∧
   Q u8 σ7
theorem mt_X11_relay {d : Nat} (hd : 3 ≤ d) {x1 : Int} {σ : Mem} {Q : Int → Mem → Prop} (hx1 : R32 x1) (hO : OKm σ) (h : wp_X11_relay x1 σ Q) : Mt yX11_relay cX11_relay 2 (some .boolean) d [aR (0), aI (x1)] σ (QI Q) := by
  refine Mt.intro (by decide +kernel) (Nat.le_of_ble_eq_true rfl) [(0, aR (0)), (1, aI (x1))] rfl ?_
  unfold wp_X11_relay at h
  refine G_aload_n 0 rfl rfl dX11_relay_0 ?_
  refine G_get (k := 10) (kd := (2, 38)) (v := aR 38) gf_X11_76 rfl rfl rfl rfl dX11_relay_1 ?_
  refine G_iload_n 1 rfl rfl dX11_relay_4 ?_
  obtain ⟨g1, g2, g3, c4, h⟩ := h
  refine G_callV (as := [_]) cf_X11_151 rfl rfl rfl (sp_X0_stepLay (d - 1) (by omega) _ hO _ hx1 g1 g2 g3 c4) (by omega) rfl rfl (Nat.le_of_ble_eq_true rfl) dX11_relay_5 ?_
  rintro _ σ7 ⟨u8, rfl, z9⟩ o6 r5
  have h := h _ _ (r5 _ rfl) o6 z9
  obtain ⟨c10, h⟩ := h
  exact G_zret rfl c10 dX11_relay_8 ⟨_, rfl, h⟩ o6

theorem sp_X11_relay (d : Nat) (hd : 3 ≤ d) (σ : Mem) (hO : OKm σ) (x1 : Int) (hx1 : R32 x1) (A : Mem) (L : List Mem) (tx : Nat → Txt) (hpre : vsC σ A L tx) : Mt yX11_relay cX11_relay 2 (some .boolean) d [aR (0), aI (x1)] σ (QI (fun v σ' => (canLayS A x1 = true → v = 1 ∧ vsC σ' (layS A x1) (pushS A L) tx) ∧ (canLayS A x1 = false → v = 0 ∧ vsC σ' A L tx) ∧ Fr PLC σ σ')) := mt_X11_relay hd hx1 hO (by
  unfold wp_X11_relay
  have hS := hpre
  refine ⟨A, L, tx, hS, ?_⟩
  intro u σ1 hu hO1 ⟨p1, p2, hF⟩
  refine ⟨?_, p1, p2, hF.wk (by simp)⟩
  cases hcg : canLayS A x1 with
  | false => have := (p2 hcg).1; omega
  | true => have := (p1 hcg).1; omega)

def wp_X11_coil (x1 : Int) (σ : Mem) (Q : Int → Mem → Prop) : Prop :=
  ((¬ ((1 : Int) ≤ x1 ∧ x1 ≤ (99 : Int))) →
    Q 0 σ) ∧
   (((1 : Int) ≤ x1 ∧ x1 ≤ (99 : Int)) →
    ∃ g4 : Mem, ∃ g5 : List Mem, ∃ g6 : Nat → Txt, (vsC σ g4 g5 g6 ∧ (1 ≤ x1 ∧ x1 ≤ 99)) ∧
    ∀ (u11 : Int) (σ10 : Mem), R32 u11 → OKm σ10 → ((g4 0 0 + x1 ≤ 999 → u11 = 1 ∧ vsC σ10 (coilS g4 x1) (pushS g4 g5) g6) ∧ (¬ (g4 0 0 + x1 ≤ 999) → u11 = 0 ∧ vsC σ10 g4 g5 g6) ∧ Fr DDC σ σ10) →
    ((u11 = 0) →
     Q 0 σ10) ∧
    ((u11 ≠ 0) →
     Q 1 σ10))
theorem mt_X11_coil {d : Nat} (hd : 3 ≤ d) {x1 : Int} {σ : Mem} {Q : Int → Mem → Prop} (hx1 : R32 x1) (hO : OKm σ) (h : wp_X11_coil x1 σ Q) : Mt yX11_coil cX11_coil 2 (some .boolean) d [aR (0), aI (x1)] σ (QI Q) := by
  refine Mt.intro (by decide +kernel) (Nat.le_of_ble_eq_true rfl) [(0, aR (0)), (1, aI (x1))] rfl ?_
  unfold wp_X11_coil at h
  refine G_iload_n 1 rfl rfl dX11_coil_0 ?_
  refine G_iconst dX11_coil_1 ?_
  refine G_bipush (by decide) dX11_coil_2 ?_
  refine G_callS (as := [_, _, _]) cf_X11_107 rfl (sp_X11_within (d - 1) (by omega) _ hO _ hx1 _ (rL 1 rfl) _ (rL 99 rfl)) (by omega) rfl rfl (Nat.le_of_ble_eq_true rfl) dX11_coil_4 ?_
  rintro _ _ ⟨_, rfl, rfl, rfl⟩ o2 r1
  refine G_if_eq (bI_R _) dX11_coil_7 (tgt := 25) (by decide) (fun c3 => ?_) (fun c3 => ?_)
  · have h := h.1 ((bI_0 _).mp c3)
    refine G_iconst dX11_coil_25 ?_
    exact G_zret rfl (by decide) dX11_coil_26 ⟨_, rfl, h⟩ hO
  · have h := h.2 (bI_ne c3)
    refine G_aload_n 0 rfl rfl dX11_coil_10 ?_
    refine G_get (k := 10) (kd := (2, 38)) (v := aR 38) gf_X11_76 rfl rfl rfl rfl dX11_coil_11 ?_
    refine G_iload_n 1 rfl rfl dX11_coil_14 ?_
    obtain ⟨g4, g5, g6, c7, h⟩ := h
    refine G_callV (as := [_]) cf_X11_154 rfl rfl rfl (sp_X0_stepCoil (d - 1) (by omega) _ hO _ hx1 g4 g5 g6 c7) (by omega) rfl rfl (Nat.le_of_ble_eq_true rfl) dX11_coil_15 ?_
    rintro _ σ10 ⟨u11, rfl, z12⟩ o9 r8
    have h := h _ _ (r8 _ rfl) o9 z12
    refine G_if_eq (r8 _ rfl) dX11_coil_18 (tgt := 25) (by decide) (fun c13 => ?_) (fun c13 => ?_)
    · have h := h.1 c13
      refine G_iconst dX11_coil_25 ?_
      exact G_zret rfl (by decide) dX11_coil_26 ⟨_, rfl, h⟩ o9
    · have h := h.2 c13
      refine G_iconst dX11_coil_21 ?_
      refine G_goto (tgt := 26) dX11_coil_22 (by decide) ?_
      exact G_zret rfl (by decide) dX11_coil_26 ⟨_, rfl, h⟩ o9

theorem sp_X11_coil (d : Nat) (hd : 3 ≤ d) (σ : Mem) (hO : OKm σ) (x1 : Int) (hx1 : R32 x1) (A : Mem) (L : List Mem) (tx : Nat → Txt) (hpre : vsC σ A L tx) : Mt yX11_coil cX11_coil 2 (some .boolean) d [aR (0), aI (x1)] σ (QI (fun v σ' => (((1 ≤ x1 ∧ x1 ≤ 99) ∧ A 0 0 + x1 ≤ 999) → v = 1 ∧ vsC σ' (coilS A x1) (pushS A L) tx) ∧ (¬ ((1 ≤ x1 ∧ x1 ≤ 99) ∧ A 0 0 + x1 ≤ 999) → v = 0 ∧ vsC σ' A L tx) ∧ Fr PLC σ σ')) := mt_X11_coil hd hx1 hO (by
  unfold wp_X11_coil
  have hS := hpre
  refine ⟨fun h => ⟨fun h2 => absurd h2.1 h, fun _ => ⟨rfl, hS⟩, Fr.rf _ _⟩, fun hx => ⟨A, L, tx, ⟨hS, hx⟩, ?_⟩⟩
  intro u σ1 hu hO1 ⟨p1, p2, hF⟩
  by_cases hok : A 0 0 + x1 ≤ 999
  · obtain ⟨eu, hS1⟩ := p1 hok
    exact ⟨fun h => absurd h (by omega), fun _ => ⟨fun _ => ⟨rfl, hS1⟩, fun h => absurd ⟨hx, hok⟩ h, hF.wk (by simp)⟩⟩
  · obtain ⟨eu, hS1⟩ := p2 hok
    exact ⟨fun _ => ⟨fun h => absurd h.2 hok, fun _ => ⟨rfl, hS1⟩, hF.wk (by simp)⟩, fun h => absurd eu h⟩)

theorem vwC.pushed {σ σ1 A : Mem} {tx : Nat → Txt} (h : vwC σ A tx) (hF1 : Fr [15, 16] σ σ1) : vwC σ1 A tx :=
  h.now (h.2.1.congr (fun q h1 h2 => hF1 q (by simp; omega))) h.2.2.1 (fun _ _ => rfl) (fun q hq => hF1 q (by simp; omega))

def wp_X11_day (x1 : Int) (σ : Mem) (Q : Int → Mem → Prop) : Prop :=
 ∀ P31 : Int → Int → Int → Mem → Prop,
 (∀ (v1 : Int) (v2 : Int) (v3 : Int) (σ : Mem), (R32 v1 → R32 v2 → R32 v3 → OKm σ →
   ((v1 ≤ v3) →
     Q v2 σ) ∧
    ((v3 < v1) →
     ∃ g7 : Mem, ∃ g8 : List Mem, (nowC σ g7 ∧ σ 1 8 = g7 10 0 ∧ σ 1 9 = g7 10 1 ∧ Cnt g7 ∧ stepsC σ 15 g8) ∧
     ∀ σ12 : Mem, OKm σ12 → (stepsC σ12 15 (pushS g7 g8) ∧ Fr [15, 16] σ σ12) →
     ∃ g15 : Mem, ∃ g16 : Nat → Txt, (vwC σ12 g15 g16 ∧ g15 0 2 < 9999) ∧
     ∀ (u21 : Int) (σ20 : Mem), R32 u21 → OKm σ20 → (u21 = (passS g15 g16).2 ∧ vwC σ20 (passS g15 g16).1 g16 ∧ Fr PDC σ12 σ20) →
     R32 (v2 + u21) ∧ R32 (v3 + 1) ∧ P31 v1 (v2 + u21) (v3 + 1) σ20)) → P31 v1 v2 v3 σ) →
  ((¬ ((1 : Int) ≤ x1 ∧ x1 ≤ (60 : Int))) →
    Q (-1) σ) ∧
   (((1 : Int) ≤ x1 ∧ x1 ≤ (60 : Int)) →
    R32 ((σ 10 7) + x1) ∧
    ((((σ 10 7) + x1) ≤ 9999) →
     P31 x1 0 0 σ) ∧
    ((9999 < ((σ 10 7) + x1)) →
     Q (-1) σ))
theorem mt_X11_day {d : Nat} (hd : 6 ≤ d) {x1 : Int} {σ : Mem} {Q : Int → Mem → Prop} (hx1 : R32 x1) (hO : OKm σ) (h : wp_X11_day x1 σ Q) : Mt yX11_day cX11_day 4 (some .int) d [aR (0), aI (x1)] σ (QI Q) := by
  refine Mt.intro (by decide +kernel) (Nat.le_of_ble_eq_true rfl) [(0, aR (0)), (1, aI (x1))] rfl ?_
  unfold wp_X11_day at h
  have h := h (fun (v1 : Int) (v2 : Int) (v3 : Int) (σ : Mem) => R32 v1 → R32 v2 → R32 v3 → OKm σ → G yX11_day cX11_day 4 (some .int) d (QI Q) 31 [(0, aR (0)), (1, aI (v1)), (2, aI (v2)), (3, aI (v3))] [] σ) ?_
  · refine G_iload_n 1 rfl rfl dX11_day_0 ?_
    refine G_iconst dX11_day_1 ?_
    refine G_bipush (by decide) dX11_day_2 ?_
    refine G_callS (as := [_, _, _]) cf_X11_107 rfl (sp_X11_within (d - 1) (by omega) _ hO _ hx1 _ (rL 1 rfl) _ (rL 60 rfl)) (by omega) rfl rfl (Nat.le_of_ble_eq_true rfl) dX11_day_4 ?_
    rintro _ _ ⟨_, rfl, rfl, rfl⟩ o2 r1
    refine G_if_eq (bI_R _) dX11_day_7 (tgt := 25) (by decide) (fun c3 => ?_) (fun c3 => ?_)
    · have h := h.1 ((bI_0 _).mp c3)
      refine G_iconst dX11_day_25 ?_
      exact G_iret rfl (rL (-1) rfl) dX11_day_26 ⟨_, rfl, h⟩ hO
    · have h := h.2 (bI_ne c3)
      refine G_aload_n 0 rfl rfl dX11_day_10 ?_
      refine G_get (k := 1) (kd := (2, 10)) (v := aR 10) gf_X11_19 rfl rfl rfl rfl dX11_day_11 ?_
      refine G_get (k := 7) (kd := (0, 0)) (v := aI (σ 10 7)) gf_X11_157 rfl rfl rfl rfl dX11_day_14 ?_
      refine G_iload_n 1 rfl rfl dX11_day_17 ?_
      refine G_iadd dX11_day_18 ?_
      refine G_sipush (by decide) dX11_day_19 ?_
      obtain ⟨c4, h⟩ := h
      refine G_icmp_le c4 (rL 9999 rfl) dX11_day_22 (tgt := 27) (by decide) (fun c5 => ?_) (fun c5 => ?_)
      · have h := h.1 c5
        refine G_iconst dX11_day_27 ?_
        refine G_istore_n (lv' := [(2, aI (0)), (0, aR (0)), (1, aI (x1))]) rfl rfl (by decide) dX11_day_28 ?_
        refine G_iconst dX11_day_29 ?_
        refine G_istore_n (lv' := [(3, aI (0)), (2, aI (0)), (0, aR (0)), (1, aI (x1))]) rfl rfl (by decide) dX11_day_30 ?_
        exact G_pick [2, 3, 1, 0] rfl (h hx1 (rL 0 rfl) (rL 0 rfl) hO)
      · have h := h.2 c5
        refine G_iconst dX11_day_25 ?_
        exact G_iret rfl (rL (-1) rfl) dX11_day_26 ⟨_, rfl, h⟩ hO
  · intro v1 v2 v3 σ h hv1 hv2 hv3 hO
    have h := h hv1 hv2 hv3 hO
    refine G_iload_n 3 rfl rfl dX11_day_31 ?_
    refine G_iload_n 1 rfl rfl dX11_day_32 ?_
    refine G_icmp_ge hv3 hv1 dX11_day_33 (tgt := 67) (by decide) (fun c6 => ?_) (fun c6 => ?_)
    · have h := h.1 c6
      refine G_iload_n 2 rfl rfl dX11_day_67 ?_
      exact G_iret rfl hv2 dX11_day_68 ⟨_, rfl, h⟩ hO
    · have h := h.2 c6
      refine G_aload_n 0 rfl rfl dX11_day_36 ?_
      refine G_get (k := 2) (kd := (2, 15)) (v := aR 15) gf_X11_26 rfl rfl rfl rfl dX11_day_37 ?_
      refine G_aload_n 0 rfl rfl dX11_day_40 ?_
      refine G_get (k := 1) (kd := (2, 10)) (v := aR 10) gf_X11_19 rfl rfl rfl rfl dX11_day_41 ?_
      refine G_aload_n 0 rfl rfl dX11_day_44 ?_
      refine G_get (k := 0) (kd := (2, 1)) (v := aR 1) gf_X11_10 rfl rfl rfl rfl dX11_day_45 ?_
      obtain ⟨g7, g8, c9, h⟩ := h
      refine G_callV (as := [_, _]) cf_X11_160 rfl rfl rfl (sp_X7_push (d - 1) (by omega) _ hO  g7 g8 c9) (by omega) rfl rfl (Nat.le_of_ble_eq_true rfl) dX11_day_48 ?_
      rintro _ σ12 ⟨rfl, z14⟩ o11 r10
      have h := h _ o11 z14
      refine G_iload_n 2 rfl rfl dX11_day_51 ?_
      refine G_aload_n 0 rfl rfl dX11_day_52 ?_
      refine G_get (k := 10) (kd := (2, 38)) (v := aR 38) gf_X11_76 rfl rfl rfl rfl dX11_day_53 ?_
      obtain ⟨g15, g16, c17, h⟩ := h
      refine G_callV (as := []) cf_X11_164 rfl rfl rfl (sp_X0_passDay (d - 1) (by omega) _ o11  g15 g16 c17) (by omega) rfl rfl (Nat.le_of_ble_eq_true rfl) dX11_day_56 ?_
      rintro _ σ20 ⟨u21, rfl, z22⟩ o19 r18
      have h := h _ _ (r18 _ rfl) o19 z22
      refine G_iadd dX11_day_59 ?_
      refine G_istore_n (lv' := [(2, aI ((v2 + u21))), (0, aR (0)), (1, aI (v1)), (3, aI (v3))]) rfl rfl (by decide) dX11_day_60 ?_
      refine G_iinc (lv' := [(3, aI ((v3 + 1))), (2, aI ((v2 + u21))), (0, aR (0)), (1, aI (v1))]) (k := 3) rfl rfl (by decide) dX11_day_61 ?_
      refine G_goto (tgt := 31) dX11_day_64 (by decide) ?_
      obtain ⟨c23, h⟩ := h
      obtain ⟨c24, h⟩ := h
      exact G_pick [2, 3, 1, 0] rfl (h hv1 c23 c24 o19)

theorem sp_X11_day (d : Nat) (hd : 6 ≤ d) (σ : Mem) (hO : OKm σ) (x1 : Int) (hx1 : R32 x1) (A : Mem) (L : List Mem) (tx : Nat → Txt) (hpre : vsC σ A L tx) : Mt yX11_day cX11_day 4 (some .int) d [aR (0), aI (x1)] σ (QI (fun v σ' => (((1 ≤ x1 ∧ x1 ≤ 60) ∧ A 0 2 + x1 ≤ 9999) → v = (dayN tx A L (x1).toNat).2.2 ∧ vsC σ' (dayN tx A L (x1).toNat).1 (dayN tx A L (x1).toNat).2.1 tx) ∧ (¬ ((1 ≤ x1 ∧ x1 ≤ 60) ∧ A 0 2 + x1 ≤ 9999) → v = -1 ∧ vsC σ' A L tx) ∧ Fr PLC σ σ')) := mt_X11_day hd hx1 hO (by
  unfold wp_X11_day
  intro P31 h31
  have hS := hpre
  have hI0 := hS.1.2.2.1
  have k3 := hI0.2.2.2.1
  have e7 : σ 10 7 = A 0 2 := hS.1.2.1.1.2.2.1
  rw [e7]
  refine ⟨fun h => ⟨fun h2 => absurd h2.1 h, fun _ => ⟨rfl, hS⟩, Fr.rf _ _⟩, fun hx => ⟨by unfold R32; omega, fun hd => ?_, fun h => ⟨fun h2 => absurd h2.2 (by omega), fun _ => ⟨rfl, hS⟩, Fr.rf _ _⟩⟩⟩
  have H : ∀ (n k : Nat) (τ : Mem), k + n = x1.toNat → vsC τ (dayN tx A L k).1 (dayN tx A L k).2.1 tx → (0 ≤ (dayN tx A L k).2.2 ∧ (dayN tx A L k).2.2 ≤ 6 * k) → Fr PLC σ τ → P31 x1 (dayN tx A L k).2.2 (k : Int) τ := by
    intro n
    induction n with
    | zero =>
      intro k τ hk hSt hb hF
      have hk2 : k = x1.toNat := by omega
      subst hk2
      exact h31 _ _ _ _ (fun _ _ _ _ => ⟨fun _ => ⟨fun _ => ⟨rfl, hSt⟩, fun h => absurd ⟨hx, hd⟩ h, hF⟩, fun h => absurd h (by omega)⟩)
    | succ n ih =>
      intro k τ hk hSt hb hF
      have hdy := dayN_day (A := A) (L := L) (tx := tx) k
      refine h31 _ _ _ _ (fun _ _ _ _ => ⟨fun h => absurd h (by omega), fun _ => ⟨(dayN tx A L k).1, (dayN tx A L k).2.1, ⟨hSt.1.2.1, hSt.1.1.1.1, hSt.1.1.1.2.1, hSt.1.2.2.1.cnt, hSt.2⟩, ?_⟩⟩)
      intro σ1 hO1 ⟨hL1, hF1⟩
      refine ⟨(dayN tx A L k).1, tx, ⟨hSt.1.pushed hF1, by rw [hdy]; omega⟩, ?_⟩
      intro u2 σ2 hu2 hO2 ⟨eu2, hV2, hF2⟩
      have hpc := passS_cnt (tx := tx) hSt.1.2.2.1
      refine ⟨by unfold R32; omega, by unfold R32; omega, ?_⟩
      have := ih (k + 1) σ2 (by omega) ⟨hV2, hL1.congr (hF2 15 (by simp)) (hF2 (15 + 1) (by simp))⟩ (by show 0 ≤ (dayN tx A L k).2.2 + (passS (dayN tx A L k).1 tx).2 ∧ (dayN tx A L k).2.2 + (passS (dayN tx A L k).1 tx).2 ≤ _; omega) ((hF.tr (hF1.wk (by simp))).tr (hF2.wk (by simp)))
      rw [eu2]
      exact this
  exact H x1.toNat 0 σ (by omega) hS ⟨Int.le_refl 0, by show (0 : Int) ≤ _; omega⟩ (Fr.rf _ _))

def wp_X11_years (x1 : Int) (x2 : Int) (σ : Mem) (Q : Int → Mem → Prop) : Prop :=
 ∀ P48 : Int → Int → Mem → Prop,
 (∀ (v2 : Int) (v3 : Int) (σ : Mem), (R32 v2 → R32 v3 → OKm σ →
   ((v2 ≤ v3) →
     Q (σ 10 7) σ) ∧
    ((v3 < v2) →
     ∃ g21 : Mem, ∃ g22 : Nat → Txt, (vwC σ g21 g22) ∧
     ∀ σ26 : Mem, OKm σ26 → (vwC σ26 (deedS g21 g22) g22 ∧ Fr PDC σ σ26) →
     R32 (v3 + 1) ∧ P48 v2 (v3 + 1) σ26)) → P48 v2 v3 σ) →
  ((¬ ((0 : Int) ≤ x1 ∧ x1 ≤ (9999 : Int))) →
    Q (-1) σ) ∧
   (((0 : Int) ≤ x1 ∧ x1 ≤ (9999 : Int)) →
    (((1 : Int) ≤ x2 ∧ x2 ≤ (40 : Int)) →
     ∃ g7 : Mem, ∃ g8 : List Mem, (nowC σ g7 ∧ σ 1 8 = g7 10 0 ∧ σ 1 9 = g7 10 1 ∧ Cnt g7 ∧ stepsC σ 15 g8) ∧
     ∀ σ12 : Mem, OKm σ12 → (stepsC σ12 15 (pushS g7 g8) ∧ Fr [15, 16] σ σ12) →
     (0 ≤ x1 ∧ x1 ≤ 9999) ∧
     ∀ σ18 : Mem, σ18 = (mset σ12 10 8 (x1 * 2 + 283)) →
     P48 x2 0 σ18) ∧
    ((¬ ((1 : Int) ≤ x2 ∧ x2 ≤ (40 : Int))) →
     Q (-1) σ))
theorem mt_X11_years {d : Nat} (hd : 7 ≤ d) {x1 : Int} {x2 : Int} {σ : Mem} {Q : Int → Mem → Prop} (hx1 : R32 x1) (hx2 : R32 x2) (hO : OKm σ) (h : wp_X11_years x1 x2 σ Q) : Mt yX11_years cX11_years 4 (some .int) d [aR (0), aI (x1), aI (x2)] σ (QI Q) := by
  refine Mt.intro (by decide +kernel) (Nat.le_of_ble_eq_true rfl) [(0, aR (0)), (1, aI (x1)), (2, aI (x2))] rfl ?_
  unfold wp_X11_years at h
  have h := h (fun (v2 : Int) (v3 : Int) (σ : Mem) => R32 v2 → R32 v3 → OKm σ → G yX11_years cX11_years 4 (some .int) d (QI Q) 48 [(0, aR (0)), (2, aI (v2)), (3, aI (v3))] [] σ) ?_
  · refine G_iload_n 1 rfl rfl dX11_years_0 ?_
    refine G_iconst dX11_years_1 ?_
    refine G_sipush (by decide) dX11_years_2 ?_
    refine G_callS (as := [_, _, _]) cf_X11_107 rfl (sp_X11_within (d - 1) (by omega) _ hO _ hx1 _ (rL 0 rfl) _ (rL 9999 rfl)) (by omega) rfl rfl (Nat.le_of_ble_eq_true rfl) dX11_years_5 ?_
    rintro _ _ ⟨_, rfl, rfl, rfl⟩ o2 r1
    refine G_if_eq (bI_R _) dX11_years_8 (tgt := 21) (by decide) (fun c3 => ?_) (fun c3 => ?_)
    · have h := h.1 ((bI_0 _).mp c3)
      refine G_iconst dX11_years_21 ?_
      exact G_iret rfl (rL (-1) rfl) dX11_years_22 ⟨_, rfl, h⟩ hO
    · have h := h.2 (bI_ne c3)
      refine G_iload_n 2 rfl rfl dX11_years_11 ?_
      refine G_iconst dX11_years_12 ?_
      refine G_bipush (by decide) dX11_years_13 ?_
      refine G_callS (as := [_, _, _]) cf_X11_107 rfl (sp_X11_within (d - 1) (by omega) _ hO _ hx2 _ (rL 1 rfl) _ (rL 40 rfl)) (by omega) rfl rfl (Nat.le_of_ble_eq_true rfl) dX11_years_15 ?_
      rintro _ _ ⟨_, rfl, rfl, rfl⟩ o5 r4
      refine G_if_ne (bI_R _) dX11_years_18 (tgt := 23) (by decide) (fun c6 => ?_) (fun c6 => ?_)
      · have h := h.1 (bI_ne c6)
        refine G_aload_n 0 rfl rfl dX11_years_23 ?_
        refine G_get (k := 2) (kd := (2, 15)) (v := aR 15) gf_X11_26 rfl rfl rfl rfl dX11_years_24 ?_
        refine G_aload_n 0 rfl rfl dX11_years_27 ?_
        refine G_get (k := 1) (kd := (2, 10)) (v := aR 10) gf_X11_19 rfl rfl rfl rfl dX11_years_28 ?_
        refine G_aload_n 0 rfl rfl dX11_years_31 ?_
        refine G_get (k := 0) (kd := (2, 1)) (v := aR 1) gf_X11_10 rfl rfl rfl rfl dX11_years_32 ?_
        obtain ⟨g7, g8, c9, h⟩ := h
        refine G_callV (as := [_, _]) cf_X11_160 rfl rfl rfl (sp_X7_push (d - 1) (by omega) _ hO  g7 g8 c9) (by omega) rfl rfl (Nat.le_of_ble_eq_true rfl) dX11_years_35 ?_
        rintro _ σ12 ⟨rfl, z14⟩ o11 r10
        have h := h _ o11 z14
        refine G_aload_n 0 rfl rfl dX11_years_38 ?_
        refine G_get (k := 1) (kd := (2, 10)) (v := aR 10) gf_X11_19 rfl rfl rfl rfl dX11_years_39 ?_
        refine G_iload_n 1 rfl rfl dX11_years_42 ?_
        obtain ⟨c15, h⟩ := h
        refine G_callV (as := [_]) cf_X11_175 rfl rfl rfl (sp_X6_sow (d - 1) (by omega) _ o11 _ hx1 c15) (by omega) rfl rfl (Nat.le_of_ble_eq_true rfl) dX11_years_43 ?_
        rintro _ σ18 ⟨rfl, e19⟩ o17 r16
        have h := h σ18 e19
        refine G_iconst dX11_years_46 ?_
        refine G_istore_n (lv' := [(3, aI (0)), (0, aR (0)), (1, aI (x1)), (2, aI (x2))]) rfl rfl (by decide) dX11_years_47 ?_
        exact G_pick [1, 3, 0] rfl (h hx2 (rL 0 rfl) o17)
      · have h := h.2 ((bI_0 _).mp c6)
        refine G_iconst dX11_years_21 ?_
        exact G_iret rfl (rL (-1) rfl) dX11_years_22 ⟨_, rfl, h⟩ hO
  · intro v2 v3 σ h hv2 hv3 hO
    have h := h hv2 hv3 hO
    refine G_iload_n 2 rfl rfl dX11_years_48 ?_
    refine G_iload_n 1 rfl rfl dX11_years_49 ?_
    refine G_icmp_ge hv3 hv2 dX11_years_50 (tgt := 66) (by decide) (fun c20 => ?_) (fun c20 => ?_)
    · have h := h.1 c20
      refine G_aload_n 0 rfl rfl dX11_years_66 ?_
      refine G_get (k := 1) (kd := (2, 10)) (v := aR 10) gf_X11_19 rfl rfl rfl rfl dX11_years_67 ?_
      refine G_get (k := 7) (kd := (0, 0)) (v := aI (σ 10 7)) gf_X11_157 rfl rfl rfl rfl dX11_years_70 ?_
      exact G_iret rfl (OKm.i hO 10 7 rfl) dX11_years_73 ⟨_, rfl, h⟩ hO
    · have h := h.2 c20
      refine G_aload_n 0 rfl rfl dX11_years_53 ?_
      refine G_get (k := 10) (kd := (2, 38)) (v := aR 38) gf_X11_76 rfl rfl rfl rfl dX11_years_54 ?_
      obtain ⟨g21, g22, c23, h⟩ := h
      refine G_callV (as := []) cf_X11_178 rfl rfl rfl (sp_X0_drawDeed (d - 1) (by omega) _ hO  g21 g22 c23) (by omega) rfl rfl (Nat.le_of_ble_eq_true rfl) dX11_years_57 ?_
      rintro _ σ26 ⟨rfl, z28⟩ o25 r24
      have h := h _ o25 z28
      refine G_iinc (lv' := [(3, aI ((v3 + 1))), (0, aR (0)), (2, aI (v2))]) (k := 2) rfl rfl (by decide) dX11_years_60 ?_
      refine G_goto (tgt := 48) dX11_years_63 (by decide) ?_
      obtain ⟨c29, h⟩ := h
      exact G_pick [1, 2, 0] rfl (h hv2 c29 o25)

theorem sp_X11_years (d : Nat) (hd : 7 ≤ d) (σ : Mem) (hO : OKm σ) (x1 : Int) (hx1 : R32 x1) (x2 : Int) (hx2 : R32 x2) (A : Mem) (L : List Mem) (tx : Nat → Txt) (hpre : vsC σ A L tx) : Mt yX11_years cX11_years 4 (some .int) d [aR (0), aI (x1), aI (x2)] σ (QI (fun v σ' => (yearsOK x1 x2 → v = deedN tx (sowS A x1) (x2).toNat 0 2 ∧ vsC σ' (deedN tx (sowS A x1) (x2).toNat) (pushS A L) tx) ∧ (¬ yearsOK x1 x2 → v = -1 ∧ vsC σ' A L tx) ∧ Fr PLC σ σ')) := mt_X11_years hd hx1 hx2 hO (by
  unfold wp_X11_years
  intro P48 h48
  have hS := hpre
  have hI := hS.1.2.2.1
  unfold yearsOK
  refine ⟨fun h => ⟨fun h2 => absurd h2.1 h, fun _ => ⟨rfl, hS⟩, Fr.rf _ _⟩, fun hx => ⟨fun hn => ⟨A, L, ⟨hS.1.2.1, hS.1.1.1.1, hS.1.1.1.2.1, hI.cnt, hS.2⟩, ?_⟩, fun h => ⟨fun h2 => absurd h2.2 h, fun _ => ⟨rfl, hS⟩, Fr.rf _ _⟩⟩⟩
  intro σ12 hO12 ⟨hL12, hF12⟩
  refine ⟨hx, ?_⟩
  intro σ18 e18
  have hV12 := hS.1.pushed hF12
  have hI14 : InvA (sowS A x1) := by unfold sowS; exact hI.core (by omega) ⟨fun h => by omega, fun h => by omega, fun h => by omega, fun _ => by omega⟩
  have hV18 : vwC σ18 (sowS A x1) tx := by rw [e18]; exact hV12.core (Or.inr (Or.inr (Or.inr ⟨rfl, rfl⟩))) hI14
  have hF18 : Fr PLC σ σ18 := by rw [e18]; exact (hF12.wk (by simp)).set (by simp)
  have hL18 : stepsC σ18 15 (pushS A L) := hL12.congr (by rw [e18, mset_ne (by omega)]) (by rw [e18, mset_ne (by omega)])
  have H : ∀ (n k : Nat) (τ : Mem), k + n = x2.toNat → vsC τ (deedN tx (sowS A x1) k) (pushS A L) tx → Fr PLC σ τ → P48 x2 (k : Int) τ := by
    intro n
    induction n with
    | zero =>
      intro k τ hk hSt hF
      have hk2 : k = x2.toNat := by omega
      subst hk2
      exact h48 _ _ _ (fun _ _ _ => ⟨fun _ => ⟨fun _ => ⟨hSt.1.2.1.1.2.2.1, hSt⟩, fun h => absurd ⟨hx, hn⟩ h, hF⟩, fun h => absurd h (by omega)⟩)
    | succ n ih =>
      intro k τ hk hSt hF
      refine h48 _ _ _ (fun _ _ _ => ⟨fun h => absurd h (by omega), fun _ => ⟨deedN tx (sowS A x1) k, tx, hSt.1, ?_⟩⟩)
      intro σ2 hO2 ⟨hV2, hF2⟩
      refine ⟨by unfold R32; omega, ?_⟩
      exact ih (k + 1) σ2 (by omega) ⟨hV2, hSt.2.congr (hF2 15 (by simp)) (hF2 (15 + 1) (by simp))⟩ (hF.tr (hF2.wk (by simp)))
  exact H x2.toNat 0 σ18 (by omega) ⟨hV18, hL18⟩ hF18)

def wp_X11_played (x1 : Int) (σ : Mem) (Q : Int → Mem → Prop) : Prop :=
 ∀ P20 : Nat → Int → Mem → Prop,
 (∀ (t2 : Nat) (v3 : Int) (σ : Mem), (isText t2 → R32 v3 → OKm σ →
   (((σ t2 9) ≤ v3) →
     Q (-1) σ) ∧
    ((v3 < (σ t2 9)) →
     ∃ g7 : Mem, ∃ g8 : List Mem, ∃ g9 : Nat → Txt, ∃ g10 : Cl, (vsC σ g7 g8 g9 ∧ clC σ t2 v3 g10) ∧
     ∀ (u15 : Int) (σ14 : Mem), R32 u15 → OKm σ14 → (u15 = (playS g7 g8 g9 g10).1 ∧ vsC σ14 (playS g7 g8 g9 g10).2.1 (playS g7 g8 g9 g10).2.2 g9 ∧ Fr PLC σ σ14) →
     ((u15 ≠ 0) →
      R32 (v3 + 1) ∧ P20 t2 (v3 + 1) σ14) ∧
     ((u15 = 0) →
      Q v3 σ14))) → P20 t2 v3 σ) →
  (0 ≤ σ 1 10) ∧
   ((0 ≤ x1 ∧ x1 < σ 1 10) →
    (0 ≤ x1 ∧ x1 < 4) ∧
    P20 (54 + 5 * (x1).toNat) 0 σ) ∧
   ((¬ (0 ≤ x1 ∧ x1 < σ 1 10)) →
    Q (-2) σ)
theorem mt_X11_played {d : Nat} (hd : 7 ≤ d) {x1 : Int} {σ : Mem} {Q : Int → Mem → Prop} (hx1 : R32 x1) (hO : OKm σ) (h : wp_X11_played x1 σ Q) : Mt yX11_played cX11_played 4 (some .int) d [aR (0), aI (x1)] σ (QI Q) := by
  refine Mt.intro (by decide +kernel) (Nat.le_of_ble_eq_true rfl) [(0, aR (0)), (1, aI (x1))] rfl ?_
  unfold wp_X11_played at h
  have h := h (fun (t2 : Nat) (v3 : Int) (σ : Mem) => isText t2 → R32 v3 → OKm σ → G yX11_played cX11_played 4 (some .int) d (QI Q) 20 [(0, aR (0)), (2, aR (t2)), (3, aI (v3))] [] σ) ?_
  · refine G_aload_n 0 rfl rfl dX11_played_0 ?_
    refine G_iload_n 1 rfl rfl dX11_played_1 ?_
    obtain ⟨c1, h⟩ := h
    refine G_callV (as := [_]) cf_X11_139 rfl rfl rfl (sp_X11_isText (d - 1) (by omega) _ hO _ hx1 c1) (by omega) rfl rfl (Nat.le_of_ble_eq_true rfl) dX11_played_2 ?_
    rintro _ _ ⟨_, rfl, rfl, rfl⟩ o3 r2
    refine G_if_ne (bI_R _) dX11_played_5 (tgt := 11) (by decide) (fun c4 => ?_) (fun c4 => ?_)
    · have h := h.1 (bI_ne c4)
      refine G_aload_n 0 rfl rfl dX11_played_11 ?_
      refine G_get (k := 6) (kd := (2, 29)) (v := aR 29) gf_X11_42 rfl rfl rfl rfl dX11_played_12 ?_
      refine G_iload_n 1 rfl rfl dX11_played_15 ?_
      obtain ⟨c5, h⟩ := h
      refine G_aald (n := 4) rfl c5.1 c5.2 dX11_played_16 ?_
      refine G_astore_n (lv' := [(2, aR ((54 + 5 * (x1).toNat))), (0, aR (0)), (1, aI (x1))]) rfl rfl (by decide) dX11_played_17 ?_
      refine G_iconst dX11_played_18 ?_
      refine G_istore_n (lv' := [(3, aI (0)), (2, aR ((54 + 5 * (x1).toNat))), (0, aR (0)), (1, aI (x1))]) rfl rfl (by decide) dX11_played_19 ?_
      exact G_pick [2, 1, 0] rfl (h (isText_at c5) (rL 0 rfl) hO)
    · have h := h.2 ((bI_0 _).mp c4)
      refine G_bipush (by decide) dX11_played_8 ?_
      exact G_iret rfl (rL (-2) rfl) dX11_played_10 ⟨_, rfl, h⟩ hO
  · intro t2 v3 σ h ht2 hv3 hO
    have h := h ht2 hv3 hO
    refine G_iload_n 2 rfl rfl dX11_played_20 ?_
    refine G_aload_n 1 rfl rfl dX11_played_21 ?_
    refine G_get (k := 9) (kd := (0, 0)) (v := aI (σ t2 9)) gf_X11_168 rfl (shT ht2) rfl rfl dX11_played_22 ?_
    refine G_icmp_ge hv3 (OKm.i hO t2 9 (lgT ht2 9)) dX11_played_25 (tgt := 48) (by decide) (fun c6 => ?_) (fun c6 => ?_)
    · have h := h.1 c6
      refine G_iconst dX11_played_48 ?_
      exact G_iret rfl (rL (-1) rfl) dX11_played_49 ⟨_, rfl, h⟩ hO
    · have h := h.2 c6
      refine G_aload_n 0 rfl rfl dX11_played_28 ?_
      refine G_get (k := 10) (kd := (2, 38)) (v := aR 38) gf_X11_76 rfl rfl rfl rfl dX11_played_29 ?_
      refine G_aload_n 1 rfl rfl dX11_played_32 ?_
      refine G_iload_n 2 rfl rfl dX11_played_33 ?_
      obtain ⟨g7, g8, g9, g10, c11, h⟩ := h
      refine G_callV (as := [_, _]) cf_X11_171 rfl rfl rfl (sp_X0_plays (d - 1) (by omega) _ hO _ ht2 _ hv3 g7 g8 g9 g10 c11) (by omega) rfl rfl (Nat.le_of_ble_eq_true rfl) dX11_played_34 ?_
      rintro _ σ14 ⟨u15, rfl, z16⟩ o13 r12
      have h := h _ _ (r12 _ rfl) o13 z16
      refine G_if_ne (r12 _ rfl) dX11_played_37 (tgt := 42) (by decide) (fun c17 => ?_) (fun c17 => ?_)
      · have h := h.1 c17
        refine G_iinc (lv' := [(3, aI ((v3 + 1))), (0, aR (0)), (2, aR (t2))]) (k := 2) rfl rfl (by decide) dX11_played_42 ?_
        refine G_goto (tgt := 20) dX11_played_45 (by decide) ?_
        obtain ⟨c18, h⟩ := h
        exact G_pick [1, 2, 0] rfl (h ht2 c18 o13)
      · have h := h.2 c17
        refine G_iload_n 2 rfl rfl dX11_played_40 ?_
        exact G_iret rfl hv3 dX11_played_41 ⟨_, rfl, h⟩ o13

theorem sp_X11_played (d : Nat) (hd : 7 ≤ d) (σ : Mem) (hO : OKm σ) (x1 : Int) (hx1 : R32 x1) (A : Mem) (L : List Mem) (tx : Nat → Txt) (hpre : vsC σ A L tx) : Mt yX11_played cX11_played 4 (some .int) d [aR (0), aI (x1)] σ (QI (fun v σ' => ((0 ≤ x1 ∧ x1 < A 10 2) → v = (playL tx (tx (x1).toNat).2.2 0 A L).1 ∧ vsC σ' (playL tx (tx (x1).toNat).2.2 0 A L).2.1 (playL tx (tx (x1).toNat).2.2 0 A L).2.2 tx) ∧ (¬ (0 ≤ x1 ∧ x1 < A 10 2) → v = -2 ∧ vsC σ' A L tx) ∧ Fr PLC σ σ')) := mt_X11_played hd hx1 hO (by
  unfold wp_X11_played
  intro P20 h20
  have hS := hpre
  have hc := hS.1.2.2.1.1
  have e10 : σ 1 10 = A 10 2 := hS.1.1.1.2.2.1
  rw [e10]
  refine ⟨by omega, fun hx => ⟨by omega, ?_⟩, fun hx => ⟨fun h => absurd h hx, fun _ => ⟨rfl, hS⟩, Fr.rf _ _⟩⟩
  have h24 := (hS.1.2.2.2 x1.toNat (by omega)).2.2.2.2.1
  have H : ∀ (n k : Nat) (τ : Mem) (B : Mem) (M : List Mem), k + n = (tx x1.toNat).2.2.length → vsC τ B M tx → B 10 2 = A 10 2 → Fr PLC σ τ → playL tx (tx x1.toNat).2.2 0 A L = playL tx ((tx x1.toNat).2.2.drop k) (k : Int) B M → P20 (54 + 5 * x1.toNat) (k : Int) τ := by
    intro n
    induction n with
    | zero =>
      intro k τ B M hk hSt hB hF hp
      have hT := hSt.1.2.2.2 x1.toNat (by omega)
      have hl := hT.2.2.2.1
      rw [List.drop_eq_nil_of_le (by omega)] at hp
      refine h20 _ _ _ (fun _ _ _ => ⟨fun _ => ⟨fun _ => ?_, fun h => absurd hx h, hF⟩, fun h => absurd h (by omega)⟩)
      rw [hp]
      exact ⟨rfl, hSt⟩
    | succ n ih =>
      intro k τ B M hk hSt hB hF hp
      have hT := hSt.1.2.2.2 x1.toNat (by omega)
      have hl := hT.2.2.2.1
      obtain ⟨c, hc1, hc2⟩ := drop_cons (T := (tx x1.toNat).2.2) (k := k) (by omega)
      rw [hc2] at hp
      refine h20 _ _ _ (fun _ _ _ => ⟨fun h => absurd h (by omega), fun _ => ⟨B, M, tx, c, ⟨hSt, hT.cl hc1⟩, ?_⟩⟩)
      intro u σ1 hu hO1 ⟨eu, hS1, hF1⟩
      refine ⟨fun hne => ⟨by unfold R32; omega, ?_⟩, fun heq => ⟨fun _ => ?_, fun h => absurd hx h, hF.tr hF1⟩⟩
      · refine ih (k + 1) σ1 _ _ (by omega) hS1 (by rw [playS_texts]; exact hB) (hF.tr hF1) ?_
        rw [hp]
        show (if (playS B M tx c).1 = 0 then _ else _) = _
        rw [if_neg (by rw [← eu]; exact hne)]
        rfl
      · rw [hp]
        have : playL tx (c :: (tx x1.toNat).2.2.drop (k + 1)) (k : Int) B M = ((k : Int), (playS B M tx c).2.1, (playS B M tx c).2.2) := by
          show (if (playS B M tx c).1 = 0 then _ else _) = _
          rw [if_pos (by rw [← eu]; exact heq)]
        rw [this]
        exact ⟨rfl, hS1⟩
  exact H (tx x1.toNat).2.2.length 0 σ A L (by omega) hS rfl (Fr.rf _ _) rfl)

def wp_X11_foretold (x1 : Int) (x2 : Int) (x3 : Int) (σ : Mem) (Q : Int → Mem → Prop) : Prop :=
 ∀ P19 : Int → Int → Int → Mem → Prop,
 ∀ P20 : Int → Int → Int → Int → Mem → Prop,
 ∀ P32 : Int → Int → Int → Int → Mem → Prop,
 (∀ (v1 : Int) (v2 : Int) (v3 : Int) (σ : Mem), (R32 v1 → R32 v2 → R32 v3 → OKm σ →
   P20 v1 v2 v3 0 σ) → P19 v1 v2 v3 σ) →
 (∀ (v1 : Int) (v2 : Int) (v3 : Int) (s0 : Int) (σ : Mem), (R32 v1 → R32 v2 → R32 v3 → R32 s0 → OKm σ →
   ((v2 = 1) →
     P32 v1 v2 v3 s0 σ) ∧
    ((v2 ≠ 1) →
     ((v2 ≠ 2) →
      ((¬ ((1 : Int) ≤ v1 ∧ v1 ≤ (60 : Int))) →
       Q (-1) σ) ∧
      (((1 : Int) ≤ v1 ∧ v1 ≤ (60 : Int)) →
       ((s0 ≠ 0) →
        ∃ g11 : Mem, ∃ g12 : Nat → Txt, (vwC σ g11 g12 ∧ (1 ≤ v1 ∧ v1 ≤ 60) ∧ ((v2 = 0 ∧ 0 ≤ v3 ∧ v3 < g11 10 0) ∨ ((v2 = 1 ∨ v2 = 2) ∧ 0 ≤ v3 ∧ v3 < g11 10 1))) ∧
        ∀ (u17 : Int) (σ16 : Mem), R32 u17 → OKm σ16 → (u17 = foreS g11 g12 v1 v2 v3 ∧ vwC σ16 g11 g12 ∧ Fr [10, 11, 12, 13, 14, 37, 39] σ σ16) →
        Q u17 σ16) ∧
       ((s0 = 0) →
        Q (-1) σ))) ∧
     ((v2 = 2) →
      P32 v1 v2 v3 s0 σ))) → P20 v1 v2 v3 s0 σ) →
 (∀ (v1 : Int) (v2 : Int) (v3 : Int) (v4 : Int) (σ : Mem), (R32 v1 → R32 v2 → R32 v3 → R32 v4 → OKm σ →
   ((¬ (0 ≤ v3 ∧ v3 < σ 1 9)) →
     ((¬ ((1 : Int) ≤ v1 ∧ v1 ≤ (60 : Int))) →
      Q (-1) σ) ∧
     (((1 : Int) ≤ v1 ∧ v1 ≤ (60 : Int)) →
      ((v4 ≠ 0) →
       ∃ g27 : Mem, ∃ g28 : Nat → Txt, (vwC σ g27 g28 ∧ (1 ≤ v1 ∧ v1 ≤ 60) ∧ ((v2 = 0 ∧ 0 ≤ v3 ∧ v3 < g27 10 0) ∨ ((v2 = 1 ∨ v2 = 2) ∧ 0 ≤ v3 ∧ v3 < g27 10 1))) ∧
       ∀ (u33 : Int) (σ32 : Mem), R32 u33 → OKm σ32 → (u33 = foreS g27 g28 v1 v2 v3 ∧ vwC σ32 g27 g28 ∧ Fr [10, 11, 12, 13, 14, 37, 39] σ σ32) →
       Q u33 σ32) ∧
      ((v4 = 0) →
       Q (-1) σ))) ∧
    ((0 ≤ v3 ∧ v3 < σ 1 9) →
     ((¬ ((1 : Int) ≤ v1 ∧ v1 ≤ (60 : Int))) →
      Q (-1) σ) ∧
     (((1 : Int) ≤ v1 ∧ v1 ≤ (60 : Int)) →
      ((v4 ≠ 0) →
       ∃ g40 : Mem, ∃ g41 : Nat → Txt, (vwC σ g40 g41 ∧ (1 ≤ v1 ∧ v1 ≤ 60) ∧ ((v2 = 0 ∧ 0 ≤ v3 ∧ v3 < g40 10 0) ∨ ((v2 = 1 ∨ v2 = 2) ∧ 0 ≤ v3 ∧ v3 < g40 10 1))) ∧
       ∀ (u46 : Int) (σ45 : Mem), R32 u46 → OKm σ45 → (u46 = foreS g40 g41 v1 v2 v3 ∧ vwC σ45 g40 g41 ∧ Fr [10, 11, 12, 13, 14, 37, 39] σ σ45) →
       Q u46 σ45) ∧
      ((v4 = 0) →
       ∃ g49 : Mem, ∃ g50 : Nat → Txt, (vwC σ g49 g50 ∧ (1 ≤ v1 ∧ v1 ≤ 60) ∧ ((v2 = 0 ∧ 0 ≤ v3 ∧ v3 < g49 10 0) ∨ ((v2 = 1 ∨ v2 = 2) ∧ 0 ≤ v3 ∧ v3 < g49 10 1))) ∧
       ∀ (u55 : Int) (σ54 : Mem), R32 u55 → OKm σ54 → (u55 = foreS g49 g50 v1 v2 v3 ∧ vwC σ54 g49 g50 ∧ Fr [10, 11, 12, 13, 14, 37, 39] σ σ54) →
       Q u55 σ54)))) → P32 v1 v2 v3 v4 σ) →
  ((x2 ≠ 0) →
    P19 x1 x2 x3 σ) ∧
   ((x2 = 0) →
    ((¬ (0 ≤ x3 ∧ x3 < σ 1 8)) →
     P19 x1 x2 x3 σ) ∧
    ((0 ≤ x3 ∧ x3 < σ 1 8) →
     P20 x1 x2 x3 1 σ))
theorem mt_X11_foretold {d : Nat} (hd : 7 ≤ d) {x1 : Int} {x2 : Int} {x3 : Int} {σ : Mem} {Q : Int → Mem → Prop} (hx1 : R32 x1) (hx2 : R32 x2) (hx3 : R32 x3) (hO : OKm σ) (h : wp_X11_foretold x1 x2 x3 σ Q) : Mt yX11_foretold cX11_foretold 6 (some .int) d [aR (0), aI (x1), aI (x2), aI (x3)] σ (QI Q) := by
  refine Mt.intro (by decide +kernel) (Nat.le_of_ble_eq_true rfl) [(0, aR (0)), (1, aI (x1)), (2, aI (x2)), (3, aI (x3))] rfl ?_
  unfold wp_X11_foretold at h
  have h := h (fun (v1 : Int) (v2 : Int) (v3 : Int) (σ : Mem) => R32 v1 → R32 v2 → R32 v3 → OKm σ → G yX11_foretold cX11_foretold 6 (some .int) d (QI Q) 19 [(0, aR (0)), (1, aI (v1)), (2, aI (v2)), (3, aI (v3))] [] σ)
    (fun (v1 : Int) (v2 : Int) (v3 : Int) (s0 : Int) (σ : Mem) => R32 v1 → R32 v2 → R32 v3 → R32 s0 → OKm σ → G yX11_foretold cX11_foretold 6 (some .int) d (QI Q) 20 [(0, aR (0)), (1, aI (v1)), (2, aI (v2)), (3, aI (v3))] [aI (s0)] σ)
    (fun (v1 : Int) (v2 : Int) (v3 : Int) (v4 : Int) (σ : Mem) => R32 v1 → R32 v2 → R32 v3 → R32 v4 → OKm σ → G yX11_foretold cX11_foretold 6 (some .int) d (QI Q) 32 [(0, aR (0)), (1, aI (v1)), (2, aI (v2)), (3, aI (v3)), (4, aI (v4))] [] σ) ?_ ?_ ?_
  · refine G_iload_n 2 rfl rfl dX11_foretold_0 ?_
    refine G_if_ne hx2 dX11_foretold_1 (tgt := 19) (by decide) (fun c1 => ?_) (fun c1 => ?_)
    · have h := h.1 c1
      exact G_pick [0, 1, 2, 3] rfl (h hx1 hx2 hx3 hO)
    · have h := h.2 c1
      refine G_aload_n 0 rfl rfl dX11_foretold_4 ?_
      refine G_get (k := 0) (kd := (2, 1)) (v := aR 1) gf_X11_10 rfl rfl rfl rfl dX11_foretold_5 ?_
      refine G_iload_n 3 rfl rfl dX11_foretold_8 ?_
      refine G_callV (as := [_]) cf_X11_188 rfl rfl rfl (sp_X10_hasRoad (d - 1) (by omega) _ hO _ hx3) (by omega) rfl rfl (Nat.le_of_ble_eq_true rfl) dX11_foretold_9 ?_
      rintro _ _ ⟨_, rfl, rfl, rfl⟩ o3 r2
      refine G_if_eq (bI_R _) dX11_foretold_12 (tgt := 19) (by decide) (fun c4 => ?_) (fun c4 => ?_)
      · have h := h.1 ((bI_0 _).mp c4)
        exact G_pick [0, 1, 2, 3] rfl (h hx1 hx2 hx3 hO)
      · have h := h.2 (bI_ne c4)
        refine G_iconst dX11_foretold_15 ?_
        refine G_goto (tgt := 20) dX11_foretold_16 (by decide) ?_
        exact G_pick [0, 1, 2, 3] rfl (h hx1 hx2 hx3 (rL 1 rfl) hO)
  · intro v1 v2 v3 σ h hv1 hv2 hv3 hO
    have h := h hv1 hv2 hv3 hO
    refine G_iconst dX11_foretold_19 ?_
    exact G_pick [0, 1, 2, 3] rfl (h hv1 hv2 hv3 (rL 0 rfl) hO)
  · intro v1 v2 v3 s0 σ h hv1 hv2 hv3 hs0 hO
    have h := h hv1 hv2 hv3 hs0 hO
    refine G_istore (lv' := [(4, aI (s0)), (0, aR (0)), (1, aI (v1)), (2, aI (v2)), (3, aI (v3))]) rfl (by decide) dX11_foretold_20 ?_
    refine G_iload_n 3 rfl rfl dX11_foretold_22 ?_
    refine G_iconst dX11_foretold_23 ?_
    refine G_icmp_eq hv2 (rL 1 rfl) dX11_foretold_24 (tgt := 32) (by decide) (fun c5 => ?_) (fun c5 => ?_)
    · have h := h.1 c5
      exact G_pick [1, 2, 3, 4, 0] rfl (h hv1 hv2 hv3 hs0 hO)
    · have h := h.2 c5
      refine G_iload_n 3 rfl rfl dX11_foretold_27 ?_
      refine G_iconst dX11_foretold_28 ?_
      refine G_icmp_ne hv2 (rL 2 rfl) dX11_foretold_29 (tgt := 47) (by decide) (fun c6 => ?_) (fun c6 => ?_)
      · have h := h.1 c6
        refine G_iconst dX11_foretold_47 ?_
        refine G_istore (lv' := [(5, aI (0)), (4, aI (s0)), (0, aR (0)), (1, aI (v1)), (2, aI (v2)), (3, aI (v3))]) rfl (by decide) dX11_foretold_48 ?_
        refine G_iload_n 3 rfl rfl dX11_foretold_50 ?_
        refine G_iconst dX11_foretold_51 ?_
        refine G_bipush (by decide) dX11_foretold_52 ?_
        refine G_callS (as := [_, _, _]) cf_X11_107 rfl (sp_X11_within (d - 1) (by omega) _ hO _ hv1 _ (rL 1 rfl) _ (rL 60 rfl)) (by omega) rfl rfl (Nat.le_of_ble_eq_true rfl) dX11_foretold_54 ?_
        rintro _ _ ⟨_, rfl, rfl, rfl⟩ o8 r7
        refine G_if_eq (bI_R _) dX11_foretold_57 (tgt := 70) (by decide) (fun c9 => ?_) (fun c9 => ?_)
        · have h := h.1 ((bI_0 _).mp c9)
          refine G_iconst dX11_foretold_70 ?_
          exact G_iret rfl (rL (-1) rfl) dX11_foretold_71 ⟨_, rfl, h⟩ hO
        · have h := h.2 (bI_ne c9)
          refine G_iload 1 rfl dX11_foretold_60 ?_
          refine G_if_ne hs0 dX11_foretold_62 (tgt := 72) (by decide) (fun c10 => ?_) (fun c10 => ?_)
          · have h := h.1 c10
            refine G_aload_n 2 rfl rfl dX11_foretold_72 ?_
            refine G_get (k := 10) (kd := (2, 38)) (v := aR 38) gf_X11_76 rfl rfl rfl rfl dX11_foretold_73 ?_
            refine G_iload_n 3 rfl rfl dX11_foretold_76 ?_
            refine G_iload_n 4 rfl rfl dX11_foretold_77 ?_
            refine G_iload_n 5 rfl rfl dX11_foretold_78 ?_
            obtain ⟨g11, g12, c13, h⟩ := h
            refine G_callV (as := [_, _, _]) cf_X11_249 rfl rfl rfl (sp_X0_foresee (d - 1) (by omega) _ hO _ hv1 _ hv2 _ hv3 g11 g12 c13) (by omega) rfl rfl (Nat.le_of_ble_eq_true rfl) dX11_foretold_79 ?_
            rintro _ σ16 ⟨u17, rfl, z18⟩ o15 r14
            have h := h _ _ (r14 _ rfl) o15 z18
            exact G_iret rfl (r14 _ rfl) dX11_foretold_82 ⟨_, rfl, h⟩ o15
          · have h := h.2 c10
            refine G_iload 0 rfl dX11_foretold_65 ?_
            refine G_if_ne (rL 0 rfl) dX11_foretold_67 (tgt := 72) (by decide) (fun c19 => absurd c19 (by decide)) (fun _ => ?_)
            refine G_iconst dX11_foretold_70 ?_
            exact G_iret rfl (rL (-1) rfl) dX11_foretold_71 ⟨_, rfl, h⟩ hO
      · have h := h.2 c6
        exact G_pick [1, 2, 3, 4, 0] rfl (h hv1 hv2 hv3 hs0 hO)
  · intro v1 v2 v3 v4 σ h hv1 hv2 hv3 hv4 hO
    have h := h hv1 hv2 hv3 hv4 hO
    refine G_aload_n 0 rfl rfl dX11_foretold_32 ?_
    refine G_get (k := 0) (kd := (2, 1)) (v := aR 1) gf_X11_10 rfl rfl rfl rfl dX11_foretold_33 ?_
    refine G_iload_n 3 rfl rfl dX11_foretold_36 ?_
    refine G_callV (as := [_]) cf_X11_209 rfl rfl rfl (sp_X10_hasGoer (d - 1) (by omega) _ hO _ hv3) (by omega) rfl rfl (Nat.le_of_ble_eq_true rfl) dX11_foretold_37 ?_
    rintro _ _ ⟨_, rfl, rfl, rfl⟩ o21 r20
    refine G_if_eq (bI_R _) dX11_foretold_40 (tgt := 47) (by decide) (fun c22 => ?_) (fun c22 => ?_)
    · have h := h.1 ((bI_0 _).mp c22)
      refine G_iconst dX11_foretold_47 ?_
      refine G_istore (lv' := [(5, aI (0)), (0, aR (0)), (1, aI (v1)), (2, aI (v2)), (3, aI (v3)), (4, aI (v4))]) rfl (by decide) dX11_foretold_48 ?_
      refine G_iload_n 2 rfl rfl dX11_foretold_50 ?_
      refine G_iconst dX11_foretold_51 ?_
      refine G_bipush (by decide) dX11_foretold_52 ?_
      refine G_callS (as := [_, _, _]) cf_X11_107 rfl (sp_X11_within (d - 1) (by omega) _ hO _ hv1 _ (rL 1 rfl) _ (rL 60 rfl)) (by omega) rfl rfl (Nat.le_of_ble_eq_true rfl) dX11_foretold_54 ?_
      rintro _ _ ⟨_, rfl, rfl, rfl⟩ o24 r23
      refine G_if_eq (bI_R _) dX11_foretold_57 (tgt := 70) (by decide) (fun c25 => ?_) (fun c25 => ?_)
      · have h := h.1 ((bI_0 _).mp c25)
        refine G_iconst dX11_foretold_70 ?_
        exact G_iret rfl (rL (-1) rfl) dX11_foretold_71 ⟨_, rfl, h⟩ hO
      · have h := h.2 (bI_ne c25)
        refine G_iload 5 rfl dX11_foretold_60 ?_
        refine G_if_ne hv4 dX11_foretold_62 (tgt := 72) (by decide) (fun c26 => ?_) (fun c26 => ?_)
        · have h := h.1 c26
          refine G_aload_n 1 rfl rfl dX11_foretold_72 ?_
          refine G_get (k := 10) (kd := (2, 38)) (v := aR 38) gf_X11_76 rfl rfl rfl rfl dX11_foretold_73 ?_
          refine G_iload_n 2 rfl rfl dX11_foretold_76 ?_
          refine G_iload_n 3 rfl rfl dX11_foretold_77 ?_
          refine G_iload_n 4 rfl rfl dX11_foretold_78 ?_
          obtain ⟨g27, g28, c29, h⟩ := h
          refine G_callV (as := [_, _, _]) cf_X11_249 rfl rfl rfl (sp_X0_foresee (d - 1) (by omega) _ hO _ hv1 _ hv2 _ hv3 g27 g28 c29) (by omega) rfl rfl (Nat.le_of_ble_eq_true rfl) dX11_foretold_79 ?_
          rintro _ σ32 ⟨u33, rfl, z34⟩ o31 r30
          have h := h _ _ (r30 _ rfl) o31 z34
          exact G_iret rfl (r30 _ rfl) dX11_foretold_82 ⟨_, rfl, h⟩ o31
        · have h := h.2 c26
          refine G_iload 0 rfl dX11_foretold_65 ?_
          refine G_if_ne (rL 0 rfl) dX11_foretold_67 (tgt := 72) (by decide) (fun c35 => absurd c35 (by decide)) (fun _ => ?_)
          refine G_iconst dX11_foretold_70 ?_
          exact G_iret rfl (rL (-1) rfl) dX11_foretold_71 ⟨_, rfl, h⟩ hO
    · have h := h.2 (bI_ne c22)
      refine G_iconst dX11_foretold_43 ?_
      refine G_goto (tgt := 48) dX11_foretold_44 (by decide) ?_
      refine G_istore (lv' := [(5, aI (1)), (0, aR (0)), (1, aI (v1)), (2, aI (v2)), (3, aI (v3)), (4, aI (v4))]) rfl (by decide) dX11_foretold_48 ?_
      refine G_iload_n 2 rfl rfl dX11_foretold_50 ?_
      refine G_iconst dX11_foretold_51 ?_
      refine G_bipush (by decide) dX11_foretold_52 ?_
      refine G_callS (as := [_, _, _]) cf_X11_107 rfl (sp_X11_within (d - 1) (by omega) _ hO _ hv1 _ (rL 1 rfl) _ (rL 60 rfl)) (by omega) rfl rfl (Nat.le_of_ble_eq_true rfl) dX11_foretold_54 ?_
      rintro _ _ ⟨_, rfl, rfl, rfl⟩ o37 r36
      refine G_if_eq (bI_R _) dX11_foretold_57 (tgt := 70) (by decide) (fun c38 => ?_) (fun c38 => ?_)
      · have h := h.1 ((bI_0 _).mp c38)
        refine G_iconst dX11_foretold_70 ?_
        exact G_iret rfl (rL (-1) rfl) dX11_foretold_71 ⟨_, rfl, h⟩ hO
      · have h := h.2 (bI_ne c38)
        refine G_iload 5 rfl dX11_foretold_60 ?_
        refine G_if_ne hv4 dX11_foretold_62 (tgt := 72) (by decide) (fun c39 => ?_) (fun c39 => ?_)
        · have h := h.1 c39
          refine G_aload_n 1 rfl rfl dX11_foretold_72 ?_
          refine G_get (k := 10) (kd := (2, 38)) (v := aR 38) gf_X11_76 rfl rfl rfl rfl dX11_foretold_73 ?_
          refine G_iload_n 2 rfl rfl dX11_foretold_76 ?_
          refine G_iload_n 3 rfl rfl dX11_foretold_77 ?_
          refine G_iload_n 4 rfl rfl dX11_foretold_78 ?_
          obtain ⟨g40, g41, c42, h⟩ := h
          refine G_callV (as := [_, _, _]) cf_X11_249 rfl rfl rfl (sp_X0_foresee (d - 1) (by omega) _ hO _ hv1 _ hv2 _ hv3 g40 g41 c42) (by omega) rfl rfl (Nat.le_of_ble_eq_true rfl) dX11_foretold_79 ?_
          rintro _ σ45 ⟨u46, rfl, z47⟩ o44 r43
          have h := h _ _ (r43 _ rfl) o44 z47
          exact G_iret rfl (r43 _ rfl) dX11_foretold_82 ⟨_, rfl, h⟩ o44
        · have h := h.2 c39
          refine G_iload 0 rfl dX11_foretold_65 ?_
          refine G_if_ne (rL 1 rfl) dX11_foretold_67 (tgt := 72) (by decide) (fun _ => ?_) (fun c48 => absurd c48 (by decide))
          refine G_aload_n 1 rfl rfl dX11_foretold_72 ?_
          refine G_get (k := 10) (kd := (2, 38)) (v := aR 38) gf_X11_76 rfl rfl rfl rfl dX11_foretold_73 ?_
          refine G_iload_n 2 rfl rfl dX11_foretold_76 ?_
          refine G_iload_n 3 rfl rfl dX11_foretold_77 ?_
          refine G_iload_n 4 rfl rfl dX11_foretold_78 ?_
          obtain ⟨g49, g50, c51, h⟩ := h
          refine G_callV (as := [_, _, _]) cf_X11_249 rfl rfl rfl (sp_X0_foresee (d - 1) (by omega) _ hO _ hv1 _ hv2 _ hv3 g49 g50 c51) (by omega) rfl rfl (Nat.le_of_ble_eq_true rfl) dX11_foretold_79 ?_
          rintro _ σ54 ⟨u55, rfl, z56⟩ o53 r52
          have h := h _ _ (r52 _ rfl) o53 z56
          exact G_iret rfl (r52 _ rfl) dX11_foretold_82 ⟨_, rfl, h⟩ o53

theorem sp_X11_foretold (d : Nat) (hd : 7 ≤ d) (σ : Mem) (hO : OKm σ) (x1 : Int) (hx1 : R32 x1) (x2 : Int) (hx2 : R32 x2) (x3 : Int) (hx3 : R32 x3) (A : Mem) (tx : Nat → Txt) (hpre : vwC σ A tx) : Mt yX11_foretold cX11_foretold 6 (some .int) d [aR (0), aI (x1), aI (x2), aI (x3)] σ (QI (fun v σ' => (foreOK A x1 x2 x3 → v = foreS A tx x1 x2 x3) ∧ (¬ foreOK A x1 x2 x3 → v = -1) ∧ vwC σ' A tx ∧ Fr [10, 11, 12, 13, 14, 37, 39] σ σ')) := mt_X11_foretold hd hx1 hx2 hx3 hO (by
  unfold wp_X11_foretold
  intro P19 P20 P32 h19 h20 h32
  have hV := hpre
  have e8 : σ 1 8 = A 10 0 := hV.1.1.1
  have e9 : σ 1 9 = A 10 1 := hV.1.1.2.1
  have no : ¬ foreOK A x1 x2 x3 → (foreOK A x1 x2 x3 → (-1 : Int) = foreS A tx x1 x2 x3) ∧ (¬ foreOK A x1 x2 x3 → (-1 : Int) = -1) ∧ vwC σ A tx ∧ Fr [10, 11, 12, 13, 14, 37, 39] σ σ := fun h => ⟨fun h2 => absurd h2 h, fun _ => rfl, hV, Fr.rf _ _⟩
  have yes : foreOK A x1 x2 x3 → ∃ g11 : Mem, ∃ g12 : Nat → Txt, (vwC σ g11 g12 ∧ (1 ≤ x1 ∧ x1 ≤ 60) ∧ ((x2 = 0 ∧ 0 ≤ x3 ∧ x3 < g11 10 0) ∨ ((x2 = 1 ∨ x2 = 2) ∧ 0 ≤ x3 ∧ x3 < g11 10 1))) ∧ ∀ (u17 : Int) (σ16 : Mem), R32 u17 → OKm σ16 → (u17 = foreS g11 g12 x1 x2 x3 ∧ vwC σ16 g11 g12 ∧ Fr [10, 11, 12, 13, 14, 37, 39] σ σ16) → (foreOK A x1 x2 x3 → u17 = foreS A tx x1 x2 x3) ∧ (¬ foreOK A x1 x2 x3 → u17 = -1) ∧ vwC σ16 A tx ∧ Fr [10, 11, 12, 13, 14, 37, 39] σ σ16 := fun hok => by
    refine ⟨A, tx, ⟨hV, hok⟩, ?_⟩
    intro u σ1 hu hO1 ⟨eu, hV1, hF1⟩
    exact ⟨fun _ => eu, fun h => absurd hok h, hV1, hF1⟩
  have H32 : ∀ s0 : Int, (x2 = 1 ∨ x2 = 2) → s0 = 0 → P32 x1 x2 x3 s0 σ := by
    intro s0 hx2 hs0
    refine h32 _ _ _ _ _ (fun _ _ _ _ _ => ?_)
    rw [e9]
    refine ⟨fun h => ⟨fun h2 => no (fun q => h2 q.1), fun h2 => ⟨fun h3 => absurd hs0 h3, fun _ => no (fun q => by rcases q.2 with ⟨h5, _⟩ | ⟨_, h5⟩; omega; exact h h5)⟩⟩, fun h => ⟨fun h2 => no (fun q => h2 q.1), fun h2 => ⟨fun h3 => absurd hs0 h3, fun _ => yes ⟨h2, Or.inr ⟨hx2, h⟩⟩⟩⟩⟩
  have H20 : ∀ s0 : Int, (s0 ≠ 0 ↔ (x2 = 0 ∧ 0 ≤ x3 ∧ x3 < A 10 0)) → P20 x1 x2 x3 s0 σ := by
    intro s0 hs0
    refine h20 _ _ _ _ _ (fun _ _ _ _ _ => ⟨fun h => H32 s0 (Or.inl h) ?_, fun h1 => ⟨fun h2 => ⟨fun h3 => no (fun q => h3 q.1), fun h3 => ⟨fun h4 => yes ⟨h3, Or.inl (hs0.mp h4)⟩, fun h4 => no (fun q => ?_)⟩⟩, fun h => H32 s0 (Or.inr h) ?_⟩⟩)
    · by_cases e : s0 = 0
      · exact e
      · have := hs0.mp e; omega
    · rcases q.2 with q2 | q2
      · exact absurd (hs0.mpr q2) (by omega)
      · omega
    · by_cases e : s0 = 0
      · exact e
      · have := hs0.mp e; omega
  have H19 : ¬ (x2 = 0 ∧ 0 ≤ x3 ∧ x3 < A 10 0) → P19 x1 x2 x3 σ := fun h => h19 _ _ _ _ (fun _ _ _ _ => H20 0 ⟨fun q => absurd rfl q, fun q => absurd q h⟩)
  rw [e8]
  exact ⟨fun h => H19 (fun q => h q.1), fun h0 => ⟨fun h => H19 (fun q => h q.2), fun h => H20 1 ⟨fun _ => ⟨h0, h⟩, fun _ => by omega⟩⟩⟩)
