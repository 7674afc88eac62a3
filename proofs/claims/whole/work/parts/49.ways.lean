abbrev N41 : List Nat := [41]
theorem scr41 {σ τ : Mem} (h : Fr [41] σ τ) : Fr ScrC σ τ := h.wk (by simp)
def milesS (A : Mem) (a b th : Int) : Int := if (0 ≤ a ∧ a ≤ 7) ∧ (0 ≤ b ∧ b ≤ 7) ∧ (0 ≤ th ∧ th ≤ 99) then (if dst A th (-1) a b < 1000000 then dst A th (-1) a b else -1) else -1

def wp_X4_milesBetween (x1 : Int) (x2 : Int) (x3 : Int) (σ : Mem) (Q : Int → Mem → Prop) : Prop :=
  ∃ g1 : Mem, ∃ g2 : Nat → Txt, (vwC σ g1 g2 ∧ (0 ≤ x1 ∧ x1 ≤ 7)) ∧
   ∀ σ6 : Mem, OKm σ6 → (inF σ6 41 (sprC g1 x3 ((-1) : Int) x1 7) ∧ Fr [41] σ σ6) →
   (0 ≤ x2 ∧ x2 < 8) ∧
   ((1000000 ≤ (σ6 41 x2)) →
    Q (-1) σ6) ∧
   (((σ6 41 x2) < 1000000) →
    (0 ≤ x2 ∧ x2 < 8) ∧
    Q (σ6 41 x2) σ6)
theorem mt_X4_milesBetween {d : Nat} (hd : 2 ≤ d) {x1 : Int} {x2 : Int} {x3 : Int} {σ : Mem} {Q : Int → Mem → Prop} (hx1 : R32 x1) (hx2 : R32 x2) (hx3 : R32 x3) (hO : OKm σ) (h : wp_X4_milesBetween x1 x2 x3 σ Q) : Mt yX4_milesBetween cX4_milesBetween 4 (some .int) d [aR (40), aI (x1), aI (x2), aI (x3)] σ (QI Q) := by
  refine Mt.intro (by decide +kernel) (Nat.le_of_ble_eq_true rfl) [(0, aR (40)), (1, aI (x1)), (2, aI (x2)), (3, aI (x3))] rfl ?_
  unfold wp_X4_milesBetween at h
  refine G_aload_n 0 rfl rfl dX4_milesBetween_0 ?_
  refine G_iload_n 1 rfl rfl dX4_milesBetween_1 ?_
  refine G_iload_n 3 rfl rfl dX4_milesBetween_2 ?_
  refine G_iconst dX4_milesBetween_3 ?_
  obtain ⟨g1, g2, c3, h⟩ := h
  refine G_callV (as := [_, _, _]) cf_X4_86 rfl rfl rfl (sp_X4_spread (d - 1) (by omega) _ hO _ hx1 _ hx3 _ (rL (-1) rfl) g1 g2 c3) (by omega) rfl rfl (Nat.le_of_ble_eq_true rfl) dX4_milesBetween_4 ?_
  rintro _ σ6 ⟨rfl, z8⟩ o5 r4
  have h := h _ o5 z8
  refine G_aload_n 0 rfl rfl dX4_milesBetween_7 ?_
  refine G_get (k := 2) (kd := (3, 1)) (v := aR (41)) gf_X4_9 rfl rfl rfl rfl dX4_milesBetween_8 ?_
  refine G_iload_n 2 rfl rfl dX4_milesBetween_11 ?_
  obtain ⟨c9, h⟩ := h
  refine G_iald (n := 8) rfl c9.1 c9.2 dX4_milesBetween_12 ?_
  refine G_ldc (n := 1000000) rfl (by decide) kc_X4_64 dX4_milesBetween_13 ?_
  refine G_icmp_ge (OKm.i o5 41 x2 (isLg_row (show shp 41 = (1, 8, []) from rfl) _)) (rL 1000000 rfl) dX4_milesBetween_15 (tgt := 27) (by decide) (fun c10 => ?_) (fun c10 => ?_)
  · have h := h.1 c10
    refine G_iconst dX4_milesBetween_27 ?_
    exact G_iret rfl (rL (-1) rfl) dX4_milesBetween_28 ⟨_, rfl, h⟩ o5
  · have h := h.2 c10
    refine G_aload_n 0 rfl rfl dX4_milesBetween_18 ?_
    refine G_get (k := 2) (kd := (3, 1)) (v := aR (41)) gf_X4_9 rfl rfl rfl rfl dX4_milesBetween_19 ?_
    refine G_iload_n 2 rfl rfl dX4_milesBetween_22 ?_
    obtain ⟨c11, h⟩ := h
    refine G_iald (n := 8) rfl c11.1 c11.2 dX4_milesBetween_23 ?_
    refine G_goto (tgt := 28) dX4_milesBetween_24 (by decide) ?_
    exact G_iret rfl (OKm.i o5 41 x2 (isLg_row (show shp 41 = (1, 8, []) from rfl) _)) dX4_milesBetween_28 ⟨_, rfl, h⟩ o5

theorem sp_X4_milesBetween (d : Nat) (hd : 2 ≤ d) (σ : Mem) (hO : OKm σ) (x1 : Int) (hx1 : R32 x1) (x2 : Int) (hx2 : R32 x2) (x3 : Int) (hx3 : R32 x3) (A : Mem) (tx : Nat → Txt) (hpre : vwC σ A tx ∧ (0 ≤ x1 ∧ x1 ≤ 7) ∧ (0 ≤ x2 ∧ x2 ≤ 7)) : Mt yX4_milesBetween cX4_milesBetween 4 (some .int) d [aR (40), aI (x1), aI (x2), aI (x3)] σ (QI (fun v σ' => v = (if dst A x3 (-1) x1 x2 < 1000000 then dst A x3 (-1) x1 x2 else -1) ∧ Fr [41] σ σ')) := mt_X4_milesBetween hd hx1 hx2 hx3 hO (by
  unfold wp_X4_milesBetween
  obtain ⟨hV, h1, h2⟩ := hpre
  refine ⟨A, tx, ⟨hV, h1⟩, ?_⟩
  intro σ6 o6 ⟨q6, f6⟩
  have e : σ6 41 x2 = dst A x3 (-1) x1 x2 := q6 x2 h2.1 (by omega)
  rw [e]
  exact ⟨by omega, fun h => ⟨by rw [if_neg (by omega)], f6⟩, fun h => ⟨by omega, by rw [if_pos h], f6⟩⟩)

def wp_X11_miles (x1 : Int) (x2 : Int) (x3 : Int) (σ : Mem) (Q : Int → Mem → Prop) : Prop :=
  ((¬ (0 ≤ x1 ∧ x1 ≤ 7)) →
    Q (-1) σ) ∧
   ((0 ≤ x1 ∧ x1 ≤ 7) →
    ((¬ (0 ≤ x2 ∧ x2 ≤ 7)) →
     Q (-1) σ) ∧
    ((0 ≤ x2 ∧ x2 ≤ 7) →
     ((¬ ((0 : Int) ≤ x3 ∧ x3 ≤ (99 : Int))) →
      Q (-1) σ) ∧
     (((0 : Int) ≤ x3 ∧ x3 ≤ (99 : Int)) →
      ∃ g10 : Mem, ∃ g11 : Nat → Txt, (vwC σ g10 g11 ∧ (0 ≤ x1 ∧ x1 ≤ 7) ∧ (0 ≤ x2 ∧ x2 ≤ 7)) ∧
      ∀ (u16 : Int) (σ15 : Mem), R32 u16 → OKm σ15 → (u16 = (if dst g10 x3 (-1) x1 x2 < 1000000 then dst g10 x3 (-1) x1 x2 else -1) ∧ Fr [41] σ σ15) →
      Q u16 σ15)))
theorem mt_X11_miles {d : Nat} (hd : 3 ≤ d) {x1 : Int} {x2 : Int} {x3 : Int} {σ : Mem} {Q : Int → Mem → Prop} (hx1 : R32 x1) (hx2 : R32 x2) (hx3 : R32 x3) (hO : OKm σ) (h : wp_X11_miles x1 x2 x3 σ Q) : Mt yX11_miles cX11_miles 4 (some .int) d [aR (0), aI (x1), aI (x2), aI (x3)] σ (QI Q) := by
  refine Mt.intro (by decide +kernel) (Nat.le_of_ble_eq_true rfl) [(0, aR (0)), (1, aI (x1)), (2, aI (x2)), (3, aI (x3))] rfl ?_
  unfold wp_X11_miles at h
  refine G_iload_n 1 rfl rfl dX11_miles_0 ?_
  refine G_callS (as := [_]) cf_X11_103 rfl (sp_X11_isTown (d - 1) (by omega) _ hO _ hx1) (by omega) rfl rfl (Nat.le_of_ble_eq_true rfl) dX11_miles_1 ?_
  rintro _ _ ⟨_, rfl, rfl, rfl⟩ o2 r1
  refine G_if_eq (bI_R _) dX11_miles_4 (tgt := 37) (by decide) (fun c3 => ?_) (fun c3 => ?_)
  · have h := h.1 ((bI_0 _).mp c3)
    refine G_iconst dX11_miles_37 ?_
    exact G_iret rfl (rL (-1) rfl) dX11_miles_38 ⟨_, rfl, h⟩ hO
  · have h := h.2 (bI_ne c3)
    refine G_iload_n 2 rfl rfl dX11_miles_7 ?_
    refine G_callS (as := [_]) cf_X11_103 rfl (sp_X11_isTown (d - 1) (by omega) _ hO _ hx2) (by omega) rfl rfl (Nat.le_of_ble_eq_true rfl) dX11_miles_8 ?_
    rintro _ _ ⟨_, rfl, rfl, rfl⟩ o5 r4
    refine G_if_eq (bI_R _) dX11_miles_11 (tgt := 37) (by decide) (fun c6 => ?_) (fun c6 => ?_)
    · have h := h.1 ((bI_0 _).mp c6)
      refine G_iconst dX11_miles_37 ?_
      exact G_iret rfl (rL (-1) rfl) dX11_miles_38 ⟨_, rfl, h⟩ hO
    · have h := h.2 (bI_ne c6)
      refine G_iload_n 3 rfl rfl dX11_miles_14 ?_
      refine G_iconst dX11_miles_15 ?_
      refine G_bipush (by decide) dX11_miles_16 ?_
      refine G_callS (as := [_, _, _]) cf_X11_107 rfl (sp_X11_within (d - 1) (by omega) _ hO _ hx3 _ (rL 0 rfl) _ (rL 99 rfl)) (by omega) rfl rfl (Nat.le_of_ble_eq_true rfl) dX11_miles_18 ?_
      rintro _ _ ⟨_, rfl, rfl, rfl⟩ o8 r7
      refine G_if_eq (bI_R _) dX11_miles_21 (tgt := 37) (by decide) (fun c9 => ?_) (fun c9 => ?_)
      · have h := h.1 ((bI_0 _).mp c9)
        refine G_iconst dX11_miles_37 ?_
        exact G_iret rfl (rL (-1) rfl) dX11_miles_38 ⟨_, rfl, h⟩ hO
      · have h := h.2 (bI_ne c9)
        refine G_aload_n 0 rfl rfl dX11_miles_24 ?_
        refine G_get (k := 11) (kd := (2, 40)) (v := aR 40) gf_X11_85 rfl rfl rfl rfl dX11_miles_25 ?_
        refine G_iload_n 1 rfl rfl dX11_miles_28 ?_
        refine G_iload_n 2 rfl rfl dX11_miles_29 ?_
        refine G_iload_n 3 rfl rfl dX11_miles_30 ?_
        obtain ⟨g10, g11, c12, h⟩ := h
        refine G_callV (as := [_, _, _]) cf_X11_252 rfl rfl rfl (sp_X4_milesBetween (d - 1) (by omega) _ hO _ hx1 _ hx2 _ hx3 g10 g11 c12) (by omega) rfl rfl (Nat.le_of_ble_eq_true rfl) dX11_miles_31 ?_
        rintro _ σ15 ⟨u16, rfl, z17⟩ o14 r13
        have h := h _ _ (r13 _ rfl) o14 z17
        refine G_goto (tgt := 38) dX11_miles_34 (by decide) ?_
        exact G_iret rfl (r13 _ rfl) dX11_miles_38 ⟨_, rfl, h⟩ o14

theorem sp_X11_miles (d : Nat) (hd : 3 ≤ d) (σ : Mem) (hO : OKm σ) (x1 : Int) (hx1 : R32 x1) (x2 : Int) (hx2 : R32 x2) (x3 : Int) (hx3 : R32 x3) (A : Mem) (tx : Nat → Txt) (hpre : vwC σ A tx) : Mt yX11_miles cX11_miles 4 (some .int) d [aR (0), aI (x1), aI (x2), aI (x3)] σ (QI (fun v σ' => v = milesS A x1 x2 x3 ∧ Fr ScrC σ σ')) := mt_X11_miles hd hx1 hx2 hx3 hO (by
  unfold wp_X11_miles
  have hV := hpre
  unfold milesS
  refine ⟨fun h => ⟨by rw [if_neg (fun q => h q.1)], Fr.rf _ _⟩, fun h1 => ⟨fun h => ⟨by rw [if_neg (fun q => h q.2.1)], Fr.rf _ _⟩, fun h2 => ⟨fun h => ⟨by rw [if_neg (fun q => h q.2.2)], Fr.rf _ _⟩, fun h3 => ⟨A, tx, ⟨hV, h1, h2⟩, ?_⟩⟩⟩⟩
  intro u σ1 hu hO1 ⟨eu, hF⟩
  exact ⟨by rw [if_pos ⟨h1, h2, h3⟩]; exact eu, scr41 hF⟩)

abbrev F84 : List Nat := [80, 81, 82, 84]

def wp_X12_milesOf (x1 : Int) (x2 : Int) (x3 : Int) (σ : Mem) (Q : Int → Mem → Prop) : Prop :=
  ∃ g1 : Mem, ∃ g2 : Nat → Txt, (vwM σ g1 g2 ∧ (0 ≤ x2 ∧ x2 ≤ 7)) ∧
   ∀ σ6 : Mem, OKm σ6 → (inF σ6 84 (sprM g1 x3 ((-1) : Int) x2 8) ∧ vwM σ6 g1 g2 ∧ Fr [84] σ σ6) →
   (0 ≤ x1 ∧ x1 < 8) ∧
   Q (σ6 84 x1) σ6
theorem mt_X12_milesOf {d : Nat} (hd : 2 ≤ d) {x1 : Int} {x2 : Int} {x3 : Int} {σ : Mem} {Q : Int → Mem → Prop} (hx1 : R32 x1) (hx2 : R32 x2) (hx3 : R32 x3) (hO : OKm σ) (h : wp_X12_milesOf x1 x2 x3 σ Q) : Mt yX12_milesOf cX12_milesOf 4 (some .int) d [aR (74), aI (x1), aI (x2), aI (x3)] σ (QI Q) := by
  refine Mt.intro (by decide +kernel) (Nat.le_of_ble_eq_true rfl) [(0, aR (74)), (1, aI (x1)), (2, aI (x2)), (3, aI (x3))] rfl ?_
  unfold wp_X12_milesOf at h
  refine G_aload_n 0 rfl rfl dX12_milesOf_0 ?_
  refine G_iload_n 2 rfl rfl dX12_milesOf_1 ?_
  refine G_iload_n 3 rfl rfl dX12_milesOf_2 ?_
  refine G_iconst dX12_milesOf_3 ?_
  obtain ⟨g1, g2, c3, h⟩ := h
  refine G_callV (as := [_, _, _]) cf_X12_413 rfl rfl rfl (sp_X12_layFar (d - 1) (by omega) _ hO _ hx2 _ hx3 _ (rL (-1) rfl) g1 g2 c3) (by omega) rfl rfl (Nat.le_of_ble_eq_true rfl) dX12_milesOf_4 ?_
  rintro _ σ6 ⟨rfl, z8⟩ o5 r4
  have h := h _ o5 z8
  refine G_aload_n 0 rfl rfl dX12_milesOf_7 ?_
  refine G_get (k := 26) (kd := (2, 84)) (v := aR 84) gf_X12_50 rfl rfl rfl rfl dX12_milesOf_8 ?_
  refine G_iload_n 1 rfl rfl dX12_milesOf_11 ?_
  obtain ⟨c9, h⟩ := h
  refine G_iald (n := 8) rfl c9.1 c9.2 dX12_milesOf_12 ?_
  exact G_iret rfl (OKm.i o5 84 x1 (isLg_row (show shp 84 = (1, 8, []) from rfl) _)) dX12_milesOf_13 ⟨_, rfl, h⟩ o5

theorem sp_X12_milesOf (d : Nat) (hd : 2 ≤ d) (σ : Mem) (hO : OKm σ) (x1 : Int) (hx1 : R32 x1) (x2 : Int) (hx2 : R32 x2) (x3 : Int) (hx3 : R32 x3) (A : Mem) (tx : Nat → Txt) (hpre : vwM σ A tx ∧ (0 ≤ x1 ∧ x1 ≤ 7) ∧ (0 ≤ x2 ∧ x2 ≤ 7)) : Mt yX12_milesOf cX12_milesOf 4 (some .int) d [aR (74), aI (x1), aI (x2), aI (x3)] σ (QI (fun v σ' => v = dst A x3 (-1) x1 x2 ∧ vwM σ' A tx ∧ Fr [84] σ σ')) := mt_X12_milesOf hd hx1 hx2 hx3 hO (by
  unfold wp_X12_milesOf
  obtain ⟨hV, h1, h2⟩ := hpre
  have hI := hV.2.2.1
  refine ⟨A, tx, ⟨hV, h2⟩, ?_⟩
  intro σ6 o6 ⟨q6, hV6, f6⟩
  refine ⟨by omega, ?_, hV6, f6⟩
  rw [q6 x1 h1.1 (by omega), dst_M hI h2, dst_sm hI h2 h1])

def wp_X12_miles (x1 : Int) (x2 : Int) (x3 : Int) (σ : Mem) (Q : Int → Mem → Prop) : Prop :=
  ((¬ (0 ≤ x1 ∧ x1 ≤ 7)) →
    Q (-1) σ) ∧
   ((0 ≤ x1 ∧ x1 ≤ 7) →
    ((¬ (0 ≤ x2 ∧ x2 ≤ 7)) →
     Q (-1) σ) ∧
    ((0 ≤ x2 ∧ x2 ≤ 7) →
     (((0 : Int) ≤ x3 ∧ x3 ≤ (99 : Int)) →
      ∃ g10 : Mem, ∃ g11 : Nat → Txt, (vwM σ g10 g11 ∧ (0 ≤ x1 ∧ x1 ≤ 7) ∧ (0 ≤ x2 ∧ x2 ≤ 7)) ∧
      ∀ (u16 : Int) (σ15 : Mem), R32 u16 → OKm σ15 → (u16 = dst g10 x3 (-1) x1 x2 ∧ vwM σ15 g10 g11 ∧ Fr [84] σ σ15) →
      ((u16 ≠ 1000000) →
       Q u16 σ15) ∧
      ((u16 = 1000000) →
       Q (-1) σ15)) ∧
     ((¬ ((0 : Int) ≤ x3 ∧ x3 ≤ (99 : Int))) →
      Q (-1) σ)))
theorem mt_X12_miles {d : Nat} (hd : 3 ≤ d) {x1 : Int} {x2 : Int} {x3 : Int} {σ : Mem} {Q : Int → Mem → Prop} (hx1 : R32 x1) (hx2 : R32 x2) (hx3 : R32 x3) (hO : OKm σ) (h : wp_X12_miles x1 x2 x3 σ Q) : Mt yX12_miles cX12_miles 5 (some .int) d [aR (74), aI (x1), aI (x2), aI (x3)] σ (QI Q) := by
  refine Mt.intro (by decide +kernel) (Nat.le_of_ble_eq_true rfl) [(0, aR (74)), (1, aI (x1)), (2, aI (x2)), (3, aI (x3))] rfl ?_
  unfold wp_X12_miles at h
  refine G_iload_n 1 rfl rfl dX12_miles_0 ?_
  refine G_callS (as := [_]) cf_X12_89 rfl (sp_X12_isTown (d - 1) (by omega) _ hO _ hx1) (by omega) rfl rfl (Nat.le_of_ble_eq_true rfl) dX12_miles_1 ?_
  rintro _ _ ⟨_, rfl, rfl, rfl⟩ o2 r1
  refine G_if_eq (bI_R _) dX12_miles_4 (tgt := 24) (by decide) (fun c3 => ?_) (fun c3 => ?_)
  · have h := h.1 ((bI_0 _).mp c3)
    refine G_iconst dX12_miles_24 ?_
    exact G_iret rfl (rL (-1) rfl) dX12_miles_25 ⟨_, rfl, h⟩ hO
  · have h := h.2 (bI_ne c3)
    refine G_iload_n 2 rfl rfl dX12_miles_7 ?_
    refine G_callS (as := [_]) cf_X12_89 rfl (sp_X12_isTown (d - 1) (by omega) _ hO _ hx2) (by omega) rfl rfl (Nat.le_of_ble_eq_true rfl) dX12_miles_8 ?_
    rintro _ _ ⟨_, rfl, rfl, rfl⟩ o5 r4
    refine G_if_eq (bI_R _) dX12_miles_11 (tgt := 24) (by decide) (fun c6 => ?_) (fun c6 => ?_)
    · have h := h.1 ((bI_0 _).mp c6)
      refine G_iconst dX12_miles_24 ?_
      exact G_iret rfl (rL (-1) rfl) dX12_miles_25 ⟨_, rfl, h⟩ hO
    · have h := h.2 (bI_ne c6)
      refine G_iload_n 3 rfl rfl dX12_miles_14 ?_
      refine G_iconst dX12_miles_15 ?_
      refine G_bipush (by decide) dX12_miles_16 ?_
      refine G_callS (as := [_, _, _]) cf_X12_81 rfl (sp_X12_isIn (d - 1) (by omega) _ hO _ hx3 _ (rL 0 rfl) _ (rL 99 rfl)) (by omega) rfl rfl (Nat.le_of_ble_eq_true rfl) dX12_miles_18 ?_
      rintro _ _ ⟨_, rfl, rfl, rfl⟩ o8 r7
      refine G_if_ne (bI_R _) dX12_miles_21 (tgt := 26) (by decide) (fun c9 => ?_) (fun c9 => ?_)
      · have h := h.1 (bI_ne c9)
        refine G_aload_n 0 rfl rfl dX12_miles_26 ?_
        refine G_iload_n 1 rfl rfl dX12_miles_27 ?_
        refine G_iload_n 2 rfl rfl dX12_miles_28 ?_
        refine G_iload_n 3 rfl rfl dX12_miles_29 ?_
        obtain ⟨g10, g11, c12, h⟩ := h
        refine G_callV (as := [_, _, _]) cf_X12_416 rfl rfl rfl (sp_X12_milesOf (d - 1) (by omega) _ hO _ hx1 _ hx2 _ hx3 g10 g11 c12) (by omega) rfl rfl (Nat.le_of_ble_eq_true rfl) dX12_miles_30 ?_
        rintro _ σ15 ⟨u16, rfl, z17⟩ o14 r13
        have h := h _ _ (r13 _ rfl) o14 z17
        refine G_istore (lv' := [(4, aI (u16)), (0, aR (74)), (1, aI (x1)), (2, aI (x2)), (3, aI (x3))]) rfl (by decide) dX12_miles_33 ?_
        refine G_iload 0 rfl dX12_miles_35 ?_
        refine G_ldcw (n := 1000000) rfl (by decide) kc_X12_412 dX12_miles_37 ?_
        refine G_icmp_ne (r13 _ rfl) (rL 1000000 rfl) dX12_miles_40 (tgt := 47) (by decide) (fun c18 => ?_) (fun c18 => ?_)
        · have h := h.1 c18
          refine G_iload 0 rfl dX12_miles_47 ?_
          exact G_iret rfl (r13 _ rfl) dX12_miles_49 ⟨_, rfl, h⟩ o14
        · have h := h.2 c18
          refine G_iconst dX12_miles_43 ?_
          refine G_goto (tgt := 49) dX12_miles_44 (by decide) ?_
          exact G_iret rfl (rL (-1) rfl) dX12_miles_49 ⟨_, rfl, h⟩ o14
      · have h := h.2 ((bI_0 _).mp c9)
        refine G_iconst dX12_miles_24 ?_
        exact G_iret rfl (rL (-1) rfl) dX12_miles_25 ⟨_, rfl, h⟩ hO

theorem sp_X12_miles (d : Nat) (hd : 3 ≤ d) (σ : Mem) (hO : OKm σ) (x1 : Int) (hx1 : R32 x1) (x2 : Int) (hx2 : R32 x2) (x3 : Int) (hx3 : R32 x3) (A : Mem) (tx : Nat → Txt) (hpre : vwM σ A tx) : Mt yX12_miles cX12_miles 5 (some .int) d [aR (74), aI (x1), aI (x2), aI (x3)] σ (QI (fun v σ' => v = milesS A x1 x2 x3 ∧ vwM σ' A tx ∧ Fr F84 σ σ')) := mt_X12_miles hd hx1 hx2 hx3 hO (by
  unfold wp_X12_miles
  have hV := hpre
  have hI := hV.2.2.1
  unfold milesS
  refine ⟨fun h => ⟨by rw [if_neg (fun q => h q.1)], hV, Fr.rf _ _⟩, fun h1 => ⟨fun h => ⟨by rw [if_neg (fun q => h q.2.1)], hV, Fr.rf _ _⟩, fun h2 => ⟨fun h3 => ⟨A, tx, ⟨hV, h1, h2⟩, ?_⟩, fun h => ⟨by rw [if_neg (fun q => h q.2.2)], hV, Fr.rf _ _⟩⟩⟩⟩
  intro u σ1 hu hO1 ⟨eu, hV1, hF⟩
  have hr := dst_r (th := x3) (wo := -1) (a := x1) (b := x2) hI
  rw [if_pos ⟨h1, h2, h3⟩]
  exact ⟨fun h => ⟨by rw [if_pos (by omega)]; exact eu, hV1, hF.wk (by simp)⟩, fun h => ⟨by rw [if_neg (by omega)], hV1, hF.wk (by simp)⟩⟩)

/-- the first number below n that p is true of; -1 -/
def firstN (p : Nat → Bool) : Nat → Int
  | 0 => -1
  | n + 1 => if firstN p n = -1 then (if p n = true then (n : Int) else -1) else firstN p n
theorem firstN_no {p : Nat → Bool} : ∀ n : Nat, (∀ i, i < n → p i = false) → firstN p n = -1
  | 0, _ => rfl
  | n + 1, h => by unfold firstN; rw [firstN_no n (fun i hi => h i (by omega)), if_pos rfl, h n (by omega)]; simp
theorem firstN_at {p : Nat → Bool} {k : Nat} (hb : ∀ i, i < k → p i = false) (hk : p k = true) : ∀ n : Nat, k < n → firstN p n = k
  | 0, h => by omega
  | n + 1, h => by
    unfold firstN
    by_cases e : k = n
    · subst e; rw [firstN_no k hb, if_pos rfl, if_pos hk]
    · rw [firstN_at hb hk n (by omega), if_neg (by omega)]
theorem firstN_ex {p : Nat → Bool} {i : Nat} (hp : p i = true) : ∀ m, i < m → firstN p m ≠ -1
  | 0, h => by omega
  | m + 1, h => by
    unfold firstN
    by_cases e3 : firstN p m = -1
    · rw [if_pos e3]
      by_cases e2 : i = m
      · subst e2; rw [if_pos hp]; omega
      · exact absurd e3 (firstN_ex hp m (by omega))
    · rw [if_neg e3]; exact e3
theorem firstN_is {p : Nat → Bool} : ∀ n : Nat, firstN p n ≠ -1 → ∃ k : Nat, firstN p n = k ∧ k < n ∧ p k = true ∧ ∀ i, i < k → p i = false
  | 0, h => absurd rfl h
  | n + 1, h => by
    by_cases e : firstN p n = -1
    · have hb : ∀ i, i < n → p i = false := by
        intro i hi
        cases hp : p i with
        | false => rfl
        | true =>
          exfalso
          exact firstN_ex hp n hi e
      unfold firstN at h ⊢
      rw [if_pos e] at h ⊢
      cases hp : p n with
      | false => rw [hp] at h; simp at h
      | true => exact ⟨n, by simp, by omega, hp, hb⟩
    · obtain ⟨k, h1, h2, h3, h4⟩ := firstN_is n e
      refine ⟨k, ?_, by omega, h3, h4⟩
      unfold firstN; rw [if_neg e]; exact h1
/-- a road that brings one nearer to b by its whole length -/
def twd (A : Mem) (th b t : Int) (r : Nat) : Bool := decide (th ≤ A 1 (r : Int) ∧ (A 11 (r : Int) = t ∨ A 12 (r : Int) = t) ∧ dst A th (-1) b (acrS A (r : Int) t) < 1000000 ∧ dst A th (-1) b (acrS A (r : Int) t) + A 13 (r : Int) = dst A th (-1) b t)
def nextR (A : Mem) (th b t : Int) : Int := firstN (twd A th b t) (A 10 0).toNat
theorem acr_jn {A : Mem} {r t : Int} (h : A 11 r = t ∨ A 12 r = t) : jnR A r (acrS A r t) t := by
  unfold acrS
  by_cases e : A 11 r = t
  · rw [if_pos e]; exact Or.inr ⟨e, rfl⟩
  · rw [if_neg e]; exact Or.inl ⟨rfl, by rcases h with h | h; exact absurd h e; exact h⟩
theorem jn_acr {A : Mem} {r t c : Int} (hI : InvA A) (hr : 0 ≤ r ∧ r < A 10 0) (h : jnR A r c t) : acrS A r t = c ∧ (A 11 r = t ∨ A 12 r = t) := by
  have := hI.2.1 r hr.1 hr.2
  unfold acrS
  rcases h with ⟨h1, h2⟩ | ⟨h1, h2⟩
  · rw [if_neg (by omega)]; exact ⟨h1, Or.inr h2⟩
  · rw [if_pos h1]; exact ⟨h2, Or.inl h1⟩
theorem dst_self {A : Mem} {th wo b : Int} (hI : InvA A) (hb : 0 ≤ b ∧ b ≤ 7) : dst A th wo b b = 0 := by
  have := dst_le (th := th) (wo := wo) (k := 0) (l := 0) hI hb ⟨rfl, rfl⟩
  have := dst_r (th := th) (wo := wo) (a := b) (b := b) hI
  omega
theorem dst_ne0 {A : Mem} {th wo b t : Int} (hI : InvA A) (h : dst A th wo b t = 0) : t = b := by
  obtain ⟨k, hk⟩ := dst_snd (th := th) (wo := wo) (a := b) (b := t) hI (by omega)
  have := wlk_len hI k _ _ _ hk
  have : k = 0 := by omega
  subst this
  exact hk.1.symm
theorem okR_1 {A : Mem} {th r : Int} (h : 0 ≤ r) : okR A th (-1) r = true ↔ th ≤ A 1 r := by
  unfold okR; rw [decide_eq_true_iff]; omega
theorem twd_no {A : Mem} {th b t : Int} (hI : InvA A) (hb : 0 ≤ b ∧ b ≤ 7) (h : dst A th (-1) b t = 0 ∨ dst A th (-1) b t = 1000000) : nextR A th b t = -1 := by
  refine firstN_no _ (fun i hi => decide_eq_false (fun q => ?_))
  have hl := hI.2.1 (i : Int) (by omega) (by omega)
  have h0 := dst_r (th := th) (wo := -1) (a := b) (b := acrS A (i : Int) t) hI
  obtain ⟨k, hk⟩ := dst_snd hI q.2.2.1
  have := dst_lt hI hb hk
  omega
theorem twd_yes {A : Mem} {th b t : Int} (hI : InvA A) (hb : 0 ≤ b ∧ b ≤ 7) (h : dst A th (-1) b t < 1000000) (hne : t ≠ b) : ∃ k : Nat, nextR A th b t = k ∧ (k : Int) < A 10 0 ∧ twd A th b t k = true ∧ ∀ i, i < k → twd A th b t i = false := by
  have hc := hI.1
  have hex : nextR A th b t ≠ -1 := by
    intro hno
    obtain ⟨k, hk⟩ := dst_snd hI h
    cases k with
    | zero => exact hne hk.1.symm
    | succ k =>
      obtain ⟨r, c, h1, h2, h3, h4⟩ := hk
      have hac := jn_acr hI h1 h3
      have q1 := dst_le hI hb h4
      have hl := hI.2.1 r h1.1 h1.2
      have q0 := dst_r (th := th) (wo := -1) (a := b) (b := c) hI
      obtain ⟨k2, hk2⟩ := dst_snd (th := th) (wo := -1) (a := b) (b := c) hI (by omega)
      have q2 := dst_le hI hb (wlk_snoc hk2 h1 h2 h3)
      have hp : twd A th b t r.toNat = true := by
        unfold twd
        rw [show ((r.toNat : Nat) : Int) = r by omega]
        refine decide_eq_true ⟨(okR_1 h1.1).mp h2, hac.2, ?_, ?_⟩
        · rw [hac.1]; omega
        · rw [hac.1]; omega
      exact firstN_ex hp (A 10 0).toNat (by omega) hno
  obtain ⟨k, h1, h2, h3, h4⟩ := firstN_is _ hex
  exact ⟨k, h1, by omega, h3, h4⟩
/-- the town where one is after k goings towards b -/
def townK (A : Mem) (th b a : Int) : Nat → Int
  | 0 => a
  | k + 1 => if townK A th b a k = b then b else acrS A (nextR A th b (townK A th b a k)) (townK A th b a k)
def wayS (A : Mem) (a b th i : Int) : Int :=
  if ((0 ≤ a ∧ a ≤ 7) ∧ (0 ≤ b ∧ b ≤ 7) ∧ (0 ≤ th ∧ th ≤ 99) ∧ 0 ≤ i) ∧ dst A th (-1) b a < 1000000 ∧ townK A th b a i.toNat ≠ b then nextR A th b (townK A th b a i.toNat) else -2
theorem townK_ok {A : Mem} {th b a : Int} (hI : InvA A) (hb : 0 ≤ b ∧ b ≤ 7) (ha : 0 ≤ a ∧ a ≤ 7) (h : dst A th (-1) b a < 1000000) : ∀ k : Nat, (0 ≤ townK A th b a k ∧ townK A th b a k ≤ 7) ∧ dst A th (-1) b (townK A th b a k) < 1000000 ∧ (townK A th b a k ≠ b → dst A th (-1) b (townK A th b a (k + 1)) < dst A th (-1) b (townK A th b a k))
  | 0 => by
    refine ⟨ha, h, fun hne => ?_⟩
    obtain ⟨r, h1, h2, h3, h4⟩ := twd_yes hI hb h hne
    have h3 := of_decide_eq_true h3
    have hl := hI.2.1 (r : Int) (by omega) h2
    have hne : a ≠ b := hne
    show dst A th (-1) b (if a = b then b else acrS A (nextR A th b a) a) < dst A th (-1) b a
    rw [if_neg hne, h1]; omega
  | k + 1 => by
    obtain ⟨i1, i2, i3⟩ := townK_ok hI hb ha h k
    have hgen : ∀ t : Int, (0 ≤ t ∧ t ≤ 7) → dst A th (-1) b t < 1000000 → t ≠ b → dst A th (-1) b (acrS A (nextR A th b t) t) < dst A th (-1) b t ∧ (0 ≤ acrS A (nextR A th b t) t ∧ acrS A (nextR A th b t) t ≤ 7) := by
      intro t ht hd hne
      obtain ⟨r, h1, h2, h3, h4⟩ := twd_yes hI hb hd hne
      have h3 := of_decide_eq_true h3
      have hl := hI.2.1 (r : Int) (by omega) h2
      rw [h1]
      exact ⟨by omega, acrS_r hI ⟨by omega, h2⟩⟩
    by_cases e : townK A th b a k = b
    · have e1 : townK A th b a (k + 1) = b := by show (if _ then _ else _) = _; rw [if_pos e]
      rw [e1]
      refine ⟨hb, by rw [dst_self hI hb]; omega, fun h => absurd rfl h⟩
    · have e1 : townK A th b a (k + 1) = acrS A (nextR A th b (townK A th b a k)) (townK A th b a k) := by show (if _ then _ else _) = _; rw [if_neg e]
      have q := hgen _ i1 i2 e
      rw [← e1] at q
      refine ⟨q.2, by omega, fun hne => ?_⟩
      have q2 := hgen _ q.2 (by omega) hne
      have e2 : townK A th b a (k + 1 + 1) = acrS A (nextR A th b (townK A th b a (k + 1))) (townK A th b a (k + 1)) := by show (if _ then _ else _) = _; rw [if_neg hne]
      rw [e2]; exact q2.1
theorem townK_b {A : Mem} {th b a : Int} {k : Nat} (h : townK A th b a k = b) : ∀ j : Nat, townK A th b a (k + j) = b
  | 0 => h
  | j + 1 => by show (if townK A th b a (k + j) = b then _ else _) = _; rw [if_pos (townK_b h j)]
theorem townK_8 {A : Mem} {th b a : Int} (hI : InvA A) (hb : 0 ≤ b ∧ b ≤ 7) (ha : 0 ≤ a ∧ a ≤ 7) (h : dst A th (-1) b a < 1000000) {n : Nat} (hn : 8 ≤ n) : townK A th b a n = b := by
  have hok := townK_ok hI hb ha h
  by_cases hex : ∃ k, k ≤ 8 ∧ townK A th b a k = b
  · obtain ⟨k, h1, h2⟩ := hex
    have := townK_b h2 (n - k)
    rw [show k + (n - k) = n by omega] at this; exact this
  · exfalso
    have hne : ∀ k, k ≤ 8 → townK A th b a k ≠ b := fun k hk he => hex ⟨k, hk, he⟩
    have hdec : ∀ (j i : Nat), i + j ≤ 8 → dst A th (-1) b (townK A th b a (i + j)) + j ≤ dst A th (-1) b (townK A th b a i) := by
      intro j
      induction j with
      | zero => intro i hi; simp
      | succ j ih =>
        intro i hi
        have q1 := ih i (by omega)
        have q2 := (hok (i + j)).2.2 (hne _ (by omega))
        rw [show i + (j + 1) = i + j + 1 by omega]
        omega
    obtain ⟨i, j, h1, h2, h3⟩ := php 8 (fun k => (townK A th b a k).toNat) (fun k hk => by have := (hok k).1; show (townK A th b a k).toNat < 8; omega)
    have h3 : (townK A th b a i).toNat = (townK A th b a j).toNat := h3
    have a1 := (hok i).1
    have a2 := (hok j).1
    have e : townK A th b a i = townK A th b a j := by omega
    have := hdec (j - i) i (by omega)
    rw [show i + (j - i) = j by omega, ← e] at this
    omega

def wp_X4_roadTowards (x1 : Int) (x2 : Int) (σ : Mem) (Q : Int → Mem → Prop) : Prop :=
 ∀ P2 : Int → Int → Int → Mem → Prop,
 (∀ (v1 : Int) (v2 : Int) (v3 : Int) (σ : Mem), (R32 v1 → R32 v2 → R32 v3 → OKm σ →
   (((σ 1 8) ≤ v3) →
     Q (-1) σ) ∧
    ((v3 < (σ 1 8)) →
     (0 ≤ v3 ∧ v3 < 16) ∧
     (((σ 11 v3) < v2) →
      R32 (v3 + 1) ∧ P2 v1 v2 (v3 + 1) σ) ∧
     ((v2 ≤ (σ 11 v3)) →
      (0 ≤ v3 ∧ v3 < 16) ∧
      ((¬ (σ 2 v3 = v1 ∨ σ 3 v3 = v1)) →
       R32 (v3 + 1) ∧ P2 v1 v2 (v3 + 1) σ) ∧
      ((σ 2 v3 = v1 ∨ σ 3 v3 = v1) →
       (0 ≤ v3 ∧ v3 < 16) ∧
       (0 ≤ (if σ 2 v3 = v1 then σ 3 v3 else σ 2 v3) ∧ (if σ 2 v3 = v1 then σ 3 v3 else σ 2 v3) < 8) ∧
       ∀ y14 : Int, y14 = (σ 41 (if σ 2 v3 = v1 then σ 3 v3 else σ 2 v3)) →
       ((1000000 ≤ y14) →
        R32 (v3 + 1) ∧ P2 v1 v2 (v3 + 1) σ) ∧
       ((y14 < 1000000) →
        (0 ≤ v3 ∧ v3 < 16) ∧
        (0 ≤ v1 ∧ v1 < 8) ∧
        R32 (y14 + (σ 4 v3)) ∧
        (((y14 + (σ 4 v3)) ≠ (σ 41 v1)) →
         R32 (v3 + 1) ∧ P2 v1 v2 (v3 + 1) σ) ∧
        (((y14 + (σ 4 v3)) = (σ 41 v1)) →
         Q v3 σ)))))) → P2 v1 v2 v3 σ) →
  P2 x1 x2 0 σ
theorem mt_X4_roadTowards {d : Nat} (hd : 1 ≤ d) {x1 : Int} {x2 : Int} {σ : Mem} {Q : Int → Mem → Prop} (hx1 : R32 x1) (hx2 : R32 x2) (hO : OKm σ) (h : wp_X4_roadTowards x1 x2 σ Q) : Mt yX4_roadTowards cX4_roadTowards 5 (some .int) d [aR (40), aI (x1), aI (x2)] σ (QI Q) := by
  refine Mt.intro (by decide +kernel) (Nat.le_of_ble_eq_true rfl) [(0, aR (40)), (1, aI (x1)), (2, aI (x2))] rfl ?_
  unfold wp_X4_roadTowards at h
  have h := h (fun (v1 : Int) (v2 : Int) (v3 : Int) (σ : Mem) => R32 v1 → R32 v2 → R32 v3 → OKm σ → G yX4_roadTowards cX4_roadTowards 5 (some .int) d (QI Q) 2 [(0, aR (40)), (1, aI (v1)), (2, aI (v2)), (3, aI (v3))] [] σ) ?_
  · refine G_iconst dX4_roadTowards_0 ?_
    refine G_istore_n (lv' := [(3, aI (0)), (0, aR (40)), (1, aI (x1)), (2, aI (x2))]) rfl rfl (by decide) dX4_roadTowards_1 ?_
    exact G_pick [1, 2, 3, 0] rfl (h hx1 hx2 (rL 0 rfl) hO)
  · intro v1 v2 v3 σ h hv1 hv2 hv3 hO
    have h := h hv1 hv2 hv3 hO
    refine G_iload_n 3 rfl rfl dX4_roadTowards_2 ?_
    refine G_aload_n 0 rfl rfl dX4_roadTowards_3 ?_
    refine G_get (k := 0) (kd := (2, 1)) (v := aR 1) gf_X4_37 rfl rfl rfl rfl dX4_roadTowards_4 ?_
    refine G_get (k := 8) (kd := (0, 0)) (v := aI (σ 1 8)) gf_X4_50 rfl rfl rfl rfl dX4_roadTowards_7 ?_
    refine G_icmp_ge hv3 (OKm.i hO 1 8 rfl) dX4_roadTowards_10 (tgt := 90) (by decide) (fun c1 => ?_) (fun c1 => ?_)
    · have h := h.1 c1
      refine G_iconst dX4_roadTowards_90 ?_
      exact G_iret rfl (rL (-1) rfl) dX4_roadTowards_91 ⟨_, rfl, h⟩ hO
    · have h := h.2 c1
      refine G_aload_n 0 rfl rfl dX4_roadTowards_13 ?_
      refine G_get (k := 1) (kd := (2, 10)) (v := aR 10) gf_X4_41 rfl rfl rfl rfl dX4_roadTowards_14 ?_
      refine G_get (k := 0) (kd := (3, 1)) (v := aR (11)) gf_X4_45 rfl rfl rfl rfl dX4_roadTowards_17 ?_
      refine G_iload_n 3 rfl rfl dX4_roadTowards_20 ?_
      obtain ⟨c2, h⟩ := h
      refine G_iald (n := 16) rfl c2.1 c2.2 dX4_roadTowards_21 ?_
      refine G_iload_n 2 rfl rfl dX4_roadTowards_22 ?_
      refine G_icmp_lt (OKm.i hO 11 v3 (isLg_row (show shp 11 = (1, 16, []) from rfl) _)) hv2 dX4_roadTowards_23 (tgt := 84) (by decide) (fun c3 => ?_) (fun c3 => ?_)
      · have h := h.1 c3
        refine G_iinc (lv' := [(3, aI ((v3 + 1))), (0, aR (40)), (1, aI (v1)), (2, aI (v2))]) (k := 3) rfl rfl (by decide) dX4_roadTowards_84 ?_
        refine G_goto (tgt := 2) dX4_roadTowards_87 (by decide) ?_
        obtain ⟨c4, h⟩ := h
        exact G_pick [1, 2, 3, 0] rfl (h hv1 hv2 c4 hO)
      · have h := h.2 c3
        refine G_aload_n 0 rfl rfl dX4_roadTowards_26 ?_
        refine G_get (k := 0) (kd := (2, 1)) (v := aR 1) gf_X4_37 rfl rfl rfl rfl dX4_roadTowards_27 ?_
        refine G_iload_n 3 rfl rfl dX4_roadTowards_30 ?_
        refine G_iload_n 1 rfl rfl dX4_roadTowards_31 ?_
        obtain ⟨c5, h⟩ := h
        refine G_callV (as := [_, _]) cf_X4_60 rfl rfl rfl (sp_X10_touches (d - 1) (by omega) _ hO _ hv3 _ hv1 c5) (by omega) rfl rfl (Nat.le_of_ble_eq_true rfl) dX4_roadTowards_32 ?_
        rintro _ _ ⟨_, rfl, rfl, rfl⟩ o7 r6
        refine G_if_eq (bI_R _) dX4_roadTowards_35 (tgt := 84) (by decide) (fun c8 => ?_) (fun c8 => ?_)
        · have h := h.1 ((bI_0 _).mp c8)
          refine G_iinc (lv' := [(3, aI ((v3 + 1))), (0, aR (40)), (1, aI (v1)), (2, aI (v2))]) (k := 3) rfl rfl (by decide) dX4_roadTowards_84 ?_
          refine G_goto (tgt := 2) dX4_roadTowards_87 (by decide) ?_
          obtain ⟨c9, h⟩ := h
          exact G_pick [1, 2, 3, 0] rfl (h hv1 hv2 c9 hO)
        · have h := h.2 (bI_ne c8)
          refine G_aload_n 0 rfl rfl dX4_roadTowards_38 ?_
          refine G_get (k := 2) (kd := (3, 1)) (v := aR (41)) gf_X4_9 rfl rfl rfl rfl dX4_roadTowards_39 ?_
          refine G_aload_n 0 rfl rfl dX4_roadTowards_42 ?_
          refine G_get (k := 0) (kd := (2, 1)) (v := aR 1) gf_X4_37 rfl rfl rfl rfl dX4_roadTowards_43 ?_
          refine G_iload_n 3 rfl rfl dX4_roadTowards_46 ?_
          refine G_iload_n 1 rfl rfl dX4_roadTowards_47 ?_
          obtain ⟨c10, h⟩ := h
          refine G_callV (as := [_, _]) cf_X4_93 rfl rfl rfl (sp_X10_across (d - 1) (by omega) _ hO _ hv3 _ hv1 c10) (by omega) rfl rfl (Nat.le_of_ble_eq_true rfl) dX4_roadTowards_48 ?_
          rintro _ _ ⟨_, rfl, rfl, rfl⟩ o12 r11
          obtain ⟨c13, h⟩ := h
          refine G_iald (n := 8) rfl c13.1 c13.2 dX4_roadTowards_51 ?_
          have h := h _ rfl
          refine G_istore (lv' := [(4, aI (((σ 41 (if σ 2 v3 = v1 then σ 3 v3 else σ 2 v3))))), (0, aR (40)), (1, aI (v1)), (2, aI (v2)), (3, aI (v3))]) rfl (by decide) dX4_roadTowards_52 ?_
          refine G_iload 0 rfl dX4_roadTowards_54 ?_
          refine G_ldc (n := 1000000) rfl (by decide) kc_X4_64 dX4_roadTowards_56 ?_
          refine G_icmp_ge (OKm.i hO 41 (if σ 2 v3 = v1 then σ 3 v3 else σ 2 v3) (isLg_row (show shp 41 = (1, 8, []) from rfl) _)) (rL 1000000 rfl) dX4_roadTowards_58 (tgt := 84) (by decide) (fun c15 => ?_) (fun c15 => ?_)
          · have h := h.1 c15
            refine G_iinc (lv' := [(3, aI ((v3 + 1))), (4, aI (((σ 41 (if σ 2 v3 = v1 then σ 3 v3 else σ 2 v3))))), (0, aR (40)), (1, aI (v1)), (2, aI (v2))]) (k := 4) rfl rfl (by decide) dX4_roadTowards_84 ?_
            refine G_goto (tgt := 2) dX4_roadTowards_87 (by decide) ?_
            obtain ⟨c16, h⟩ := h
            exact G_pick [2, 3, 4, 0] rfl (h hv1 hv2 c16 hO)
          · have h := h.2 c15
            refine G_iload 0 rfl dX4_roadTowards_61 ?_
            refine G_aload_n 1 rfl rfl dX4_roadTowards_63 ?_
            refine G_get (k := 0) (kd := (2, 1)) (v := aR 1) gf_X4_37 rfl rfl rfl rfl dX4_roadTowards_64 ?_
            refine G_get (k := 2) (kd := (3, 3)) (v := aR (4)) gf_X4_77 rfl rfl rfl rfl dX4_roadTowards_67 ?_
            refine G_iload_n 4 rfl rfl dX4_roadTowards_70 ?_
            obtain ⟨c17, h⟩ := h
            refine G_iald (n := 16) rfl c17.1 c17.2 dX4_roadTowards_71 ?_
            refine G_iadd dX4_roadTowards_72 ?_
            refine G_aload_n 1 rfl rfl dX4_roadTowards_73 ?_
            refine G_get (k := 2) (kd := (3, 1)) (v := aR (41)) gf_X4_9 rfl rfl rfl rfl dX4_roadTowards_74 ?_
            refine G_iload_n 2 rfl rfl dX4_roadTowards_77 ?_
            obtain ⟨c18, h⟩ := h
            refine G_iald (n := 8) rfl c18.1 c18.2 dX4_roadTowards_78 ?_
            obtain ⟨c19, h⟩ := h
            refine G_icmp_ne c19 (OKm.i hO 41 v1 (isLg_row (show shp 41 = (1, 8, []) from rfl) _)) dX4_roadTowards_79 (tgt := 84) (by decide) (fun c20 => ?_) (fun c20 => ?_)
            · have h := h.1 c20
              refine G_iinc (lv' := [(3, aI ((v3 + 1))), (4, aI (((σ 41 (if σ 2 v3 = v1 then σ 3 v3 else σ 2 v3))))), (0, aR (40)), (1, aI (v1)), (2, aI (v2))]) (k := 4) rfl rfl (by decide) dX4_roadTowards_84 ?_
              refine G_goto (tgt := 2) dX4_roadTowards_87 (by decide) ?_
              obtain ⟨c21, h⟩ := h
              exact G_pick [2, 3, 4, 0] rfl (h hv1 hv2 c21 hO)
            · have h := h.2 c20
              refine G_iload_n 4 rfl rfl dX4_roadTowards_82 ?_
              exact G_iret rfl hv3 dX4_roadTowards_83 ⟨_, rfl, h⟩ hO

theorem sp_X4_roadTowards (d : Nat) (hd : 1 ≤ d) (σ : Mem) (hO : OKm σ) (x1 : Int) (hx1 : R32 x1) (x2 : Int) (hx2 : R32 x2) (A : Mem) (tx : Nat → Txt) (b : Int) (hpre : vwC σ A tx ∧ inF σ 41 (dst A x2 (-1) b) ∧ (0 ≤ x1 ∧ x1 ≤ 7)) : Mt yX4_roadTowards cX4_roadTowards 5 (some .int) d [aR (40), aI (x1), aI (x2)] σ (QI (fun v σ' => v = nextR A x2 b x1 ∧ σ' = σ)) := mt_X4_roadTowards hd hx1 hx2 hO (by
  unfold wp_X4_roadTowards
  intro P2 h2
  obtain ⟨hV, hm, hx⟩ := hpre
  have hI := hV.2.2.1
  have hc := hI.1
  have e8 : σ 1 8 = A 10 0 := hV.1.1.1
  have H : ∀ (n k : Nat), k + n = (A 10 0).toNat → (∀ i, i < k → twd A x2 b x1 i = false) → P2 x1 x2 (k : Int) σ := by
    intro n
    induction n with
    | zero =>
      intro k hk hb
      have hk2 : k = (A 10 0).toNat := by omega
      refine h2 _ _ _ _ (fun _ _ _ _ => ⟨fun _ => ⟨?_, rfl⟩, fun h => absurd h (by omega)⟩)
      unfold nextR
      rw [← hk2, firstN_no k hb]
    | succ n ih =>
      intro k hk hb
      have t1 := hV.1.2.1 (k : Int) (by omega) (by omega)
      have n1 := hV.2.1.2.1 (k : Int) (by omega) (by omega)
      have s2 : σ 2 (k : Int) = A 11 (k : Int) := t1.1
      have s3 : σ 3 (k : Int) = A 12 (k : Int) := t1.2.1
      have s4 : σ 4 (k : Int) = A 13 (k : Int) := t1.2.2.1
      have hl := hI.2.1 (k : Int) (by omega) (by omega)
      have no : twd A x2 b x1 k = false → R32 ((k : Int) + 1) ∧ P2 x1 x2 ((k : Int) + 1) σ := fun h => by
        refine ⟨by unfold R32; omega, ih (k + 1) (by omega) (fun i hi => ?_)⟩
        by_cases e : i = k
        · subst e; exact h
        · exact hb i (by omega)
      refine h2 _ _ _ _ (fun _ _ _ _ => ⟨fun h => absurd h (by omega), fun _ => ?_⟩)
      rw [n1, s2, s3, s4]
      have eac : (if A 11 (k : Int) = x1 then A 12 (k : Int) else A 11 (k : Int)) = acrS A (k : Int) x1 := rfl
      rw [eac]
      have hac := acrS_r (t := x1) hI (r := (k : Int)) (by omega)
      rw [hm _ (by omega) (by omega), hm x1 (by omega) (by omega)]
      refine ⟨by omega, fun h => no (decide_eq_false (fun q => by omega)), fun h1 => ⟨by omega, fun h => no (decide_eq_false (fun q => h q.2.1)), fun h3 => ⟨by omega, by omega, fun y hy => ⟨fun h => no (decide_eq_false (fun q => by omega)), fun h4 => ⟨by omega, by omega, by unfold R32; have := dst_r (th := x2) (wo := -1) (a := b) (b := acrS A (k : Int) x1) hI; omega, fun h => no (decide_eq_false (fun q => h (by rw [hy]; exact q.2.2.2))), fun h5 => ⟨?_, rfl⟩⟩⟩⟩⟩⟩
      unfold nextR
      exact (firstN_at hb (decide_eq_true ⟨h1, h3, by omega, by omega⟩) _ (by omega)).symm
  exact H _ 0 (Nat.zero_add _) (fun i hi => by omega))
