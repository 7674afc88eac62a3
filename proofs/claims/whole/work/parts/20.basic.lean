def wp_X11_within (x1 : Int) (x2 : Int) (x3 : Int) (σ : Mem) (Q : Int → Mem → Prop) : Prop :=
  ((x1 < x2) →
    Q 0 σ) ∧
   ((x2 ≤ x1) →
    ((x3 < x1) →
     Q 0 σ) ∧
    ((x1 ≤ x3) →
     Q 1 σ))
theorem mt_X11_within {d : Nat} (hd : 0 ≤ d) {x1 : Int} {x2 : Int} {x3 : Int} {σ : Mem} {Q : Int → Mem → Prop} (hx1 : R32 x1) (hx2 : R32 x2) (hx3 : R32 x3) (hO : OKm σ) (h : wp_X11_within x1 x2 x3 σ Q) : Mt yX11_within cX11_within 3 (some .boolean) d [aI (x1), aI (x2), aI (x3)] σ (QI Q) := by
  refine Mt.intro (by decide +kernel) (Nat.le_of_ble_eq_true rfl) [(0, aI (x1)), (1, aI (x2)), (2, aI (x3))] rfl ?_
  unfold wp_X11_within at h
  refine G_iload_n 0 rfl rfl dX11_within_0 ?_
  refine G_iload_n 1 rfl rfl dX11_within_1 ?_
  refine G_icmp_lt hx1 hx2 dX11_within_2 (tgt := 14) (by decide) (fun c1 => ?_) (fun c1 => ?_)
  · have h := h.1 c1
    refine G_iconst dX11_within_14 ?_
    exact G_zret rfl (by decide) dX11_within_15 ⟨_, rfl, h⟩ hO
  · have h := h.2 c1
    refine G_iload_n 0 rfl rfl dX11_within_5 ?_
    refine G_iload_n 2 rfl rfl dX11_within_6 ?_
    refine G_icmp_gt hx1 hx3 dX11_within_7 (tgt := 14) (by decide) (fun c2 => ?_) (fun c2 => ?_)
    · have h := h.1 c2
      refine G_iconst dX11_within_14 ?_
      exact G_zret rfl (by decide) dX11_within_15 ⟨_, rfl, h⟩ hO
    · have h := h.2 c2
      refine G_iconst dX11_within_10 ?_
      refine G_goto (tgt := 15) dX11_within_11 (by decide) ?_
      exact G_zret rfl (by decide) dX11_within_15 ⟨_, rfl, h⟩ hO

theorem sp_X11_within (d : Nat) (hd : 0 ≤ d) (σ : Mem) (hO : OKm σ) (x1 : Int) (hx1 : R32 x1) (x2 : Int) (hx2 : R32 x2) (x3 : Int) (hx3 : R32 x3) : Mt yX11_within cX11_within 3 (some .boolean) d [aI (x1), aI (x2), aI (x3)] σ (QI (fun v σ' => bI (x2 ≤ x1 ∧ x1 ≤ x3) = v ∧ σ = σ')) := mt_X11_within hd hx1 hx2 hx3 hO (by
  unfold wp_X11_within
  grind [bI])

def wp_X11_isTown (x1 : Int) (σ : Mem) (Q : Int → Mem → Prop) : Prop :=
  Q (bI ((0 : Int) ≤ x1 ∧ x1 ≤ (7 : Int))) σ
theorem mt_X11_isTown {d : Nat} (hd : 1 ≤ d) {x1 : Int} {σ : Mem} {Q : Int → Mem → Prop} (hx1 : R32 x1) (hO : OKm σ) (h : wp_X11_isTown x1 σ Q) : Mt yX11_isTown cX11_isTown 1 (some .boolean) d [aI (x1)] σ (QI Q) := by
  refine Mt.intro (by decide +kernel) (Nat.le_of_ble_eq_true rfl) [(0, aI (x1))] rfl ?_
  unfold wp_X11_isTown at h
  refine G_iload_n 0 rfl rfl dX11_isTown_0 ?_
  refine G_iconst dX11_isTown_1 ?_
  refine G_bipush (by decide) dX11_isTown_2 ?_
  refine G_callS (as := [_, _, _]) cf_X11_107 rfl (sp_X11_within (d - 1) (by omega) _ hO _ hx1 _ (rL 0 rfl) _ (rL 7 rfl)) (by omega) rfl rfl (Nat.le_of_ble_eq_true rfl) dX11_isTown_4 ?_
  rintro _ _ ⟨_, rfl, rfl, rfl⟩ o2 r1
  exact G_zret rfl (bI_01 _) dX11_isTown_7 ⟨_, rfl, h⟩ hO

theorem sp_X11_isTown (d : Nat) (hd : 1 ≤ d) (σ : Mem) (hO : OKm σ) (x1 : Int) (hx1 : R32 x1) : Mt yX11_isTown cX11_isTown 1 (some .boolean) d [aI (x1)] σ (QI (fun v σ' => bI (0 ≤ x1 ∧ x1 ≤ 7) = v ∧ σ = σ')) := mt_X11_isTown hd hx1 hO (by
  unfold wp_X11_isTown
  grind [bI])

def wp_X11_areUnlikeTowns (x1 : Int) (x2 : Int) (σ : Mem) (Q : Int → Mem → Prop) : Prop :=
  ((¬ (0 ≤ x1 ∧ x1 ≤ 7)) →
    Q 0 σ) ∧
   ((0 ≤ x1 ∧ x1 ≤ 7) →
    ((¬ (0 ≤ x2 ∧ x2 ≤ 7)) →
     Q 0 σ) ∧
    ((0 ≤ x2 ∧ x2 ≤ 7) →
     ((x1 = x2) →
      Q 0 σ) ∧
     ((x1 ≠ x2) →
      Q 1 σ)))
theorem mt_X11_areUnlikeTowns {d : Nat} (hd : 2 ≤ d) {x1 : Int} {x2 : Int} {σ : Mem} {Q : Int → Mem → Prop} (hx1 : R32 x1) (hx2 : R32 x2) (hO : OKm σ) (h : wp_X11_areUnlikeTowns x1 x2 σ Q) : Mt yX11_areUnlikeTowns cX11_areUnlikeTowns 2 (some .boolean) d [aI (x1), aI (x2)] σ (QI Q) := by
  refine Mt.intro (by decide +kernel) (Nat.le_of_ble_eq_true rfl) [(0, aI (x1)), (1, aI (x2))] rfl ?_
  unfold wp_X11_areUnlikeTowns at h
  refine G_iload_n 0 rfl rfl dX11_areUnlikeTowns_0 ?_
  refine G_callS (as := [_]) cf_X11_103 rfl (sp_X11_isTown (d - 1) (by omega) _ hO _ hx1) (by omega) rfl rfl (Nat.le_of_ble_eq_true rfl) dX11_areUnlikeTowns_1 ?_
  rintro _ _ ⟨_, rfl, rfl, rfl⟩ o2 r1
  refine G_if_eq (bI_R _) dX11_areUnlikeTowns_4 (tgt := 23) (by decide) (fun c3 => ?_) (fun c3 => ?_)
  · have h := h.1 ((bI_0 _).mp c3)
    refine G_iconst dX11_areUnlikeTowns_23 ?_
    exact G_zret rfl (by decide) dX11_areUnlikeTowns_24 ⟨_, rfl, h⟩ hO
  · have h := h.2 (bI_ne c3)
    refine G_iload_n 1 rfl rfl dX11_areUnlikeTowns_7 ?_
    refine G_callS (as := [_]) cf_X11_103 rfl (sp_X11_isTown (d - 1) (by omega) _ hO _ hx2) (by omega) rfl rfl (Nat.le_of_ble_eq_true rfl) dX11_areUnlikeTowns_8 ?_
    rintro _ _ ⟨_, rfl, rfl, rfl⟩ o5 r4
    refine G_if_eq (bI_R _) dX11_areUnlikeTowns_11 (tgt := 23) (by decide) (fun c6 => ?_) (fun c6 => ?_)
    · have h := h.1 ((bI_0 _).mp c6)
      refine G_iconst dX11_areUnlikeTowns_23 ?_
      exact G_zret rfl (by decide) dX11_areUnlikeTowns_24 ⟨_, rfl, h⟩ hO
    · have h := h.2 (bI_ne c6)
      refine G_iload_n 0 rfl rfl dX11_areUnlikeTowns_14 ?_
      refine G_iload_n 1 rfl rfl dX11_areUnlikeTowns_15 ?_
      refine G_icmp_eq hx1 hx2 dX11_areUnlikeTowns_16 (tgt := 23) (by decide) (fun c7 => ?_) (fun c7 => ?_)
      · have h := h.1 c7
        refine G_iconst dX11_areUnlikeTowns_23 ?_
        exact G_zret rfl (by decide) dX11_areUnlikeTowns_24 ⟨_, rfl, h⟩ hO
      · have h := h.2 c7
        refine G_iconst dX11_areUnlikeTowns_19 ?_
        refine G_goto (tgt := 24) dX11_areUnlikeTowns_20 (by decide) ?_
        exact G_zret rfl (by decide) dX11_areUnlikeTowns_24 ⟨_, rfl, h⟩ hO

theorem sp_X11_areUnlikeTowns (d : Nat) (hd : 2 ≤ d) (σ : Mem) (hO : OKm σ) (x1 : Int) (hx1 : R32 x1) (x2 : Int) (hx2 : R32 x2) : Mt yX11_areUnlikeTowns cX11_areUnlikeTowns 2 (some .boolean) d [aI (x1), aI (x2)] σ (QI (fun v σ' => bI ((0 ≤ x1 ∧ x1 ≤ 7) ∧ (0 ≤ x2 ∧ x2 ≤ 7) ∧ x1 ≠ x2) = v ∧ σ = σ')) := mt_X11_areUnlikeTowns hd hx1 hx2 hO (by
  unfold wp_X11_areUnlikeTowns
  grind [bI])

def wp_X11_isText (x1 : Int) (σ : Mem) (Q : Int → Mem → Prop) : Prop :=
  R32 ((σ 1 10) - 1) ∧
   Q (bI ((0 : Int) ≤ x1 ∧ x1 ≤ ((σ 1 10) - 1))) σ
theorem mt_X11_isText {d : Nat} (hd : 1 ≤ d) {x1 : Int} {σ : Mem} {Q : Int → Mem → Prop} (hx1 : R32 x1) (hO : OKm σ) (h : wp_X11_isText x1 σ Q) : Mt yX11_isText cX11_isText 2 (some .boolean) d [aR (0), aI (x1)] σ (QI Q) := by
  refine Mt.intro (by decide +kernel) (Nat.le_of_ble_eq_true rfl) [(0, aR (0)), (1, aI (x1))] rfl ?_
  unfold wp_X11_isText at h
  refine G_iload_n 1 rfl rfl dX11_isText_0 ?_
  refine G_iconst dX11_isText_1 ?_
  refine G_aload_n 0 rfl rfl dX11_isText_2 ?_
  refine G_get (k := 0) (kd := (2, 1)) (v := aR 1) gf_X11_10 rfl rfl rfl rfl dX11_isText_3 ?_
  refine G_get (k := 10) (kd := (0, 0)) (v := aI (σ 1 10)) gf_X11_127 rfl rfl rfl rfl dX11_isText_6 ?_
  refine G_iconst dX11_isText_9 ?_
  refine G_isub dX11_isText_10 ?_
  obtain ⟨c1, h⟩ := h
  refine G_callS (as := [_, _, _]) cf_X11_107 rfl (sp_X11_within (d - 1) (by omega) _ hO _ hx1 _ (rL 0 rfl) _ c1) (by omega) rfl rfl (Nat.le_of_ble_eq_true rfl) dX11_isText_11 ?_
  rintro _ _ ⟨_, rfl, rfl, rfl⟩ o3 r2
  exact G_zret rfl (bI_01 _) dX11_isText_14 ⟨_, rfl, h⟩ hO

theorem sp_X11_isText (d : Nat) (hd : 1 ≤ d) (σ : Mem) (hO : OKm σ) (x1 : Int) (hx1 : R32 x1) (hpre : 0 ≤ σ 1 10) : Mt yX11_isText cX11_isText 2 (some .boolean) d [aR (0), aI (x1)] σ (QI (fun v σ' => bI (0 ≤ x1 ∧ x1 < σ 1 10) = v ∧ σ = σ')) := mt_X11_isText hd hx1 hO (by
  unfold wp_X11_isText
  have := hO.i 1 10 rfl
  unfold R32 at *
  grind [bI])

def wp_X10_hasRoad (x1 : Int) (σ : Mem) (Q : Int → Mem → Prop) : Prop :=
  ((x1 < 0) →
    Q 0 σ) ∧
   ((0 ≤ x1) →
    (((σ 1 8) ≤ x1) →
     Q 0 σ) ∧
    ((x1 < (σ 1 8)) →
     Q 1 σ))
theorem mt_X10_hasRoad {d : Nat} (hd : 0 ≤ d) {x1 : Int} {σ : Mem} {Q : Int → Mem → Prop} (hx1 : R32 x1) (hO : OKm σ) (h : wp_X10_hasRoad x1 σ Q) : Mt yX10_hasRoad cX10_hasRoad 2 (some .boolean) d [aR (1), aI (x1)] σ (QI Q) := by
  refine Mt.intro (by decide +kernel) (Nat.le_of_ble_eq_true rfl) [(0, aR (1)), (1, aI (x1))] rfl ?_
  unfold wp_X10_hasRoad at h
  refine G_iload_n 1 rfl rfl dX10_hasRoad_0 ?_
  refine G_if_lt hx1 dX10_hasRoad_1 (tgt := 16) (by decide) (fun c1 => ?_) (fun c1 => ?_)
  · have h := h.1 c1
    refine G_iconst dX10_hasRoad_16 ?_
    exact G_zret rfl (by decide) dX10_hasRoad_17 ⟨_, rfl, h⟩ hO
  · have h := h.2 c1
    refine G_iload_n 1 rfl rfl dX10_hasRoad_4 ?_
    refine G_aload_n 0 rfl rfl dX10_hasRoad_5 ?_
    refine G_get (k := 8) (kd := (0, 0)) (v := aI (σ 1 8)) gf_X10_36 rfl rfl rfl rfl dX10_hasRoad_6 ?_
    refine G_icmp_ge hx1 (OKm.i hO 1 8 rfl) dX10_hasRoad_9 (tgt := 16) (by decide) (fun c2 => ?_) (fun c2 => ?_)
    · have h := h.1 c2
      refine G_iconst dX10_hasRoad_16 ?_
      exact G_zret rfl (by decide) dX10_hasRoad_17 ⟨_, rfl, h⟩ hO
    · have h := h.2 c2
      refine G_iconst dX10_hasRoad_12 ?_
      refine G_goto (tgt := 17) dX10_hasRoad_13 (by decide) ?_
      exact G_zret rfl (by decide) dX10_hasRoad_17 ⟨_, rfl, h⟩ hO

theorem sp_X10_hasRoad (d : Nat) (hd : 0 ≤ d) (σ : Mem) (hO : OKm σ) (x1 : Int) (hx1 : R32 x1) : Mt yX10_hasRoad cX10_hasRoad 2 (some .boolean) d [aR (1), aI (x1)] σ (QI (fun v σ' => bI (0 ≤ x1 ∧ x1 < σ 1 8) = v ∧ σ = σ')) := mt_X10_hasRoad hd hx1 hO (by
  unfold wp_X10_hasRoad
  grind [bI])

def wp_X10_hasRoad_i (x1 : Int) (σ : Mem) (Q : Int → Mem → Prop) : Prop :=
  ((x1 < 0) →
    Q 0 σ) ∧
   ((0 ≤ x1) →
    (((σ 17 8) ≤ x1) →
     Q 0 σ) ∧
    ((x1 < (σ 17 8)) →
     Q 1 σ))
theorem mt_X10_hasRoad_i {d : Nat} (hd : 0 ≤ d) {x1 : Int} {σ : Mem} {Q : Int → Mem → Prop} (hx1 : R32 x1) (hO : OKm σ) (h : wp_X10_hasRoad_i x1 σ Q) : Mt yX10_hasRoad cX10_hasRoad 2 (some .boolean) d [aR (17), aI (x1)] σ (QI Q) := by
  refine Mt.intro (by decide +kernel) (Nat.le_of_ble_eq_true rfl) [(0, aR (17)), (1, aI (x1))] rfl ?_
  unfold wp_X10_hasRoad_i at h
  refine G_iload_n 1 rfl rfl dX10_hasRoad_0 ?_
  refine G_if_lt hx1 dX10_hasRoad_1 (tgt := 16) (by decide) (fun c1 => ?_) (fun c1 => ?_)
  · have h := h.1 c1
    refine G_iconst dX10_hasRoad_16 ?_
    exact G_zret rfl (by decide) dX10_hasRoad_17 ⟨_, rfl, h⟩ hO
  · have h := h.2 c1
    refine G_iload_n 1 rfl rfl dX10_hasRoad_4 ?_
    refine G_aload_n 0 rfl rfl dX10_hasRoad_5 ?_
    refine G_get (k := 8) (kd := (0, 0)) (v := aI (σ 17 8)) gf_X10_36 rfl rfl rfl rfl dX10_hasRoad_6 ?_
    refine G_icmp_ge hx1 (OKm.i hO 17 8 rfl) dX10_hasRoad_9 (tgt := 16) (by decide) (fun c2 => ?_) (fun c2 => ?_)
    · have h := h.1 c2
      refine G_iconst dX10_hasRoad_16 ?_
      exact G_zret rfl (by decide) dX10_hasRoad_17 ⟨_, rfl, h⟩ hO
    · have h := h.2 c2
      refine G_iconst dX10_hasRoad_12 ?_
      refine G_goto (tgt := 17) dX10_hasRoad_13 (by decide) ?_
      exact G_zret rfl (by decide) dX10_hasRoad_17 ⟨_, rfl, h⟩ hO

theorem sp_X10_hasRoad_i (d : Nat) (hd : 0 ≤ d) (σ : Mem) (hO : OKm σ) (x1 : Int) (hx1 : R32 x1) : Mt yX10_hasRoad cX10_hasRoad 2 (some .boolean) d [aR (17), aI (x1)] σ (QI (fun v σ' => bI (0 ≤ x1 ∧ x1 < σ 17 8) = v ∧ σ = σ')) := mt_X10_hasRoad_i hd hx1 hO (by
  unfold wp_X10_hasRoad_i
  grind [bI])

def wp_X10_hasGoer (x1 : Int) (σ : Mem) (Q : Int → Mem → Prop) : Prop :=
  ((x1 < 0) →
    Q 0 σ) ∧
   ((0 ≤ x1) →
    (((σ 1 9) ≤ x1) →
     Q 0 σ) ∧
    ((x1 < (σ 1 9)) →
     Q 1 σ))
theorem mt_X10_hasGoer {d : Nat} (hd : 0 ≤ d) {x1 : Int} {σ : Mem} {Q : Int → Mem → Prop} (hx1 : R32 x1) (hO : OKm σ) (h : wp_X10_hasGoer x1 σ Q) : Mt yX10_hasGoer cX10_hasGoer 2 (some .boolean) d [aR (1), aI (x1)] σ (QI Q) := by
  refine Mt.intro (by decide +kernel) (Nat.le_of_ble_eq_true rfl) [(0, aR (1)), (1, aI (x1))] rfl ?_
  unfold wp_X10_hasGoer at h
  refine G_iload_n 1 rfl rfl dX10_hasGoer_0 ?_
  refine G_if_lt hx1 dX10_hasGoer_1 (tgt := 16) (by decide) (fun c1 => ?_) (fun c1 => ?_)
  · have h := h.1 c1
    refine G_iconst dX10_hasGoer_16 ?_
    exact G_zret rfl (by decide) dX10_hasGoer_17 ⟨_, rfl, h⟩ hO
  · have h := h.2 c1
    refine G_iload_n 1 rfl rfl dX10_hasGoer_4 ?_
    refine G_aload_n 0 rfl rfl dX10_hasGoer_5 ?_
    refine G_get (k := 9) (kd := (0, 0)) (v := aI (σ 1 9)) gf_X10_40 rfl rfl rfl rfl dX10_hasGoer_6 ?_
    refine G_icmp_ge hx1 (OKm.i hO 1 9 rfl) dX10_hasGoer_9 (tgt := 16) (by decide) (fun c2 => ?_) (fun c2 => ?_)
    · have h := h.1 c2
      refine G_iconst dX10_hasGoer_16 ?_
      exact G_zret rfl (by decide) dX10_hasGoer_17 ⟨_, rfl, h⟩ hO
    · have h := h.2 c2
      refine G_iconst dX10_hasGoer_12 ?_
      refine G_goto (tgt := 17) dX10_hasGoer_13 (by decide) ?_
      exact G_zret rfl (by decide) dX10_hasGoer_17 ⟨_, rfl, h⟩ hO

theorem sp_X10_hasGoer (d : Nat) (hd : 0 ≤ d) (σ : Mem) (hO : OKm σ) (x1 : Int) (hx1 : R32 x1) : Mt yX10_hasGoer cX10_hasGoer 2 (some .boolean) d [aR (1), aI (x1)] σ (QI (fun v σ' => bI (0 ≤ x1 ∧ x1 < σ 1 9) = v ∧ σ = σ')) := mt_X10_hasGoer hd hx1 hO (by
  unfold wp_X10_hasGoer
  grind [bI])

def wp_X10_touches (x1 : Int) (x2 : Int) (σ : Mem) (Q : Int → Mem → Prop) : Prop :=
  (0 ≤ x1 ∧ x1 < 16) ∧
   (((σ 2 x1) = x2) →
    Q 1 σ) ∧
   (((σ 2 x1) ≠ x2) →
    (0 ≤ x1 ∧ x1 < 16) ∧
    (((σ 3 x1) ≠ x2) →
     Q 0 σ) ∧
    (((σ 3 x1) = x2) →
     Q 1 σ))
theorem mt_X10_touches {d : Nat} (hd : 0 ≤ d) {x1 : Int} {x2 : Int} {σ : Mem} {Q : Int → Mem → Prop} (hx1 : R32 x1) (hx2 : R32 x2) (hO : OKm σ) (h : wp_X10_touches x1 x2 σ Q) : Mt yX10_touches cX10_touches 3 (some .boolean) d [aR (1), aI (x1), aI (x2)] σ (QI Q) := by
  refine Mt.intro (by decide +kernel) (Nat.le_of_ble_eq_true rfl) [(0, aR (1)), (1, aI (x1)), (2, aI (x2))] rfl ?_
  unfold wp_X10_touches at h
  refine G_aload_n 0 rfl rfl dX10_touches_0 ?_
  refine G_get (k := 0) (kd := (3, 1)) (v := aR (2)) gf_X10_9 rfl rfl rfl rfl dX10_touches_1 ?_
  refine G_iload_n 1 rfl rfl dX10_touches_4 ?_
  obtain ⟨c1, h⟩ := h
  refine G_iald (n := 16) rfl c1.1 c1.2 dX10_touches_5 ?_
  refine G_iload_n 2 rfl rfl dX10_touches_6 ?_
  refine G_icmp_eq (OKm.i hO 2 x1 (isLg_row (show shp 2 = (1, 16, []) from rfl) _)) hx2 dX10_touches_7 (tgt := 20) (by decide) (fun c2 => ?_) (fun c2 => ?_)
  · have h := h.1 c2
    refine G_iconst dX10_touches_20 ?_
    refine G_goto (tgt := 25) dX10_touches_21 (by decide) ?_
    exact G_zret rfl (by decide) dX10_touches_25 ⟨_, rfl, h⟩ hO
  · have h := h.2 c2
    refine G_aload_n 0 rfl rfl dX10_touches_10 ?_
    refine G_get (k := 1) (kd := (3, 2)) (v := aR (3)) gf_X10_15 rfl rfl rfl rfl dX10_touches_11 ?_
    refine G_iload_n 1 rfl rfl dX10_touches_14 ?_
    obtain ⟨c3, h⟩ := h
    refine G_iald (n := 16) rfl c3.1 c3.2 dX10_touches_15 ?_
    refine G_iload_n 2 rfl rfl dX10_touches_16 ?_
    refine G_icmp_ne (OKm.i hO 3 x1 (isLg_row (show shp 3 = (1, 16, []) from rfl) _)) hx2 dX10_touches_17 (tgt := 24) (by decide) (fun c4 => ?_) (fun c4 => ?_)
    · have h := h.1 c4
      refine G_iconst dX10_touches_24 ?_
      exact G_zret rfl (by decide) dX10_touches_25 ⟨_, rfl, h⟩ hO
    · have h := h.2 c4
      refine G_iconst dX10_touches_20 ?_
      refine G_goto (tgt := 25) dX10_touches_21 (by decide) ?_
      exact G_zret rfl (by decide) dX10_touches_25 ⟨_, rfl, h⟩ hO

theorem sp_X10_touches (d : Nat) (hd : 0 ≤ d) (σ : Mem) (hO : OKm σ) (x1 : Int) (hx1 : R32 x1) (x2 : Int) (hx2 : R32 x2) (hpre : 0 ≤ x1 ∧ x1 < 16) : Mt yX10_touches cX10_touches 3 (some .boolean) d [aR (1), aI (x1), aI (x2)] σ (QI (fun v σ' => bI (σ 2 x1 = x2 ∨ σ 3 x1 = x2) = v ∧ σ = σ')) := mt_X10_touches hd hx1 hx2 hO (by
  unfold wp_X10_touches
  grind [bI])

def wp_X10_across (x1 : Int) (x2 : Int) (σ : Mem) (Q : Int → Mem → Prop) : Prop :=
  (0 ≤ x1 ∧ x1 < 16) ∧
   (((σ 2 x1) ≠ x2) →
    (0 ≤ x1 ∧ x1 < 16) ∧
    Q (σ 2 x1) σ) ∧
   (((σ 2 x1) = x2) →
    (0 ≤ x1 ∧ x1 < 16) ∧
    Q (σ 3 x1) σ)
theorem mt_X10_across {d : Nat} (hd : 0 ≤ d) {x1 : Int} {x2 : Int} {σ : Mem} {Q : Int → Mem → Prop} (hx1 : R32 x1) (hx2 : R32 x2) (hO : OKm σ) (h : wp_X10_across x1 x2 σ Q) : Mt yX10_across cX10_across 3 (some .int) d [aR (1), aI (x1), aI (x2)] σ (QI Q) := by
  refine Mt.intro (by decide +kernel) (Nat.le_of_ble_eq_true rfl) [(0, aR (1)), (1, aI (x1)), (2, aI (x2))] rfl ?_
  unfold wp_X10_across at h
  refine G_aload_n 0 rfl rfl dX10_across_0 ?_
  refine G_get (k := 0) (kd := (3, 1)) (v := aR (2)) gf_X10_9 rfl rfl rfl rfl dX10_across_1 ?_
  refine G_iload_n 1 rfl rfl dX10_across_4 ?_
  obtain ⟨c1, h⟩ := h
  refine G_iald (n := 16) rfl c1.1 c1.2 dX10_across_5 ?_
  refine G_iload_n 2 rfl rfl dX10_across_6 ?_
  refine G_icmp_ne (OKm.i hO 2 x1 (isLg_row (show shp 2 = (1, 16, []) from rfl) _)) hx2 dX10_across_7 (tgt := 19) (by decide) (fun c2 => ?_) (fun c2 => ?_)
  · have h := h.1 c2
    refine G_aload_n 0 rfl rfl dX10_across_19 ?_
    refine G_get (k := 0) (kd := (3, 1)) (v := aR (2)) gf_X10_9 rfl rfl rfl rfl dX10_across_20 ?_
    refine G_iload_n 1 rfl rfl dX10_across_23 ?_
    obtain ⟨c3, h⟩ := h
    refine G_iald (n := 16) rfl c3.1 c3.2 dX10_across_24 ?_
    exact G_iret rfl (OKm.i hO 2 x1 (isLg_row (show shp 2 = (1, 16, []) from rfl) _)) dX10_across_25 ⟨_, rfl, h⟩ hO
  · have h := h.2 c2
    refine G_aload_n 0 rfl rfl dX10_across_10 ?_
    refine G_get (k := 1) (kd := (3, 2)) (v := aR (3)) gf_X10_15 rfl rfl rfl rfl dX10_across_11 ?_
    refine G_iload_n 1 rfl rfl dX10_across_14 ?_
    obtain ⟨c4, h⟩ := h
    refine G_iald (n := 16) rfl c4.1 c4.2 dX10_across_15 ?_
    refine G_goto (tgt := 25) dX10_across_16 (by decide) ?_
    exact G_iret rfl (OKm.i hO 3 x1 (isLg_row (show shp 3 = (1, 16, []) from rfl) _)) dX10_across_25 ⟨_, rfl, h⟩ hO

theorem sp_X10_across (d : Nat) (hd : 0 ≤ d) (σ : Mem) (hO : OKm σ) (x1 : Int) (hx1 : R32 x1) (x2 : Int) (hx2 : R32 x2) (hpre : 0 ≤ x1 ∧ x1 < 16) : Mt yX10_across cX10_across 3 (some .int) d [aR (1), aI (x1), aI (x2)] σ (QI (fun v σ' => (if σ 2 x1 = x2 then σ 3 x1 else σ 2 x1) = v ∧ σ = σ')) := mt_X10_across hd hx1 hx2 hO (by
  unfold wp_X10_across
  grind [bI])

def wp_X12_isIn (x1 : Int) (x2 : Int) (x3 : Int) (σ : Mem) (Q : Int → Mem → Prop) : Prop :=
  ((x1 < x2) →
    Q 0 σ) ∧
   ((x2 ≤ x1) →
    ((x3 < x1) →
     Q 0 σ) ∧
    ((x1 ≤ x3) →
     Q 1 σ))
theorem mt_X12_isIn {d : Nat} (hd : 0 ≤ d) {x1 : Int} {x2 : Int} {x3 : Int} {σ : Mem} {Q : Int → Mem → Prop} (hx1 : R32 x1) (hx2 : R32 x2) (hx3 : R32 x3) (hO : OKm σ) (h : wp_X12_isIn x1 x2 x3 σ Q) : Mt yX12_isIn cX12_isIn 3 (some .boolean) d [aI (x1), aI (x2), aI (x3)] σ (QI Q) := by
  refine Mt.intro (by decide +kernel) (Nat.le_of_ble_eq_true rfl) [(0, aI (x1)), (1, aI (x2)), (2, aI (x3))] rfl ?_
  unfold wp_X12_isIn at h
  refine G_iload_n 0 rfl rfl dX12_isIn_0 ?_
  refine G_iload_n 1 rfl rfl dX12_isIn_1 ?_
  refine G_icmp_lt hx1 hx2 dX12_isIn_2 (tgt := 14) (by decide) (fun c1 => ?_) (fun c1 => ?_)
  · have h := h.1 c1
    refine G_iconst dX12_isIn_14 ?_
    exact G_zret rfl (by decide) dX12_isIn_15 ⟨_, rfl, h⟩ hO
  · have h := h.2 c1
    refine G_iload_n 0 rfl rfl dX12_isIn_5 ?_
    refine G_iload_n 2 rfl rfl dX12_isIn_6 ?_
    refine G_icmp_gt hx1 hx3 dX12_isIn_7 (tgt := 14) (by decide) (fun c2 => ?_) (fun c2 => ?_)
    · have h := h.1 c2
      refine G_iconst dX12_isIn_14 ?_
      exact G_zret rfl (by decide) dX12_isIn_15 ⟨_, rfl, h⟩ hO
    · have h := h.2 c2
      refine G_iconst dX12_isIn_10 ?_
      refine G_goto (tgt := 15) dX12_isIn_11 (by decide) ?_
      exact G_zret rfl (by decide) dX12_isIn_15 ⟨_, rfl, h⟩ hO

theorem sp_X12_isIn (d : Nat) (hd : 0 ≤ d) (σ : Mem) (hO : OKm σ) (x1 : Int) (hx1 : R32 x1) (x2 : Int) (hx2 : R32 x2) (x3 : Int) (hx3 : R32 x3) : Mt yX12_isIn cX12_isIn 3 (some .boolean) d [aI (x1), aI (x2), aI (x3)] σ (QI (fun v σ' => bI (x2 ≤ x1 ∧ x1 ≤ x3) = v ∧ σ = σ')) := mt_X12_isIn hd hx1 hx2 hx3 hO (by
  unfold wp_X12_isIn
  grind [bI])

def wp_X12_isTown (x1 : Int) (σ : Mem) (Q : Int → Mem → Prop) : Prop :=
  Q (bI ((0 : Int) ≤ x1 ∧ x1 ≤ (7 : Int))) σ
theorem mt_X12_isTown {d : Nat} (hd : 1 ≤ d) {x1 : Int} {σ : Mem} {Q : Int → Mem → Prop} (hx1 : R32 x1) (hO : OKm σ) (h : wp_X12_isTown x1 σ Q) : Mt yX12_isTown cX12_isTown 1 (some .boolean) d [aI (x1)] σ (QI Q) := by
  refine Mt.intro (by decide +kernel) (Nat.le_of_ble_eq_true rfl) [(0, aI (x1))] rfl ?_
  unfold wp_X12_isTown at h
  refine G_iload_n 0 rfl rfl dX12_isTown_0 ?_
  refine G_iconst dX12_isTown_1 ?_
  refine G_bipush (by decide) dX12_isTown_2 ?_
  refine G_callS (as := [_, _, _]) cf_X12_81 rfl (sp_X12_isIn (d - 1) (by omega) _ hO _ hx1 _ (rL 0 rfl) _ (rL 7 rfl)) (by omega) rfl rfl (Nat.le_of_ble_eq_true rfl) dX12_isTown_4 ?_
  rintro _ _ ⟨_, rfl, rfl, rfl⟩ o2 r1
  exact G_zret rfl (bI_01 _) dX12_isTown_7 ⟨_, rfl, h⟩ hO

theorem sp_X12_isTown (d : Nat) (hd : 1 ≤ d) (σ : Mem) (hO : OKm σ) (x1 : Int) (hx1 : R32 x1) : Mt yX12_isTown cX12_isTown 1 (some .boolean) d [aI (x1)] σ (QI (fun v σ' => bI (0 ≤ x1 ∧ x1 ≤ 7) = v ∧ σ = σ')) := mt_X12_isTown hd hx1 hO (by
  unfold wp_X12_isTown
  grind [bI])

def wp_X12_isRoad (x1 : Int) (σ : Mem) (Q : Int → Mem → Prop) : Prop :=
  R32 ((σ 75 0) - 1) ∧
   Q (bI ((0 : Int) ≤ x1 ∧ x1 ≤ ((σ 75 0) - 1))) σ
theorem mt_X12_isRoad {d : Nat} (hd : 1 ≤ d) {x1 : Int} {σ : Mem} {Q : Int → Mem → Prop} (hx1 : R32 x1) (hO : OKm σ) (h : wp_X12_isRoad x1 σ Q) : Mt yX12_isRoad cX12_isRoad 2 (some .boolean) d [aR (74), aI (x1)] σ (QI Q) := by
  refine Mt.intro (by decide +kernel) (Nat.le_of_ble_eq_true rfl) [(0, aR (74)), (1, aI (x1))] rfl ?_
  unfold wp_X12_isRoad at h
  refine G_iload_n 1 rfl rfl dX12_isRoad_0 ?_
  refine G_iconst dX12_isRoad_1 ?_
  refine G_aload_n 0 rfl rfl dX12_isRoad_2 ?_
  refine G_get (k := 0) (kd := (2, 75)) (v := aR 75) gf_X12_7 rfl rfl rfl rfl dX12_isRoad_3 ?_
  refine G_iconst dX12_isRoad_6 ?_
  refine G_iald (n := 2119) rfl (by decide) (by decide) dX12_isRoad_7 ?_
  refine G_iconst dX12_isRoad_8 ?_
  refine G_isub dX12_isRoad_9 ?_
  obtain ⟨c1, h⟩ := h
  refine G_callS (as := [_, _, _]) cf_X12_81 rfl (sp_X12_isIn (d - 1) (by omega) _ hO _ hx1 _ (rL 0 rfl) _ c1) (by omega) rfl rfl (Nat.le_of_ble_eq_true rfl) dX12_isRoad_10 ?_
  rintro _ _ ⟨_, rfl, rfl, rfl⟩ o3 r2
  exact G_zret rfl (bI_01 _) dX12_isRoad_13 ⟨_, rfl, h⟩ hO

theorem sp_X12_isRoad (d : Nat) (hd : 1 ≤ d) (σ : Mem) (hO : OKm σ) (x1 : Int) (hx1 : R32 x1) (hpre : 0 ≤ σ 75 0) : Mt yX12_isRoad cX12_isRoad 2 (some .boolean) d [aR (74), aI (x1)] σ (QI (fun v σ' => bI (0 ≤ x1 ∧ x1 < σ 75 0) = v ∧ σ = σ')) := mt_X12_isRoad hd hx1 hO (by
  unfold wp_X12_isRoad
  have := hO.i 75 0 rfl
  unfold R32 at *
  grind [bI])

def wp_X12_isGoer (x1 : Int) (σ : Mem) (Q : Int → Mem → Prop) : Prop :=
  R32 ((σ 75 1) - 1) ∧
   Q (bI ((0 : Int) ≤ x1 ∧ x1 ≤ ((σ 75 1) - 1))) σ
theorem mt_X12_isGoer {d : Nat} (hd : 1 ≤ d) {x1 : Int} {σ : Mem} {Q : Int → Mem → Prop} (hx1 : R32 x1) (hO : OKm σ) (h : wp_X12_isGoer x1 σ Q) : Mt yX12_isGoer cX12_isGoer 2 (some .boolean) d [aR (74), aI (x1)] σ (QI Q) := by
  refine Mt.intro (by decide +kernel) (Nat.le_of_ble_eq_true rfl) [(0, aR (74)), (1, aI (x1))] rfl ?_
  unfold wp_X12_isGoer at h
  refine G_iload_n 1 rfl rfl dX12_isGoer_0 ?_
  refine G_iconst dX12_isGoer_1 ?_
  refine G_aload_n 0 rfl rfl dX12_isGoer_2 ?_
  refine G_get (k := 0) (kd := (2, 75)) (v := aR 75) gf_X12_7 rfl rfl rfl rfl dX12_isGoer_3 ?_
  refine G_iconst dX12_isGoer_6 ?_
  refine G_iald (n := 2119) rfl (by decide) (by decide) dX12_isGoer_7 ?_
  refine G_iconst dX12_isGoer_8 ?_
  refine G_isub dX12_isGoer_9 ?_
  obtain ⟨c1, h⟩ := h
  refine G_callS (as := [_, _, _]) cf_X12_81 rfl (sp_X12_isIn (d - 1) (by omega) _ hO _ hx1 _ (rL 0 rfl) _ c1) (by omega) rfl rfl (Nat.le_of_ble_eq_true rfl) dX12_isGoer_10 ?_
  rintro _ _ ⟨_, rfl, rfl, rfl⟩ o3 r2
  exact G_zret rfl (bI_01 _) dX12_isGoer_13 ⟨_, rfl, h⟩ hO

theorem sp_X12_isGoer (d : Nat) (hd : 1 ≤ d) (σ : Mem) (hO : OKm σ) (x1 : Int) (hx1 : R32 x1) (hpre : 0 ≤ σ 75 1) : Mt yX12_isGoer cX12_isGoer 2 (some .boolean) d [aR (74), aI (x1)] σ (QI (fun v σ' => bI (0 ≤ x1 ∧ x1 < σ 75 1) = v ∧ σ = σ')) := mt_X12_isGoer hd hx1 hO (by
  unfold wp_X12_isGoer
  have := hO.i 75 1 rfl
  unfold R32 at *
  grind [bI])

def wp_X12_told (x1 : Int) (x2 : Int) (σ : Mem) (Q : Int → Mem → Prop) : Prop :=
  (0 ≤ ((39 + (4 * x1)) + x2) ∧ ((39 + (4 * x1)) + x2) < 2119) ∧
   Q (σ 75 ((39 + (4 * x1)) + x2)) σ
theorem mt_X12_told {d : Nat} (hd : 0 ≤ d) {x1 : Int} {x2 : Int} {σ : Mem} {Q : Int → Mem → Prop} (hx1 : R32 x1) (hx2 : R32 x2) (hO : OKm σ) (h : wp_X12_told x1 x2 σ Q) : Mt yX12_told cX12_told 3 (some .int) d [aR (74), aI (x1), aI (x2)] σ (QI Q) := by
  refine Mt.intro (by decide +kernel) (Nat.le_of_ble_eq_true rfl) [(0, aR (74)), (1, aI (x1)), (2, aI (x2))] rfl ?_
  unfold wp_X12_told at h
  refine G_aload_n 0 rfl rfl dX12_told_0 ?_
  refine G_get (k := 0) (kd := (2, 75)) (v := aR 75) gf_X12_7 rfl rfl rfl rfl dX12_told_1 ?_
  refine G_bipush (by decide) dX12_told_4 ?_
  refine G_iconst dX12_told_6 ?_
  refine G_iload_n 1 rfl rfl dX12_told_7 ?_
  refine G_imul dX12_told_8 ?_
  refine G_iadd dX12_told_9 ?_
  refine G_iload_n 2 rfl rfl dX12_told_10 ?_
  refine G_iadd dX12_told_11 ?_
  obtain ⟨c1, h⟩ := h
  refine G_iald (n := 2119) rfl c1.1 c1.2 dX12_told_12 ?_
  exact G_iret rfl (OKm.i hO 75 ((39 + (4 * x1)) + x2) (isLg_row (show shp 75 = (1, 2119, []) from rfl) _)) dX12_told_13 ⟨_, rfl, h⟩ hO

theorem sp_X12_told (d : Nat) (hd : 0 ≤ d) (σ : Mem) (hO : OKm σ) (x1 : Int) (hx1 : R32 x1) (x2 : Int) (hx2 : R32 x2) (hpre : 0 ≤ x1 ∧ x1 < 16 ∧ 0 ≤ x2 ∧ x2 < 4) : Mt yX12_told cX12_told 3 (some .int) d [aR (74), aI (x1), aI (x2)] σ (QI (fun v σ' => (σ 75 (39 + 4 * x1 + x2)) = v ∧ σ = σ')) := mt_X12_told hd hx1 hx2 hO (by
  unfold wp_X12_told
  unfold R32 at *
  grind [bI])

def wp_X12_held (x1 : Int) (x2 : Int) (x3 : Int) (σ : Mem) (Q : Int → Mem → Prop) : Prop :=
  ((x2 ≤ x1) →
    ((x1 ≤ x3) →
     R32 x1 ∧
     Q x1 σ) ∧
    ((x3 < x1) →
     Q x3 σ)) ∧
   ((x1 < x2) →
    Q x2 σ)
theorem mt_X12_held {d : Nat} (hd : 0 ≤ d) {x1 : Int} {x2 : Int} {x3 : Int} {σ : Mem} {Q : Int → Mem → Prop} (hx1 : R64 x1) (hx2 : R32 x2) (hx3 : R32 x3) (hO : OKm σ) (h : wp_X12_held x1 x2 x3 σ Q) : Mt yX12_held cX12_held 4 (some .int) d [aL (x1), aI (x2), aI (x3)] σ (QI Q) := by
  refine Mt.intro (by decide +kernel) (Nat.le_of_ble_eq_true rfl) [(0, aL (x1)), (2, aI (x2)), (3, aI (x3))] rfl ?_
  unfold wp_X12_held at h
  refine G_lload_n 0 rfl rfl dX12_held_0 ?_
  refine G_iload_n 1 rfl rfl dX12_held_1 ?_
  refine G_i2l hx2 dX12_held_2 ?_
  refine G_lcmp_ge hx1 (r32_64 hx2) dX12_held_3 dX12_held_4 (tgt := 11) (by decide) (fun c1 => ?_) (fun c1 => ?_)
  · have h := h.1 c1
    refine G_lload_n 0 rfl rfl dX12_held_11 ?_
    refine G_iload_n 2 rfl rfl dX12_held_12 ?_
    refine G_i2l hx3 dX12_held_13 ?_
    refine G_lcmp_le hx1 (r32_64 hx3) dX12_held_14 dX12_held_15 (tgt := 22) (by decide) (fun c2 => ?_) (fun c2 => ?_)
    · have h := h.1 c2
      refine G_lload_n 0 rfl rfl dX12_held_22 ?_
      refine G_l2i dX12_held_23 ?_
      obtain ⟨c3, h⟩ := h
      exact G_iret rfl c3 dX12_held_24 ⟨_, rfl, h⟩ hO
    · have h := h.2 c2
      refine G_iload_n 2 rfl rfl dX12_held_18 ?_
      refine G_goto (tgt := 24) dX12_held_19 (by decide) ?_
      exact G_iret rfl hx3 dX12_held_24 ⟨_, rfl, h⟩ hO
  · have h := h.2 c1
    refine G_iload_n 1 rfl rfl dX12_held_7 ?_
    refine G_goto (tgt := 24) dX12_held_8 (by decide) ?_
    exact G_iret rfl hx2 dX12_held_24 ⟨_, rfl, h⟩ hO

theorem sp_X12_held (d : Nat) (hd : 0 ≤ d) (σ : Mem) (hO : OKm σ) (x1 : Int) (hx1 : R64 x1) (x2 : Int) (hx2 : R32 x2) (x3 : Int) (hx3 : R32 x3) : Mt yX12_held cX12_held 4 (some .int) d [aL (x1), aI (x2), aI (x3)] σ (QI (fun v σ' => (if x1 < x2 then x2 else if x1 > x3 then x3 else x1) = v ∧ σ = σ')) := mt_X12_held hd hx1 hx2 hx3 hO (by
  unfold wp_X12_held
  unfold R32 at *
  grind [bI])

def wp_X12_end (x1 : Int) (σ : Mem) (Q : Int → Mem → Prop) : Prop :=
  (((0 : Int) ≤ x1 ∧ x1 ≤ (σ 74 4)) →
    ∀ σ4 : Mem, σ4 = mset σ 74 4 x1 →
    Q x1 σ4) ∧
   ((¬ ((0 : Int) ≤ x1 ∧ x1 ≤ (σ 74 4))) →
    Q (-1) σ)
theorem mt_X12_end {d : Nat} (hd : 1 ≤ d) {x1 : Int} {σ : Mem} {Q : Int → Mem → Prop} (hx1 : R32 x1) (hO : OKm σ) (h : wp_X12_end x1 σ Q) : Mt yX12_end cX12_end 2 (some .int) d [aR (74), aI (x1)] σ (QI Q) := by
  refine Mt.intro (by decide +kernel) (Nat.le_of_ble_eq_true rfl) [(0, aR (74)), (1, aI (x1))] rfl ?_
  unfold wp_X12_end at h
  refine G_iload_n 1 rfl rfl dX12_end_0 ?_
  refine G_iconst dX12_end_1 ?_
  refine G_aload_n 0 rfl rfl dX12_end_2 ?_
  refine G_get (k := 4) (kd := (0, 0)) (v := aI (σ 74 4)) gf_X12_97 rfl rfl rfl rfl dX12_end_3 ?_
  refine G_callS (as := [_, _, _]) cf_X12_81 rfl (sp_X12_isIn (d - 1) (by omega) _ hO _ hx1 _ (rL 0 rfl) _ (OKm.i hO 74 4 rfl)) (by omega) rfl rfl (Nat.le_of_ble_eq_true rfl) dX12_end_6 ?_
  rintro _ _ ⟨_, rfl, rfl, rfl⟩ o2 r1
  refine G_if_ne (bI_R _) dX12_end_9 (tgt := 14) (by decide) (fun c3 => ?_) (fun c3 => ?_)
  · have h := h.1 (bI_ne c3)
    refine G_aload_n 0 rfl rfl dX12_end_14 ?_
    refine G_iload_n 1 rfl rfl dX12_end_15 ?_
    obtain ⟨σ4, e6⟩ : ∃ τ : Mem, τ = mset σ 74 4 x1 := ⟨_, rfl⟩
    have h := h σ4 e6
    have o5 : OKm σ4 := by rw [e6]; exact OKm.seti hO _ _ _ hx1 rfl
    refine G_put (k := 4) (ki := 4) (kd := (0, 0)) (x := _) pf_X12_97 rfl rfl rfl rfl (fa_i (mset_self _ _ _ _)) (fun _ => rfl) (fun _ => rfl) dX12_end_16 ?_
    rw [← e6]
    refine G_iload_n 1 rfl rfl dX12_end_19 ?_
    exact G_iret rfl hx1 dX12_end_20 ⟨_, rfl, h⟩ o5
  · have h := h.2 ((bI_0 _).mp c3)
    refine G_iconst dX12_end_12 ?_
    exact G_iret rfl (rL (-1) rfl) dX12_end_13 ⟨_, rfl, h⟩ hO

theorem sp_X12_end (d : Nat) (hd : 1 ≤ d) (σ : Mem) (hO : OKm σ) (x1 : Int) (hx1 : R32 x1) : Mt yX12_end cX12_end 2 (some .int) d [aR (74), aI (x1)] σ (QI (fun v σ' => v = (if 0 ≤ x1 ∧ x1 ≤ σ 74 4 then x1 else -1) ∧ σ' = (if 0 ≤ x1 ∧ x1 ≤ σ 74 4 then mset σ 74 4 x1 else σ))) := mt_X12_end hd hx1 hO (by
  unfold wp_X12_end
  grind [bI])

def wp_X11_end (x1 : Int) (σ : Mem) (Q : Int → Mem → Prop) : Prop :=
  (((0 : Int) ≤ x1 ∧ x1 ≤ (σ 30 1)) →
    ∀ σ4 : Mem, σ4 = mset σ 30 1 x1 →
    Q x1 σ4) ∧
   ((¬ ((0 : Int) ≤ x1 ∧ x1 ≤ (σ 30 1))) →
    Q (-1) σ)
theorem mt_X11_end {d : Nat} (hd : 1 ≤ d) {x1 : Int} {σ : Mem} {Q : Int → Mem → Prop} (hx1 : R32 x1) (hO : OKm σ) (h : wp_X11_end x1 σ Q) : Mt yX11_end cX11_end 2 (some .int) d [aR (0), aI (x1)] σ (QI Q) := by
  refine Mt.intro (by decide +kernel) (Nat.le_of_ble_eq_true rfl) [(0, aR (0)), (1, aI (x1))] rfl ?_
  unfold wp_X11_end at h
  refine G_iload_n 1 rfl rfl dX11_end_0 ?_
  refine G_iconst dX11_end_1 ?_
  refine G_aload_n 0 rfl rfl dX11_end_2 ?_
  refine G_get (k := 7) (kd := (2, 30)) (v := aR 30) gf_X11_49 rfl rfl rfl rfl dX11_end_3 ?_
  refine G_get (k := 1) (kd := (0, 0)) (v := aI (σ 30 1)) gf_X11_119 rfl rfl rfl rfl dX11_end_6 ?_
  refine G_callS (as := [_, _, _]) cf_X11_107 rfl (sp_X11_within (d - 1) (by omega) _ hO _ hx1 _ (rL 0 rfl) _ (OKm.i hO 30 1 rfl)) (by omega) rfl rfl (Nat.le_of_ble_eq_true rfl) dX11_end_9 ?_
  rintro _ _ ⟨_, rfl, rfl, rfl⟩ o2 r1
  refine G_if_ne (bI_R _) dX11_end_12 (tgt := 17) (by decide) (fun c3 => ?_) (fun c3 => ?_)
  · have h := h.1 (bI_ne c3)
    refine G_aload_n 0 rfl rfl dX11_end_17 ?_
    refine G_get (k := 7) (kd := (2, 30)) (v := aR 30) gf_X11_49 rfl rfl rfl rfl dX11_end_18 ?_
    refine G_iload_n 1 rfl rfl dX11_end_21 ?_
    obtain ⟨σ4, e6⟩ : ∃ τ : Mem, τ = mset σ 30 1 x1 := ⟨_, rfl⟩
    have h := h σ4 e6
    have o5 : OKm σ4 := by rw [e6]; exact OKm.seti hO _ _ _ hx1 rfl
    refine G_put (k := 1) (ki := 1) (kd := (0, 0)) (x := _) pf_X11_119 rfl rfl rfl rfl (fa_i (mset_self _ _ _ _)) (fun _ => rfl) (fun _ => rfl) dX11_end_22 ?_
    rw [← e6]
    refine G_iload_n 1 rfl rfl dX11_end_25 ?_
    exact G_iret rfl hx1 dX11_end_26 ⟨_, rfl, h⟩ o5
  · have h := h.2 ((bI_0 _).mp c3)
    refine G_iconst dX11_end_15 ?_
    exact G_iret rfl (rL (-1) rfl) dX11_end_16 ⟨_, rfl, h⟩ hO

theorem sp_X11_end (d : Nat) (hd : 1 ≤ d) (σ : Mem) (hO : OKm σ) (x1 : Int) (hx1 : R32 x1) : Mt yX11_end cX11_end 2 (some .int) d [aR (0), aI (x1)] σ (QI (fun v σ' => v = (if 0 ≤ x1 ∧ x1 ≤ σ 30 1 then x1 else -1) ∧ σ' = (if 0 ≤ x1 ∧ x1 ≤ σ 30 1 then mset σ 30 1 x1 else σ))) := mt_X11_end hd hx1 hO (by
  unfold wp_X11_end
  grind [bI])
