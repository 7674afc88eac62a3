def wp_X12_byteAt (x1 : Int) (σ : Mem) (Q : Int → Mem → Prop) : Prop :=
  (((σ 74 4) ≤ x1) →
    Q (-1) σ) ∧
   ((x1 < (σ 74 4)) →
    (0 ≤ x1 ∧ x1 < 300) ∧
    Q (σ 78 x1) σ)
theorem mt_X12_byteAt {d : Nat} (hd : 0 ≤ d) {x1 : Int} {σ : Mem} {Q : Int → Mem → Prop} (hx1 : R32 x1) (hO : OKm σ) (h : wp_X12_byteAt x1 σ Q) : Mt yX12_byteAt cX12_byteAt 2 (some .int) d [aR (74), aI (x1)] σ (QI Q) := by
  refine Mt.intro (by decide +kernel) (Nat.le_of_ble_eq_true rfl) [(0, aR (74)), (1, aI (x1))] rfl ?_
  unfold wp_X12_byteAt at h
  refine G_iload_n 1 rfl rfl dX12_byteAt_0 ?_
  refine G_aload_n 0 rfl rfl dX12_byteAt_1 ?_
  refine G_get (k := 4) (kd := (0, 0)) (v := aI (σ 74 4)) gf_X12_97 rfl rfl rfl rfl dX12_byteAt_2 ?_
  refine G_icmp_ge hx1 (OKm.i hO 74 4 rfl) dX12_byteAt_5 (tgt := 17) (by decide) (fun c1 => ?_) (fun c1 => ?_)
  · have h := h.1 c1
    refine G_iconst dX12_byteAt_17 ?_
    exact G_iret rfl (rL (-1) rfl) dX12_byteAt_18 ⟨_, rfl, h⟩ hO
  · have h := h.2 c1
    refine G_aload_n 0 rfl rfl dX12_byteAt_8 ?_
    refine G_get (k := 3) (kd := (2, 78)) (v := aR 78) gf_X12_19 rfl rfl rfl rfl dX12_byteAt_9 ?_
    refine G_iload_n 1 rfl rfl dX12_byteAt_12 ?_
    obtain ⟨c2, h⟩ := h
    refine G_iald (n := 300) rfl c2.1 c2.2 dX12_byteAt_13 ?_
    refine G_goto (tgt := 18) dX12_byteAt_14 (by decide) ?_
    exact G_iret rfl (OKm.i hO 78 x1 (isLg_row (show shp 78 = (1, 300, []) from rfl) _)) dX12_byteAt_18 ⟨_, rfl, h⟩ hO

theorem sp_X12_byteAt (d : Nat) (hd : 0 ≤ d) (σ : Mem) (hO : OKm σ) (x1 : Int) (hx1 : R32 x1) (hpre : 0 ≤ x1 ∧ σ 74 4 ≤ 300) : Mt yX12_byteAt cX12_byteAt 2 (some .int) d [aR (74), aI (x1)] σ (QI (fun v σ' => (if x1 < σ 74 4 then σ 78 x1 else -1) = v ∧ σ = σ')) := mt_X12_byteAt hd hx1 hO (by
  unfold wp_X12_byteAt
  by_cases h : x1 < σ 74 4
  · exact ⟨fun q => absurd q (by omega), fun _ => ⟨by omega, by rw [if_pos h], rfl⟩⟩
  · exact ⟨fun _ => ⟨by rw [if_neg h], rfl⟩, fun q => absurd q h⟩)

def wp_X12_isLetterByte (x1 : Int) (σ : Mem) (Q : Int → Mem → Prop) : Prop :=
  ((x1 < 97) →
    ((x1 < 65) →
     Q 0 σ) ∧
    ((65 ≤ x1) →
     ((90 < x1) →
      Q 0 σ) ∧
     ((x1 ≤ 90) →
      Q 1 σ))) ∧
   ((97 ≤ x1) →
    ((x1 ≤ 122) →
     Q 1 σ) ∧
    ((122 < x1) →
     ((x1 < 65) →
      Q 0 σ) ∧
     ((65 ≤ x1) →
      ((90 < x1) →
       Q 0 σ) ∧
      ((x1 ≤ 90) →
       Q 1 σ))))
theorem mt_X12_isLetterByte {d : Nat} (hd : 0 ≤ d) {x1 : Int} {σ : Mem} {Q : Int → Mem → Prop} (hx1 : R32 x1) (hO : OKm σ) (h : wp_X12_isLetterByte x1 σ Q) : Mt yX12_isLetterByte cX12_isLetterByte 1 (some .boolean) d [aI (x1)] σ (QI Q) := by
  refine Mt.intro (by decide +kernel) (Nat.le_of_ble_eq_true rfl) [(0, aI (x1))] rfl ?_
  unfold wp_X12_isLetterByte at h
  refine G_iload_n 0 rfl rfl dX12_isLetterByte_0 ?_
  refine G_bipush (by decide) dX12_isLetterByte_1 ?_
  refine G_icmp_lt hx1 (rL 97 rfl) dX12_isLetterByte_3 (tgt := 12) (by decide) (fun c1 => ?_) (fun c1 => ?_)
  · have h := h.1 c1
    refine G_iload_n 0 rfl rfl dX12_isLetterByte_12 ?_
    refine G_bipush (by decide) dX12_isLetterByte_13 ?_
    refine G_icmp_lt hx1 (rL 65 rfl) dX12_isLetterByte_15 (tgt := 28) (by decide) (fun c2 => ?_) (fun c2 => ?_)
    · have h := h.1 c2
      refine G_iconst dX12_isLetterByte_28 ?_
      exact G_zret rfl (by decide) dX12_isLetterByte_29 ⟨_, rfl, h⟩ hO
    · have h := h.2 c2
      refine G_iload_n 0 rfl rfl dX12_isLetterByte_18 ?_
      refine G_bipush (by decide) dX12_isLetterByte_19 ?_
      refine G_icmp_gt hx1 (rL 90 rfl) dX12_isLetterByte_21 (tgt := 28) (by decide) (fun c3 => ?_) (fun c3 => ?_)
      · have h := h.1 c3
        refine G_iconst dX12_isLetterByte_28 ?_
        exact G_zret rfl (by decide) dX12_isLetterByte_29 ⟨_, rfl, h⟩ hO
      · have h := h.2 c3
        refine G_iconst dX12_isLetterByte_24 ?_
        refine G_goto (tgt := 29) dX12_isLetterByte_25 (by decide) ?_
        exact G_zret rfl (by decide) dX12_isLetterByte_29 ⟨_, rfl, h⟩ hO
  · have h := h.2 c1
    refine G_iload_n 0 rfl rfl dX12_isLetterByte_6 ?_
    refine G_bipush (by decide) dX12_isLetterByte_7 ?_
    refine G_icmp_le hx1 (rL 122 rfl) dX12_isLetterByte_9 (tgt := 24) (by decide) (fun c4 => ?_) (fun c4 => ?_)
    · have h := h.1 c4
      refine G_iconst dX12_isLetterByte_24 ?_
      refine G_goto (tgt := 29) dX12_isLetterByte_25 (by decide) ?_
      exact G_zret rfl (by decide) dX12_isLetterByte_29 ⟨_, rfl, h⟩ hO
    · have h := h.2 c4
      refine G_iload_n 0 rfl rfl dX12_isLetterByte_12 ?_
      refine G_bipush (by decide) dX12_isLetterByte_13 ?_
      refine G_icmp_lt hx1 (rL 65 rfl) dX12_isLetterByte_15 (tgt := 28) (by decide) (fun c5 => ?_) (fun c5 => ?_)
      · have h := h.1 c5
        refine G_iconst dX12_isLetterByte_28 ?_
        exact G_zret rfl (by decide) dX12_isLetterByte_29 ⟨_, rfl, h⟩ hO
      · have h := h.2 c5
        refine G_iload_n 0 rfl rfl dX12_isLetterByte_18 ?_
        refine G_bipush (by decide) dX12_isLetterByte_19 ?_
        refine G_icmp_gt hx1 (rL 90 rfl) dX12_isLetterByte_21 (tgt := 28) (by decide) (fun c6 => ?_) (fun c6 => ?_)
        · have h := h.1 c6
          refine G_iconst dX12_isLetterByte_28 ?_
          exact G_zret rfl (by decide) dX12_isLetterByte_29 ⟨_, rfl, h⟩ hO
        · have h := h.2 c6
          refine G_iconst dX12_isLetterByte_24 ?_
          refine G_goto (tgt := 29) dX12_isLetterByte_25 (by decide) ?_
          exact G_zret rfl (by decide) dX12_isLetterByte_29 ⟨_, rfl, h⟩ hO

theorem sp_X12_isLetterByte (d : Nat) (hd : 0 ≤ d) (σ : Mem) (hO : OKm σ) (x1 : Int) (hx1 : R32 x1) : Mt yX12_isLetterByte cX12_isLetterByte 1 (some .boolean) d [aI (x1)] σ (QI (fun v σ' => bI ((97 ≤ x1 ∧ x1 ≤ 122) ∨ (65 ≤ x1 ∧ x1 ≤ 90)) = v ∧ σ = σ')) := mt_X12_isLetterByte hd hx1 hO (by
  unfold wp_X12_isLetterByte
  grind [bI])

def wp_X12_isFigure (x1 : Int) (σ : Mem) (Q : Int → Mem → Prop) : Prop :=
  ((x1 < 48) →
    Q 0 σ) ∧
   ((48 ≤ x1) →
    ((57 < x1) →
     Q 0 σ) ∧
    ((x1 ≤ 57) →
     Q 1 σ))
theorem mt_X12_isFigure {d : Nat} (hd : 0 ≤ d) {x1 : Int} {σ : Mem} {Q : Int → Mem → Prop} (hx1 : R32 x1) (hO : OKm σ) (h : wp_X12_isFigure x1 σ Q) : Mt yX12_isFigure cX12_isFigure 1 (some .boolean) d [aI (x1)] σ (QI Q) := by
  refine Mt.intro (by decide +kernel) (Nat.le_of_ble_eq_true rfl) [(0, aI (x1))] rfl ?_
  unfold wp_X12_isFigure at h
  refine G_iload_n 0 rfl rfl dX12_isFigure_0 ?_
  refine G_bipush (by decide) dX12_isFigure_1 ?_
  refine G_icmp_lt hx1 (rL 48 rfl) dX12_isFigure_3 (tgt := 16) (by decide) (fun c1 => ?_) (fun c1 => ?_)
  · have h := h.1 c1
    refine G_iconst dX12_isFigure_16 ?_
    exact G_zret rfl (by decide) dX12_isFigure_17 ⟨_, rfl, h⟩ hO
  · have h := h.2 c1
    refine G_iload_n 0 rfl rfl dX12_isFigure_6 ?_
    refine G_bipush (by decide) dX12_isFigure_7 ?_
    refine G_icmp_gt hx1 (rL 57 rfl) dX12_isFigure_9 (tgt := 16) (by decide) (fun c2 => ?_) (fun c2 => ?_)
    · have h := h.1 c2
      refine G_iconst dX12_isFigure_16 ?_
      exact G_zret rfl (by decide) dX12_isFigure_17 ⟨_, rfl, h⟩ hO
    · have h := h.2 c2
      refine G_iconst dX12_isFigure_12 ?_
      refine G_goto (tgt := 17) dX12_isFigure_13 (by decide) ?_
      exact G_zret rfl (by decide) dX12_isFigure_17 ⟨_, rfl, h⟩ hO

theorem sp_X12_isFigure (d : Nat) (hd : 0 ≤ d) (σ : Mem) (hO : OKm σ) (x1 : Int) (hx1 : R32 x1) : Mt yX12_isFigure cX12_isFigure 1 (some .boolean) d [aI (x1)] σ (QI (fun v σ' => bI (48 ≤ x1 ∧ x1 ≤ 57) = v ∧ σ = σ')) := mt_X12_isFigure hd hx1 hO (by
  unfold wp_X12_isFigure
  grind [bI])

def wp_X12_isSign (x1 : Int) (σ : Mem) (Q : Int → Mem → Prop) : Prop :=
  (x1 = 35 →
    Q 1 σ) ∧
   (x1 ≠ 35 →
    (x1 = 40 →
     Q 1 σ) ∧
    (x1 ≠ 40 →
     (x1 = 41 →
      Q 1 σ) ∧
     (x1 ≠ 41 →
      (x1 = 42 →
       Q 1 σ) ∧
      (x1 ≠ 42 →
       (x1 = 43 →
        Q 1 σ) ∧
       (x1 ≠ 43 →
        (x1 = 45 →
         Q 1 σ) ∧
        (x1 ≠ 45 →
         (x1 = 47 →
          Q 1 σ) ∧
         (x1 ≠ 47 →
          (x1 = 58 →
           Q 1 σ) ∧
          (x1 ≠ 58 →
           (x1 = 59 →
            Q 1 σ) ∧
           (x1 ≠ 59 →
            (x1 = 60 →
             Q 1 σ) ∧
            (x1 ≠ 60 →
             (x1 = 61 →
              Q 1 σ) ∧
             (x1 ≠ 61 →
              (x1 = 62 →
               Q 1 σ) ∧
              (x1 ≠ 62 →
               Q 0 σ))))))))))))
theorem mt_X12_isSign {d : Nat} (hd : 0 ≤ d) {x1 : Int} {σ : Mem} {Q : Int → Mem → Prop} (hx1 : R32 x1) (hO : OKm σ) (h : wp_X12_isSign x1 σ Q) : Mt yX12_isSign cX12_isSign 1 (some .boolean) d [aI (x1)] σ (QI Q) := by
  refine Mt.intro (by decide +kernel) (Nat.le_of_ble_eq_true rfl) [(0, aI (x1))] rfl ?_
  unfold wp_X12_isSign at h
  refine G_iload_n 0 rfl rfl dX12_isSign_0 ?_
  refine G_tsw (tgt := 128) 0 35 (by decide) (rL _ rfl) (by decide) rfl (by decide) hx1 dX12_isSign_1 (fun n13 => ?_) (fun n13 => ?_)
  · have h := h.1 n13
    refine G_iconst dX12_isSign_128 ?_
    exact G_zret rfl (by decide) dX12_isSign_129 ⟨_, rfl, h⟩ hO
  · have h := h.2 n13
    have n14 : (36 : Int) ≤ x1 ∨ x1 < 35 := tsw_next (by decide) (tsw_0 _ _) n13
    refine G_tsw (tgt := 130) 1 36 (by decide) (rL _ rfl) (by decide) rfl (by decide) hx1 dX12_isSign_1 (fun n15 => ?_) (fun n15 => ?_)
    · have h := (((((((((((h).2 (tsw_ne n15 (by decide))).2 (tsw_ne n15 (by decide))).2 (tsw_ne n15 (by decide))).2 (tsw_ne n15 (by decide))).2 (tsw_ne n15 (by decide))).2 (tsw_ne n15 (by decide))).2 (tsw_ne n15 (by decide))).2 (tsw_ne n15 (by decide))).2 (tsw_ne n15 (by decide))).2 (tsw_ne n15 (by decide))).2 (tsw_ne n15 (by decide))
      refine G_iconst dX12_isSign_130 ?_
      exact G_zret rfl (by decide) dX12_isSign_131 ⟨_, rfl, h⟩ hO
    · have n16 : (37 : Int) ≤ x1 ∨ x1 < 35 := tsw_next (by decide) n14 n15
      refine G_tsw (tgt := 130) 2 37 (by decide) (rL _ rfl) (by decide) rfl (by decide) hx1 dX12_isSign_1 (fun n17 => ?_) (fun n17 => ?_)
      · have h := (((((((((((h).2 (tsw_ne n17 (by decide))).2 (tsw_ne n17 (by decide))).2 (tsw_ne n17 (by decide))).2 (tsw_ne n17 (by decide))).2 (tsw_ne n17 (by decide))).2 (tsw_ne n17 (by decide))).2 (tsw_ne n17 (by decide))).2 (tsw_ne n17 (by decide))).2 (tsw_ne n17 (by decide))).2 (tsw_ne n17 (by decide))).2 (tsw_ne n17 (by decide))
        refine G_iconst dX12_isSign_130 ?_
        exact G_zret rfl (by decide) dX12_isSign_131 ⟨_, rfl, h⟩ hO
      · have n18 : (38 : Int) ≤ x1 ∨ x1 < 35 := tsw_next (by decide) n16 n17
        refine G_tsw (tgt := 130) 3 38 (by decide) (rL _ rfl) (by decide) rfl (by decide) hx1 dX12_isSign_1 (fun n19 => ?_) (fun n19 => ?_)
        · have h := (((((((((((h).2 (tsw_ne n19 (by decide))).2 (tsw_ne n19 (by decide))).2 (tsw_ne n19 (by decide))).2 (tsw_ne n19 (by decide))).2 (tsw_ne n19 (by decide))).2 (tsw_ne n19 (by decide))).2 (tsw_ne n19 (by decide))).2 (tsw_ne n19 (by decide))).2 (tsw_ne n19 (by decide))).2 (tsw_ne n19 (by decide))).2 (tsw_ne n19 (by decide))
          refine G_iconst dX12_isSign_130 ?_
          exact G_zret rfl (by decide) dX12_isSign_131 ⟨_, rfl, h⟩ hO
        · have n20 : (39 : Int) ≤ x1 ∨ x1 < 35 := tsw_next (by decide) n18 n19
          refine G_tsw (tgt := 130) 4 39 (by decide) (rL _ rfl) (by decide) rfl (by decide) hx1 dX12_isSign_1 (fun n21 => ?_) (fun n21 => ?_)
          · have h := (((((((((((h).2 (tsw_ne n21 (by decide))).2 (tsw_ne n21 (by decide))).2 (tsw_ne n21 (by decide))).2 (tsw_ne n21 (by decide))).2 (tsw_ne n21 (by decide))).2 (tsw_ne n21 (by decide))).2 (tsw_ne n21 (by decide))).2 (tsw_ne n21 (by decide))).2 (tsw_ne n21 (by decide))).2 (tsw_ne n21 (by decide))).2 (tsw_ne n21 (by decide))
            refine G_iconst dX12_isSign_130 ?_
            exact G_zret rfl (by decide) dX12_isSign_131 ⟨_, rfl, h⟩ hO
          · have n22 : (40 : Int) ≤ x1 ∨ x1 < 35 := tsw_next (by decide) n20 n21
            refine G_tsw (tgt := 128) 5 40 (by decide) (rL _ rfl) (by decide) rfl (by decide) hx1 dX12_isSign_1 (fun n23 => ?_) (fun n23 => ?_)
            · have h := h.1 n23
              refine G_iconst dX12_isSign_128 ?_
              exact G_zret rfl (by decide) dX12_isSign_129 ⟨_, rfl, h⟩ hO
            · have h := h.2 n23
              have n24 : (41 : Int) ≤ x1 ∨ x1 < 35 := tsw_next (by decide) n22 n23
              refine G_tsw (tgt := 128) 6 41 (by decide) (rL _ rfl) (by decide) rfl (by decide) hx1 dX12_isSign_1 (fun n25 => ?_) (fun n25 => ?_)
              · have h := h.1 n25
                refine G_iconst dX12_isSign_128 ?_
                exact G_zret rfl (by decide) dX12_isSign_129 ⟨_, rfl, h⟩ hO
              · have h := h.2 n25
                have n26 : (42 : Int) ≤ x1 ∨ x1 < 35 := tsw_next (by decide) n24 n25
                refine G_tsw (tgt := 128) 7 42 (by decide) (rL _ rfl) (by decide) rfl (by decide) hx1 dX12_isSign_1 (fun n27 => ?_) (fun n27 => ?_)
                · have h := h.1 n27
                  refine G_iconst dX12_isSign_128 ?_
                  exact G_zret rfl (by decide) dX12_isSign_129 ⟨_, rfl, h⟩ hO
                · have h := h.2 n27
                  have n28 : (43 : Int) ≤ x1 ∨ x1 < 35 := tsw_next (by decide) n26 n27
                  refine G_tsw (tgt := 128) 8 43 (by decide) (rL _ rfl) (by decide) rfl (by decide) hx1 dX12_isSign_1 (fun n29 => ?_) (fun n29 => ?_)
                  · have h := h.1 n29
                    refine G_iconst dX12_isSign_128 ?_
                    exact G_zret rfl (by decide) dX12_isSign_129 ⟨_, rfl, h⟩ hO
                  · have h := h.2 n29
                    have n30 : (44 : Int) ≤ x1 ∨ x1 < 35 := tsw_next (by decide) n28 n29
                    refine G_tsw (tgt := 130) 9 44 (by decide) (rL _ rfl) (by decide) rfl (by decide) hx1 dX12_isSign_1 (fun n31 => ?_) (fun n31 => ?_)
                    · have h := (((((((h).2 (tsw_ne n31 (by decide))).2 (tsw_ne n31 (by decide))).2 (tsw_ne n31 (by decide))).2 (tsw_ne n31 (by decide))).2 (tsw_ne n31 (by decide))).2 (tsw_ne n31 (by decide))).2 (tsw_ne n31 (by decide))
                      refine G_iconst dX12_isSign_130 ?_
                      exact G_zret rfl (by decide) dX12_isSign_131 ⟨_, rfl, h⟩ hO
                    · have n32 : (45 : Int) ≤ x1 ∨ x1 < 35 := tsw_next (by decide) n30 n31
                      refine G_tsw (tgt := 128) 10 45 (by decide) (rL _ rfl) (by decide) rfl (by decide) hx1 dX12_isSign_1 (fun n33 => ?_) (fun n33 => ?_)
                      · have h := h.1 n33
                        refine G_iconst dX12_isSign_128 ?_
                        exact G_zret rfl (by decide) dX12_isSign_129 ⟨_, rfl, h⟩ hO
                      · have h := h.2 n33
                        have n34 : (46 : Int) ≤ x1 ∨ x1 < 35 := tsw_next (by decide) n32 n33
                        refine G_tsw (tgt := 130) 11 46 (by decide) (rL _ rfl) (by decide) rfl (by decide) hx1 dX12_isSign_1 (fun n35 => ?_) (fun n35 => ?_)
                        · have h := ((((((h).2 (tsw_ne n35 (by decide))).2 (tsw_ne n35 (by decide))).2 (tsw_ne n35 (by decide))).2 (tsw_ne n35 (by decide))).2 (tsw_ne n35 (by decide))).2 (tsw_ne n35 (by decide))
                          refine G_iconst dX12_isSign_130 ?_
                          exact G_zret rfl (by decide) dX12_isSign_131 ⟨_, rfl, h⟩ hO
                        · have n36 : (47 : Int) ≤ x1 ∨ x1 < 35 := tsw_next (by decide) n34 n35
                          refine G_tsw (tgt := 128) 12 47 (by decide) (rL _ rfl) (by decide) rfl (by decide) hx1 dX12_isSign_1 (fun n37 => ?_) (fun n37 => ?_)
                          · have h := h.1 n37
                            refine G_iconst dX12_isSign_128 ?_
                            exact G_zret rfl (by decide) dX12_isSign_129 ⟨_, rfl, h⟩ hO
                          · have h := h.2 n37
                            have n38 : (48 : Int) ≤ x1 ∨ x1 < 35 := tsw_next (by decide) n36 n37
                            refine G_tsw (tgt := 130) 13 48 (by decide) (rL _ rfl) (by decide) rfl (by decide) hx1 dX12_isSign_1 (fun n39 => ?_) (fun n39 => ?_)
                            · have h := (((((h).2 (tsw_ne n39 (by decide))).2 (tsw_ne n39 (by decide))).2 (tsw_ne n39 (by decide))).2 (tsw_ne n39 (by decide))).2 (tsw_ne n39 (by decide))
                              refine G_iconst dX12_isSign_130 ?_
                              exact G_zret rfl (by decide) dX12_isSign_131 ⟨_, rfl, h⟩ hO
                            · have n40 : (49 : Int) ≤ x1 ∨ x1 < 35 := tsw_next (by decide) n38 n39
                              refine G_tsw (tgt := 130) 14 49 (by decide) (rL _ rfl) (by decide) rfl (by decide) hx1 dX12_isSign_1 (fun n41 => ?_) (fun n41 => ?_)
                              · have h := (((((h).2 (tsw_ne n41 (by decide))).2 (tsw_ne n41 (by decide))).2 (tsw_ne n41 (by decide))).2 (tsw_ne n41 (by decide))).2 (tsw_ne n41 (by decide))
                                refine G_iconst dX12_isSign_130 ?_
                                exact G_zret rfl (by decide) dX12_isSign_131 ⟨_, rfl, h⟩ hO
                              · have n42 : (50 : Int) ≤ x1 ∨ x1 < 35 := tsw_next (by decide) n40 n41
                                refine G_tsw (tgt := 130) 15 50 (by decide) (rL _ rfl) (by decide) rfl (by decide) hx1 dX12_isSign_1 (fun n43 => ?_) (fun n43 => ?_)
                                · have h := (((((h).2 (tsw_ne n43 (by decide))).2 (tsw_ne n43 (by decide))).2 (tsw_ne n43 (by decide))).2 (tsw_ne n43 (by decide))).2 (tsw_ne n43 (by decide))
                                  refine G_iconst dX12_isSign_130 ?_
                                  exact G_zret rfl (by decide) dX12_isSign_131 ⟨_, rfl, h⟩ hO
                                · have n44 : (51 : Int) ≤ x1 ∨ x1 < 35 := tsw_next (by decide) n42 n43
                                  refine G_tsw (tgt := 130) 16 51 (by decide) (rL _ rfl) (by decide) rfl (by decide) hx1 dX12_isSign_1 (fun n45 => ?_) (fun n45 => ?_)
                                  · have h := (((((h).2 (tsw_ne n45 (by decide))).2 (tsw_ne n45 (by decide))).2 (tsw_ne n45 (by decide))).2 (tsw_ne n45 (by decide))).2 (tsw_ne n45 (by decide))
                                    refine G_iconst dX12_isSign_130 ?_
                                    exact G_zret rfl (by decide) dX12_isSign_131 ⟨_, rfl, h⟩ hO
                                  · have n46 : (52 : Int) ≤ x1 ∨ x1 < 35 := tsw_next (by decide) n44 n45
                                    refine G_tsw (tgt := 130) 17 52 (by decide) (rL _ rfl) (by decide) rfl (by decide) hx1 dX12_isSign_1 (fun n47 => ?_) (fun n47 => ?_)
                                    · have h := (((((h).2 (tsw_ne n47 (by decide))).2 (tsw_ne n47 (by decide))).2 (tsw_ne n47 (by decide))).2 (tsw_ne n47 (by decide))).2 (tsw_ne n47 (by decide))
                                      refine G_iconst dX12_isSign_130 ?_
                                      exact G_zret rfl (by decide) dX12_isSign_131 ⟨_, rfl, h⟩ hO
                                    · have n48 : (53 : Int) ≤ x1 ∨ x1 < 35 := tsw_next (by decide) n46 n47
                                      refine G_tsw (tgt := 130) 18 53 (by decide) (rL _ rfl) (by decide) rfl (by decide) hx1 dX12_isSign_1 (fun n49 => ?_) (fun n49 => ?_)
                                      · have h := (((((h).2 (tsw_ne n49 (by decide))).2 (tsw_ne n49 (by decide))).2 (tsw_ne n49 (by decide))).2 (tsw_ne n49 (by decide))).2 (tsw_ne n49 (by decide))
                                        refine G_iconst dX12_isSign_130 ?_
                                        exact G_zret rfl (by decide) dX12_isSign_131 ⟨_, rfl, h⟩ hO
                                      · have n50 : (54 : Int) ≤ x1 ∨ x1 < 35 := tsw_next (by decide) n48 n49
                                        refine G_tsw (tgt := 130) 19 54 (by decide) (rL _ rfl) (by decide) rfl (by decide) hx1 dX12_isSign_1 (fun n51 => ?_) (fun n51 => ?_)
                                        · have h := (((((h).2 (tsw_ne n51 (by decide))).2 (tsw_ne n51 (by decide))).2 (tsw_ne n51 (by decide))).2 (tsw_ne n51 (by decide))).2 (tsw_ne n51 (by decide))
                                          refine G_iconst dX12_isSign_130 ?_
                                          exact G_zret rfl (by decide) dX12_isSign_131 ⟨_, rfl, h⟩ hO
                                        · have n52 : (55 : Int) ≤ x1 ∨ x1 < 35 := tsw_next (by decide) n50 n51
                                          refine G_tsw (tgt := 130) 20 55 (by decide) (rL _ rfl) (by decide) rfl (by decide) hx1 dX12_isSign_1 (fun n53 => ?_) (fun n53 => ?_)
                                          · have h := (((((h).2 (tsw_ne n53 (by decide))).2 (tsw_ne n53 (by decide))).2 (tsw_ne n53 (by decide))).2 (tsw_ne n53 (by decide))).2 (tsw_ne n53 (by decide))
                                            refine G_iconst dX12_isSign_130 ?_
                                            exact G_zret rfl (by decide) dX12_isSign_131 ⟨_, rfl, h⟩ hO
                                          · have n54 : (56 : Int) ≤ x1 ∨ x1 < 35 := tsw_next (by decide) n52 n53
                                            refine G_tsw (tgt := 130) 21 56 (by decide) (rL _ rfl) (by decide) rfl (by decide) hx1 dX12_isSign_1 (fun n55 => ?_) (fun n55 => ?_)
                                            · have h := (((((h).2 (tsw_ne n55 (by decide))).2 (tsw_ne n55 (by decide))).2 (tsw_ne n55 (by decide))).2 (tsw_ne n55 (by decide))).2 (tsw_ne n55 (by decide))
                                              refine G_iconst dX12_isSign_130 ?_
                                              exact G_zret rfl (by decide) dX12_isSign_131 ⟨_, rfl, h⟩ hO
                                            · have n56 : (57 : Int) ≤ x1 ∨ x1 < 35 := tsw_next (by decide) n54 n55
                                              refine G_tsw (tgt := 130) 22 57 (by decide) (rL _ rfl) (by decide) rfl (by decide) hx1 dX12_isSign_1 (fun n57 => ?_) (fun n57 => ?_)
                                              · have h := (((((h).2 (tsw_ne n57 (by decide))).2 (tsw_ne n57 (by decide))).2 (tsw_ne n57 (by decide))).2 (tsw_ne n57 (by decide))).2 (tsw_ne n57 (by decide))
                                                refine G_iconst dX12_isSign_130 ?_
                                                exact G_zret rfl (by decide) dX12_isSign_131 ⟨_, rfl, h⟩ hO
                                              · have n58 : (58 : Int) ≤ x1 ∨ x1 < 35 := tsw_next (by decide) n56 n57
                                                refine G_tsw (tgt := 128) 23 58 (by decide) (rL _ rfl) (by decide) rfl (by decide) hx1 dX12_isSign_1 (fun n59 => ?_) (fun n59 => ?_)
                                                · have h := h.1 n59
                                                  refine G_iconst dX12_isSign_128 ?_
                                                  exact G_zret rfl (by decide) dX12_isSign_129 ⟨_, rfl, h⟩ hO
                                                · have h := h.2 n59
                                                  have n60 : (59 : Int) ≤ x1 ∨ x1 < 35 := tsw_next (by decide) n58 n59
                                                  refine G_tsw (tgt := 128) 24 59 (by decide) (rL _ rfl) (by decide) rfl (by decide) hx1 dX12_isSign_1 (fun n61 => ?_) (fun n61 => ?_)
                                                  · have h := h.1 n61
                                                    refine G_iconst dX12_isSign_128 ?_
                                                    exact G_zret rfl (by decide) dX12_isSign_129 ⟨_, rfl, h⟩ hO
                                                  · have h := h.2 n61
                                                    have n62 : (60 : Int) ≤ x1 ∨ x1 < 35 := tsw_next (by decide) n60 n61
                                                    refine G_tsw (tgt := 128) 25 60 (by decide) (rL _ rfl) (by decide) rfl (by decide) hx1 dX12_isSign_1 (fun n63 => ?_) (fun n63 => ?_)
                                                    · have h := h.1 n63
                                                      refine G_iconst dX12_isSign_128 ?_
                                                      exact G_zret rfl (by decide) dX12_isSign_129 ⟨_, rfl, h⟩ hO
                                                    · have h := h.2 n63
                                                      have n64 : (61 : Int) ≤ x1 ∨ x1 < 35 := tsw_next (by decide) n62 n63
                                                      refine G_tsw (tgt := 128) 26 61 (by decide) (rL _ rfl) (by decide) rfl (by decide) hx1 dX12_isSign_1 (fun n65 => ?_) (fun n65 => ?_)
                                                      · have h := h.1 n65
                                                        refine G_iconst dX12_isSign_128 ?_
                                                        exact G_zret rfl (by decide) dX12_isSign_129 ⟨_, rfl, h⟩ hO
                                                      · have h := h.2 n65
                                                        have n66 : (62 : Int) ≤ x1 ∨ x1 < 35 := tsw_next (by decide) n64 n65
                                                        refine G_tsw (tgt := 128) 27 62 (by decide) (rL _ rfl) (by decide) rfl (by decide) hx1 dX12_isSign_1 (fun n67 => ?_) (fun n67 => ?_)
                                                        · have h := h.1 n67
                                                          refine G_iconst dX12_isSign_128 ?_
                                                          exact G_zret rfl (by decide) dX12_isSign_129 ⟨_, rfl, h⟩ hO
                                                        · have h := h.2 n67
                                                          have n68 : (63 : Int) ≤ x1 ∨ x1 < 35 := tsw_next (by decide) n66 n67
                                                          refine G_tswd (tgt := 130) hx1 (tsw_out n68) (by decide) dX12_isSign_1 ?_
                                                          refine G_iconst dX12_isSign_130 ?_
                                                          exact G_zret rfl (by decide) dX12_isSign_131 ⟨_, rfl, h⟩ hO

theorem sp_X12_isSign (d : Nat) (hd : 0 ≤ d) (σ : Mem) (hO : OKm σ) (x1 : Int) (hx1 : R32 x1) : Mt yX12_isSign cX12_isSign 1 (some .boolean) d [aI (x1)] σ (QI (fun v σ' => bI (x1 = 35 ∨ x1 = 40 ∨ x1 = 41 ∨ x1 = 42 ∨ x1 = 43 ∨ x1 = 45 ∨ x1 = 47 ∨ x1 = 58 ∨ x1 = 59 ∨ x1 = 60 ∨ x1 = 61 ∨ x1 = 62) = v ∧ σ = σ')) := mt_X12_isSign hd hx1 hO (by
  unfold wp_X12_isSign
  repeat' (first | intro _ | refine And.intro ?_ ?_)
  all_goals first | rfl | (unfold bI; first | rw [if_pos (by omega)] | rw [if_neg (by omega)]))

def wp_X12_isWord (x1 : Int) (σ : Mem) (Q : Int → Mem → Prop) : Prop :=
  (((σ 74 9) ≠ 2) →
    Q 0 σ) ∧
   (((σ 74 9) = 2) →
    (((σ 74 11) ≠ x1) →
     Q 0 σ) ∧
    (((σ 74 11) = x1) →
     Q 1 σ))
theorem mt_X12_isWord {d : Nat} (hd : 0 ≤ d) {x1 : Int} {σ : Mem} {Q : Int → Mem → Prop} (hx1 : R64 x1) (hO : OKm σ) (h : wp_X12_isWord x1 σ Q) : Mt yX12_isWord cX12_isWord 3 (some .boolean) d [aR (74), aL (x1)] σ (QI Q) := by
  refine Mt.intro (by decide +kernel) (Nat.le_of_ble_eq_true rfl) [(0, aR (74)), (1, aL (x1))] rfl ?_
  unfold wp_X12_isWord at h
  refine G_aload_n 0 rfl rfl dX12_isWord_0 ?_
  refine G_get (k := 9) (kd := (0, 0)) (v := aI (σ 74 9)) gf_X12_113 rfl rfl rfl rfl dX12_isWord_1 ?_
  refine G_iconst dX12_isWord_4 ?_
  refine G_icmp_ne (OKm.i hO 74 9 rfl) (rL 2 rfl) dX12_isWord_5 (tgt := 21) (by decide) (fun c1 => ?_) (fun c1 => ?_)
  · have h := h.1 c1
    refine G_iconst dX12_isWord_21 ?_
    exact G_zret rfl (by decide) dX12_isWord_22 ⟨_, rfl, h⟩ hO
  · have h := h.2 c1
    refine G_aload_n 0 rfl rfl dX12_isWord_8 ?_
    refine G_get (k := 11) (kd := (1, 0)) (v := aL (σ 74 11)) gf_X12_126 rfl rfl rfl rfl dX12_isWord_9 ?_
    refine G_lload_n 1 rfl rfl dX12_isWord_12 ?_
    refine G_lcmp_ne (OKm.l hO 74 11 rfl) hx1 dX12_isWord_13 dX12_isWord_14 (tgt := 21) (by decide) (fun c2 => ?_) (fun c2 => ?_)
    · have h := h.1 c2
      refine G_iconst dX12_isWord_21 ?_
      exact G_zret rfl (by decide) dX12_isWord_22 ⟨_, rfl, h⟩ hO
    · have h := h.2 c2
      refine G_iconst dX12_isWord_17 ?_
      refine G_goto (tgt := 22) dX12_isWord_18 (by decide) ?_
      exact G_zret rfl (by decide) dX12_isWord_22 ⟨_, rfl, h⟩ hO

theorem sp_X12_isWord (d : Nat) (hd : 0 ≤ d) (σ : Mem) (hO : OKm σ) (x1 : Int) (hx1 : R64 x1) : Mt yX12_isWord cX12_isWord 3 (some .boolean) d [aR (74), aL (x1)] σ (QI (fun v σ' => bI (σ 74 9 = 2 ∧ σ 74 11 = x1) = v ∧ σ = σ')) := mt_X12_isWord hd hx1 hO (by
  unfold wp_X12_isWord
  grind [bI])

def rankS (o : Int) : Int := if 40 ≤ o then 0 else if o = 22 then 1 else if o = 21 then 2 else if o = 20 then 3 else if 10 ≤ o then 4 else if o = 5 ∨ o = 2 ∨ o = 4 then 7 else if 8 ≤ o then 6 else 5

def wp_X12_rank (x1 : Int) (σ : Mem) (Q : Int → Mem → Prop) : Prop :=
  ((x1 < 40) →
    ((x1 ≠ 22) →
     ((x1 ≠ 21) →
      ((x1 ≠ 20) →
       ((x1 < 10) →
        ((x1 = 5) →
         Q 7 σ) ∧
        ((x1 ≠ 5) →
         ((x1 = 2) →
          Q 7 σ) ∧
         ((x1 ≠ 2) →
          ((x1 ≠ 4) →
           ((x1 < 8) →
            Q 5 σ) ∧
           ((8 ≤ x1) →
            Q 6 σ)) ∧
          ((x1 = 4) →
           Q 7 σ)))) ∧
       ((10 ≤ x1) →
        Q 4 σ)) ∧
      ((x1 = 20) →
       Q 3 σ)) ∧
     ((x1 = 21) →
      Q 2 σ)) ∧
    ((x1 = 22) →
     Q 1 σ)) ∧
   ((40 ≤ x1) →
    Q 0 σ)
theorem mt_X12_rank {d : Nat} (hd : 0 ≤ d) {x1 : Int} {σ : Mem} {Q : Int → Mem → Prop} (hx1 : R32 x1) (hO : OKm σ) (h : wp_X12_rank x1 σ Q) : Mt yX12_rank cX12_rank 1 (some .int) d [aI (x1)] σ (QI Q) := by
  refine Mt.intro (by decide +kernel) (Nat.le_of_ble_eq_true rfl) [(0, aI (x1))] rfl ?_
  unfold wp_X12_rank at h
  refine G_iload_n 0 rfl rfl dX12_rank_0 ?_
  refine G_bipush (by decide) dX12_rank_1 ?_
  refine G_icmp_lt hx1 (rL 40 rfl) dX12_rank_3 (tgt := 10) (by decide) (fun c1 => ?_) (fun c1 => ?_)
  · have h := h.1 c1
    refine G_iload_n 0 rfl rfl dX12_rank_10 ?_
    refine G_bipush (by decide) dX12_rank_11 ?_
    refine G_icmp_ne hx1 (rL 22 rfl) dX12_rank_13 (tgt := 20) (by decide) (fun c2 => ?_) (fun c2 => ?_)
    · have h := h.1 c2
      refine G_iload_n 0 rfl rfl dX12_rank_20 ?_
      refine G_bipush (by decide) dX12_rank_21 ?_
      refine G_icmp_ne hx1 (rL 21 rfl) dX12_rank_23 (tgt := 30) (by decide) (fun c3 => ?_) (fun c3 => ?_)
      · have h := h.1 c3
        refine G_iload_n 0 rfl rfl dX12_rank_30 ?_
        refine G_bipush (by decide) dX12_rank_31 ?_
        refine G_icmp_ne hx1 (rL 20 rfl) dX12_rank_33 (tgt := 40) (by decide) (fun c4 => ?_) (fun c4 => ?_)
        · have h := h.1 c4
          refine G_iload_n 0 rfl rfl dX12_rank_40 ?_
          refine G_bipush (by decide) dX12_rank_41 ?_
          refine G_icmp_lt hx1 (rL 10 rfl) dX12_rank_43 (tgt := 50) (by decide) (fun c5 => ?_) (fun c5 => ?_)
          · have h := h.1 c5
            refine G_iload_n 0 rfl rfl dX12_rank_50 ?_
            refine G_iconst dX12_rank_51 ?_
            refine G_icmp_eq hx1 (rL 5 rfl) dX12_rank_52 (tgt := 65) (by decide) (fun c6 => ?_) (fun c6 => ?_)
            · have h := h.1 c6
              refine G_bipush (by decide) dX12_rank_65 ?_
              refine G_goto (tgt := 82) dX12_rank_67 (by decide) ?_
              exact G_iret rfl (rL 7 rfl) dX12_rank_82 ⟨_, rfl, h⟩ hO
            · have h := h.2 c6
              refine G_iload_n 0 rfl rfl dX12_rank_55 ?_
              refine G_iconst dX12_rank_56 ?_
              refine G_icmp_eq hx1 (rL 2 rfl) dX12_rank_57 (tgt := 65) (by decide) (fun c7 => ?_) (fun c7 => ?_)
              · have h := h.1 c7
                refine G_bipush (by decide) dX12_rank_65 ?_
                refine G_goto (tgt := 82) dX12_rank_67 (by decide) ?_
                exact G_iret rfl (rL 7 rfl) dX12_rank_82 ⟨_, rfl, h⟩ hO
              · have h := h.2 c7
                refine G_iload_n 0 rfl rfl dX12_rank_60 ?_
                refine G_iconst dX12_rank_61 ?_
                refine G_icmp_ne hx1 (rL 4 rfl) dX12_rank_62 (tgt := 70) (by decide) (fun c8 => ?_) (fun c8 => ?_)
                · have h := h.1 c8
                  refine G_iload_n 0 rfl rfl dX12_rank_70 ?_
                  refine G_bipush (by decide) dX12_rank_71 ?_
                  refine G_icmp_lt hx1 (rL 8 rfl) dX12_rank_73 (tgt := 81) (by decide) (fun c9 => ?_) (fun c9 => ?_)
                  · have h := h.1 c9
                    refine G_iconst dX12_rank_81 ?_
                    exact G_iret rfl (rL 5 rfl) dX12_rank_82 ⟨_, rfl, h⟩ hO
                  · have h := h.2 c9
                    refine G_bipush (by decide) dX12_rank_76 ?_
                    refine G_goto (tgt := 82) dX12_rank_78 (by decide) ?_
                    exact G_iret rfl (rL 6 rfl) dX12_rank_82 ⟨_, rfl, h⟩ hO
                · have h := h.2 c8
                  refine G_bipush (by decide) dX12_rank_65 ?_
                  refine G_goto (tgt := 82) dX12_rank_67 (by decide) ?_
                  exact G_iret rfl (rL 7 rfl) dX12_rank_82 ⟨_, rfl, h⟩ hO
          · have h := h.2 c5
            refine G_iconst dX12_rank_46 ?_
            refine G_goto (tgt := 82) dX12_rank_47 (by decide) ?_
            exact G_iret rfl (rL 4 rfl) dX12_rank_82 ⟨_, rfl, h⟩ hO
        · have h := h.2 c4
          refine G_iconst dX12_rank_36 ?_
          refine G_goto (tgt := 82) dX12_rank_37 (by decide) ?_
          exact G_iret rfl (rL 3 rfl) dX12_rank_82 ⟨_, rfl, h⟩ hO
      · have h := h.2 c3
        refine G_iconst dX12_rank_26 ?_
        refine G_goto (tgt := 82) dX12_rank_27 (by decide) ?_
        exact G_iret rfl (rL 2 rfl) dX12_rank_82 ⟨_, rfl, h⟩ hO
    · have h := h.2 c2
      refine G_iconst dX12_rank_16 ?_
      refine G_goto (tgt := 82) dX12_rank_17 (by decide) ?_
      exact G_iret rfl (rL 1 rfl) dX12_rank_82 ⟨_, rfl, h⟩ hO
  · have h := h.2 c1
    refine G_iconst dX12_rank_6 ?_
    refine G_goto (tgt := 82) dX12_rank_7 (by decide) ?_
    exact G_iret rfl (rL 0 rfl) dX12_rank_82 ⟨_, rfl, h⟩ hO

theorem sp_X12_rank (d : Nat) (hd : 0 ≤ d) (σ : Mem) (hO : OKm σ) (x1 : Int) (hx1 : R32 x1) : Mt yX12_rank cX12_rank 1 (some .int) d [aI (x1)] σ (QI (fun v σ' => (rankS x1) = v ∧ σ = σ')) := mt_X12_rank hd hx1 hO (by
  unfold wp_X12_rank
  unfold rankS
  grind)

def wp_X12_isOf (x1 : Int) (σ : Mem) (Q : Int → Mem → Prop) : Prop :=
  ((x1 < 5) →
    Q 1 σ) ∧
   ((5 ≤ x1) →
    ((8 ≤ x1) →
     (((σ 74 14) ≠ 1) →
      Q 0 σ) ∧
     (((σ 74 14) = 1) →
      Q 1 σ)) ∧
    ((x1 < 8) →
     (((σ 74 14) ≠ 0) →
      Q 0 σ) ∧
     (((σ 74 14) = 0) →
      Q 1 σ)))
theorem mt_X12_isOf {d : Nat} (hd : 0 ≤ d) {x1 : Int} {σ : Mem} {Q : Int → Mem → Prop} (hx1 : R32 x1) (hO : OKm σ) (h : wp_X12_isOf x1 σ Q) : Mt yX12_isOf cX12_isOf 2 (some .boolean) d [aR (74), aI (x1)] σ (QI Q) := by
  refine Mt.intro (by decide +kernel) (Nat.le_of_ble_eq_true rfl) [(0, aR (74)), (1, aI (x1))] rfl ?_
  unfold wp_X12_isOf at h
  refine G_iload_n 1 rfl rfl dX12_isOf_0 ?_
  refine G_iconst dX12_isOf_1 ?_
  refine G_icmp_lt hx1 (rL 5 rfl) dX12_isOf_2 (tgt := 29) (by decide) (fun c1 => ?_) (fun c1 => ?_)
  · have h := h.1 c1
    refine G_iconst dX12_isOf_29 ?_
    refine G_goto (tgt := 34) dX12_isOf_30 (by decide) ?_
    exact G_zret rfl (by decide) dX12_isOf_34 ⟨_, rfl, h⟩ hO
  · have h := h.2 c1
    refine G_iload_n 1 rfl rfl dX12_isOf_5 ?_
    refine G_bipush (by decide) dX12_isOf_6 ?_
    refine G_icmp_ge hx1 (rL 8 rfl) dX12_isOf_8 (tgt := 21) (by decide) (fun c2 => ?_) (fun c2 => ?_)
    · have h := h.1 c2
      refine G_aload_n 0 rfl rfl dX12_isOf_21 ?_
      refine G_get (k := 14) (kd := (0, 0)) (v := aI (σ 74 14)) gf_X12_157 rfl rfl rfl rfl dX12_isOf_22 ?_
      refine G_iconst dX12_isOf_25 ?_
      refine G_icmp_ne (OKm.i hO 74 14 rfl) (rL 1 rfl) dX12_isOf_26 (tgt := 33) (by decide) (fun c3 => ?_) (fun c3 => ?_)
      · have h := h.1 c3
        refine G_iconst dX12_isOf_33 ?_
        exact G_zret rfl (by decide) dX12_isOf_34 ⟨_, rfl, h⟩ hO
      · have h := h.2 c3
        refine G_iconst dX12_isOf_29 ?_
        refine G_goto (tgt := 34) dX12_isOf_30 (by decide) ?_
        exact G_zret rfl (by decide) dX12_isOf_34 ⟨_, rfl, h⟩ hO
    · have h := h.2 c2
      refine G_aload_n 0 rfl rfl dX12_isOf_11 ?_
      refine G_get (k := 14) (kd := (0, 0)) (v := aI (σ 74 14)) gf_X12_157 rfl rfl rfl rfl dX12_isOf_12 ?_
      refine G_if_ne (OKm.i hO 74 14 rfl) dX12_isOf_15 (tgt := 33) (by decide) (fun c4 => ?_) (fun c4 => ?_)
      · have h := h.1 c4
        refine G_iconst dX12_isOf_33 ?_
        exact G_zret rfl (by decide) dX12_isOf_34 ⟨_, rfl, h⟩ hO
      · have h := h.2 c4
        refine G_goto (tgt := 29) dX12_isOf_18 (by decide) ?_
        refine G_iconst dX12_isOf_29 ?_
        refine G_goto (tgt := 34) dX12_isOf_30 (by decide) ?_
        exact G_zret rfl (by decide) dX12_isOf_34 ⟨_, rfl, h⟩ hO

theorem sp_X12_isOf (d : Nat) (hd : 0 ≤ d) (σ : Mem) (hO : OKm σ) (x1 : Int) (hx1 : R32 x1) : Mt yX12_isOf cX12_isOf 2 (some .boolean) d [aR (74), aI (x1)] σ (QI (fun v σ' => bI (x1 < 5 ∨ (x1 < 8 ∧ σ 74 14 = 0) ∨ (8 ≤ x1 ∧ σ 74 14 = 1)) = v ∧ σ = σ')) := mt_X12_isOf hd hx1 hO (by
  unfold wp_X12_isOf
  grind [bI])

def wp_X12_compareOf  (σ : Mem) (Q : Int → Mem → Prop) : Prop :=
  (((σ 74 9) ≠ 60) →
    (((σ 74 9) ≠ 4) →
     (((σ 74 9) ≠ 62) →
      (((σ 74 9) ≠ 5) →
       (((σ 74 9) ≠ 61) →
        (((σ 74 9) ≠ 35) →
         Q (-1) σ) ∧
        (((σ 74 9) = 35) →
         Q 15 σ)) ∧
       (((σ 74 9) = 61) →
        Q 14 σ)) ∧
      (((σ 74 9) = 5) →
       Q 13 σ)) ∧
     (((σ 74 9) = 62) →
      Q 12 σ)) ∧
    (((σ 74 9) = 4) →
     Q 11 σ)) ∧
   (((σ 74 9) = 60) →
    Q 10 σ)
theorem mt_X12_compareOf {d : Nat} (hd : 0 ≤ d)  {σ : Mem} {Q : Int → Mem → Prop}  (hO : OKm σ) (h : wp_X12_compareOf  σ Q) : Mt yX12_compareOf cX12_compareOf 1 (some .int) d [aR (74)] σ (QI Q) := by
  refine Mt.intro (by decide +kernel) (Nat.le_of_ble_eq_true rfl) [(0, aR (74))] rfl ?_
  unfold wp_X12_compareOf at h
  refine G_aload_n 0 rfl rfl dX12_compareOf_0 ?_
  refine G_get (k := 9) (kd := (0, 0)) (v := aI (σ 74 9)) gf_X12_113 rfl rfl rfl rfl dX12_compareOf_1 ?_
  refine G_bipush (by decide) dX12_compareOf_4 ?_
  refine G_icmp_ne (OKm.i hO 74 9 rfl) (rL 60 rfl) dX12_compareOf_6 (tgt := 14) (by decide) (fun c1 => ?_) (fun c1 => ?_)
  · have h := h.1 c1
    refine G_aload_n 0 rfl rfl dX12_compareOf_14 ?_
    refine G_get (k := 9) (kd := (0, 0)) (v := aI (σ 74 9)) gf_X12_113 rfl rfl rfl rfl dX12_compareOf_15 ?_
    refine G_iconst dX12_compareOf_18 ?_
    refine G_icmp_ne (OKm.i hO 74 9 rfl) (rL 4 rfl) dX12_compareOf_19 (tgt := 27) (by decide) (fun c2 => ?_) (fun c2 => ?_)
    · have h := h.1 c2
      refine G_aload_n 0 rfl rfl dX12_compareOf_27 ?_
      refine G_get (k := 9) (kd := (0, 0)) (v := aI (σ 74 9)) gf_X12_113 rfl rfl rfl rfl dX12_compareOf_28 ?_
      refine G_bipush (by decide) dX12_compareOf_31 ?_
      refine G_icmp_ne (OKm.i hO 74 9 rfl) (rL 62 rfl) dX12_compareOf_33 (tgt := 41) (by decide) (fun c3 => ?_) (fun c3 => ?_)
      · have h := h.1 c3
        refine G_aload_n 0 rfl rfl dX12_compareOf_41 ?_
        refine G_get (k := 9) (kd := (0, 0)) (v := aI (σ 74 9)) gf_X12_113 rfl rfl rfl rfl dX12_compareOf_42 ?_
        refine G_iconst dX12_compareOf_45 ?_
        refine G_icmp_ne (OKm.i hO 74 9 rfl) (rL 5 rfl) dX12_compareOf_46 (tgt := 54) (by decide) (fun c4 => ?_) (fun c4 => ?_)
        · have h := h.1 c4
          refine G_aload_n 0 rfl rfl dX12_compareOf_54 ?_
          refine G_get (k := 9) (kd := (0, 0)) (v := aI (σ 74 9)) gf_X12_113 rfl rfl rfl rfl dX12_compareOf_55 ?_
          refine G_bipush (by decide) dX12_compareOf_58 ?_
          refine G_icmp_ne (OKm.i hO 74 9 rfl) (rL 61 rfl) dX12_compareOf_60 (tgt := 68) (by decide) (fun c5 => ?_) (fun c5 => ?_)
          · have h := h.1 c5
            refine G_aload_n 0 rfl rfl dX12_compareOf_68 ?_
            refine G_get (k := 9) (kd := (0, 0)) (v := aI (σ 74 9)) gf_X12_113 rfl rfl rfl rfl dX12_compareOf_69 ?_
            refine G_bipush (by decide) dX12_compareOf_72 ?_
            refine G_icmp_ne (OKm.i hO 74 9 rfl) (rL 35 rfl) dX12_compareOf_74 (tgt := 82) (by decide) (fun c6 => ?_) (fun c6 => ?_)
            · have h := h.1 c6
              refine G_iconst dX12_compareOf_82 ?_
              exact G_iret rfl (rL (-1) rfl) dX12_compareOf_83 ⟨_, rfl, h⟩ hO
            · have h := h.2 c6
              refine G_bipush (by decide) dX12_compareOf_77 ?_
              refine G_goto (tgt := 83) dX12_compareOf_79 (by decide) ?_
              exact G_iret rfl (rL 15 rfl) dX12_compareOf_83 ⟨_, rfl, h⟩ hO
          · have h := h.2 c5
            refine G_bipush (by decide) dX12_compareOf_63 ?_
            refine G_goto (tgt := 83) dX12_compareOf_65 (by decide) ?_
            exact G_iret rfl (rL 14 rfl) dX12_compareOf_83 ⟨_, rfl, h⟩ hO
        · have h := h.2 c4
          refine G_bipush (by decide) dX12_compareOf_49 ?_
          refine G_goto (tgt := 83) dX12_compareOf_51 (by decide) ?_
          exact G_iret rfl (rL 13 rfl) dX12_compareOf_83 ⟨_, rfl, h⟩ hO
      · have h := h.2 c3
        refine G_bipush (by decide) dX12_compareOf_36 ?_
        refine G_goto (tgt := 83) dX12_compareOf_38 (by decide) ?_
        exact G_iret rfl (rL 12 rfl) dX12_compareOf_83 ⟨_, rfl, h⟩ hO
    · have h := h.2 c2
      refine G_bipush (by decide) dX12_compareOf_22 ?_
      refine G_goto (tgt := 83) dX12_compareOf_24 (by decide) ?_
      exact G_iret rfl (rL 11 rfl) dX12_compareOf_83 ⟨_, rfl, h⟩ hO
  · have h := h.2 c1
    refine G_bipush (by decide) dX12_compareOf_9 ?_
    refine G_goto (tgt := 83) dX12_compareOf_11 (by decide) ?_
    exact G_iret rfl (rL 10 rfl) dX12_compareOf_83 ⟨_, rfl, h⟩ hO

theorem sp_X12_compareOf (d : Nat) (hd : 0 ≤ d) (σ : Mem) (hO : OKm σ) : Mt yX12_compareOf cX12_compareOf 1 (some .int) d [aR (74)] σ (QI (fun v σ' => (if σ 74 9 = 60 then 10 else if σ 74 9 = 4 then 11 else if σ 74 9 = 62 then 12 else if σ 74 9 = 5 then 13 else if σ 74 9 = 61 then 14 else if σ 74 9 = 35 then 15 else -1) = v ∧ σ = σ')) := mt_X12_compareOf hd  hO (by
  unfold wp_X12_compareOf
  grind)

def wp_X12_emit (x1 : Int) (x2 : Int) (σ : Mem) (Q : Mem → Prop) : Prop :=
  (0 ≤ (((σ 74 12) + 121) + (2 * (σ 74 13))) ∧ (((σ 74 12) + 121) + (2 * (σ 74 13))) < 2916) ∧
   ∀ σ2 : Mem, σ2 = mset σ 77 (((σ 74 12) + 121) + (2 * (σ 74 13))) x1 →
   (0 ≤ ((((σ2 74 12) + 121) + (2 * (σ2 74 13))) + 1) ∧ ((((σ2 74 12) + 121) + (2 * (σ2 74 13))) + 1) < 2916) ∧
   ∀ σ6 : Mem, σ6 = mset σ2 77 ((((σ2 74 12) + 121) + (2 * (σ2 74 13))) + 1) x2 →
   R32 ((σ6 74 13) + 1) ∧
   ∀ σ9 : Mem, σ9 = mset σ6 74 13 ((σ6 74 13) + 1) →
   Q σ9
theorem mt_X12_emit {d : Nat} (hd : 0 ≤ d) {x1 : Int} {x2 : Int} {σ : Mem} {Q : Mem → Prop} (hx1 : R32 x1) (hx2 : R32 x2) (hO : OKm σ) (h : wp_X12_emit x1 x2 σ Q) : Mt yX12_emit cX12_emit 3 none d [aR (74), aI (x1), aI (x2)] σ (QV Q) := by
  refine Mt.intro (by decide +kernel) (Nat.le_of_ble_eq_true rfl) [(0, aR (74)), (1, aI (x1)), (2, aI (x2))] rfl ?_
  unfold wp_X12_emit at h
  refine G_aload_n 0 rfl rfl dX12_emit_0 ?_
  refine G_get (k := 2) (kd := (2, 77)) (v := aR 77) gf_X12_16 rfl rfl rfl rfl dX12_emit_1 ?_
  refine G_aload_n 0 rfl rfl dX12_emit_4 ?_
  refine G_get (k := 12) (kd := (0, 0)) (v := aI (σ 74 12)) gf_X12_151 rfl rfl rfl rfl dX12_emit_5 ?_
  refine G_bipush (by decide) dX12_emit_8 ?_
  refine G_iadd dX12_emit_10 ?_
  refine G_iconst dX12_emit_11 ?_
  refine G_aload_n 0 rfl rfl dX12_emit_12 ?_
  refine G_get (k := 13) (kd := (0, 0)) (v := aI (σ 74 13)) gf_X12_154 rfl rfl rfl rfl dX12_emit_13 ?_
  refine G_imul dX12_emit_16 ?_
  refine G_iadd dX12_emit_17 ?_
  refine G_iload_n 1 rfl rfl dX12_emit_18 ?_
  obtain ⟨c1, h⟩ := h
  obtain ⟨σ2, e4⟩ : ∃ τ : Mem, τ = mset σ 77 (((σ 74 12) + 121) + (2 * (σ 74 13))) x1 := ⟨_, rfl⟩
  have h := h σ2 e4
  have o3 : OKm σ2 := by rw [e4]; exact OKm.seti hO _ _ _ hx1 (isLg_row (show shp 77 = (1, 2916, []) from rfl) _)
  refine G_iast (n := 2916) rfl c1.1 c1.2 dX12_emit_19 ?_
  rw [← e4]
  refine G_aload_n 0 rfl rfl dX12_emit_20 ?_
  refine G_get (k := 2) (kd := (2, 77)) (v := aR 77) gf_X12_16 rfl rfl rfl rfl dX12_emit_21 ?_
  refine G_aload_n 0 rfl rfl dX12_emit_24 ?_
  refine G_get (k := 12) (kd := (0, 0)) (v := aI (σ2 74 12)) gf_X12_151 rfl rfl rfl rfl dX12_emit_25 ?_
  refine G_bipush (by decide) dX12_emit_28 ?_
  refine G_iadd dX12_emit_30 ?_
  refine G_iconst dX12_emit_31 ?_
  refine G_aload_n 0 rfl rfl dX12_emit_32 ?_
  refine G_get (k := 13) (kd := (0, 0)) (v := aI (σ2 74 13)) gf_X12_154 rfl rfl rfl rfl dX12_emit_33 ?_
  refine G_imul dX12_emit_36 ?_
  refine G_iadd dX12_emit_37 ?_
  refine G_iconst dX12_emit_38 ?_
  refine G_iadd dX12_emit_39 ?_
  refine G_iload_n 2 rfl rfl dX12_emit_40 ?_
  obtain ⟨c5, h⟩ := h
  obtain ⟨σ6, e8⟩ : ∃ τ : Mem, τ = mset σ2 77 ((((σ2 74 12) + 121) + (2 * (σ2 74 13))) + 1) x2 := ⟨_, rfl⟩
  have h := h σ6 e8
  have o7 : OKm σ6 := by rw [e8]; exact OKm.seti o3 _ _ _ hx2 (isLg_row (show shp 77 = (1, 2916, []) from rfl) _)
  refine G_iast (n := 2916) rfl c5.1 c5.2 dX12_emit_41 ?_
  rw [← e8]
  refine G_aload_n 0 rfl rfl dX12_emit_42 ?_
  refine G_dup rfl dX12_emit_43 ?_
  refine G_get (k := 13) (kd := (0, 0)) (v := aI (σ6 74 13)) gf_X12_154 rfl rfl rfl rfl dX12_emit_44 ?_
  refine G_iconst dX12_emit_47 ?_
  refine G_iadd dX12_emit_48 ?_
  obtain ⟨c10, h⟩ := h
  obtain ⟨σ9, e12⟩ : ∃ τ : Mem, τ = mset σ6 74 13 ((σ6 74 13) + 1) := ⟨_, rfl⟩
  have h := h σ9 e12
  have o11 : OKm σ9 := by rw [e12]; exact OKm.seti o7 _ _ _ c10 rfl
  refine G_put (k := 13) (ki := 13) (kd := (0, 0)) (x := _) pf_X12_154 rfl rfl rfl rfl (fa_i (mset_self _ _ _ _)) (fun _ => rfl) (fun _ => rfl) dX12_emit_49 ?_
  rw [← e12]
  exact G_vret rfl dX12_emit_52 ⟨rfl, h⟩ o11

theorem sp_X12_emit (d : Nat) (hd : 0 ≤ d) (σ : Mem) (hO : OKm σ) (x1 : Int) (hx1 : R32 x1) (x2 : Int) (hx2 : R32 x2) (hpre : 0 ≤ σ 74 12 ∧ σ 74 12 ≤ 2187 ∧ 0 ≤ σ 74 13 ∧ σ 74 13 ≤ 303) : Mt yX12_emit cX12_emit 3 none d [aR (74), aI (x1), aI (x2)] σ (QV (fun σ' => σ' = (mset (mset (mset σ 77 (σ 74 12 + 121 + 2 * σ 74 13) x1) 77 (σ 74 12 + 121 + 2 * σ 74 13 + 1) x2) 74 13 (σ 74 13 + 1)))) := mt_X12_emit hd hx1 hx2 hO (by
  unfold wp_X12_emit
  refine ⟨by omega, fun σ2 e2 => ?_⟩
  have a1 : σ2 74 12 = σ 74 12 := by rw [e2, mset_off (by omega)]
  have a2 : σ2 74 13 = σ 74 13 := by rw [e2, mset_off (by omega)]
  rw [a1, a2]
  refine ⟨by omega, fun σ6 e6 => ?_⟩
  have a3 : σ6 74 13 = σ 74 13 := by rw [e6, mset_off (by omega)]; exact a2
  rw [a3]
  exact ⟨by unfold R32; omega, fun σ9 e9 => by rw [e9, e6, e2]⟩)

def wp_X8_kindAt (x1 : Int) (σ : Mem) (Q : Int → Mem → Prop) : Prop :=
  ((x1 < 0) →
    Q 43 σ) ∧
   ((0 ≤ x1) →
    (((σ 30 5) ≤ x1) →
     Q 43 σ) ∧
    ((x1 < (σ 30 5)) →
     (0 ≤ x1 ∧ x1 < 301) ∧
     Q (σ 32 x1) σ))
theorem mt_X8_kindAt {d : Nat} (hd : 0 ≤ d) {x1 : Int} {σ : Mem} {Q : Int → Mem → Prop} (hx1 : R32 x1) (hO : OKm σ) (h : wp_X8_kindAt x1 σ Q) : Mt yX8_kindAt cX8_kindAt 2 (some .int) d [aR (30), aI (x1)] σ (QI Q) := by
  refine Mt.intro (by decide +kernel) (Nat.le_of_ble_eq_true rfl) [(0, aR (30)), (1, aI (x1))] rfl ?_
  unfold wp_X8_kindAt at h
  refine G_iload_n 1 rfl rfl dX8_kindAt_0 ?_
  refine G_if_lt hx1 dX8_kindAt_1 (tgt := 21) (by decide) (fun c1 => ?_) (fun c1 => ?_)
  · have h := h.1 c1
    refine G_bipush (by decide) dX8_kindAt_21 ?_
    exact G_iret rfl (rL 43 rfl) dX8_kindAt_23 ⟨_, rfl, h⟩ hO
  · have h := h.2 c1
    refine G_iload_n 1 rfl rfl dX8_kindAt_4 ?_
    refine G_aload_n 0 rfl rfl dX8_kindAt_5 ?_
    refine G_get (k := 5) (kd := (0, 0)) (v := aI (σ 30 5)) gf_X8_28 rfl rfl rfl rfl dX8_kindAt_6 ?_
    refine G_icmp_ge hx1 (OKm.i hO 30 5 rfl) dX8_kindAt_9 (tgt := 21) (by decide) (fun c2 => ?_) (fun c2 => ?_)
    · have h := h.1 c2
      refine G_bipush (by decide) dX8_kindAt_21 ?_
      exact G_iret rfl (rL 43 rfl) dX8_kindAt_23 ⟨_, rfl, h⟩ hO
    · have h := h.2 c2
      refine G_aload_n 0 rfl rfl dX8_kindAt_12 ?_
      refine G_get (k := 2) (kd := (3, 2)) (v := aR (32)) gf_X8_19 rfl rfl rfl rfl dX8_kindAt_13 ?_
      refine G_iload_n 1 rfl rfl dX8_kindAt_16 ?_
      obtain ⟨c3, h⟩ := h
      refine G_iald (n := 301) rfl c3.1 c3.2 dX8_kindAt_17 ?_
      refine G_goto (tgt := 23) dX8_kindAt_18 (by decide) ?_
      exact G_iret rfl (OKm.i hO 32 x1 (isLg_row (show shp 32 = (1, 301, []) from rfl) _)) dX8_kindAt_23 ⟨_, rfl, h⟩ hO

theorem sp_X8_kindAt (d : Nat) (hd : 0 ≤ d) (σ : Mem) (hO : OKm σ) (x1 : Int) (hx1 : R32 x1) (hpre : σ 30 5 ≤ 301) : Mt yX8_kindAt cX8_kindAt 2 (some .int) d [aR (30), aI (x1)] σ (QI (fun v σ' => (if 0 ≤ x1 ∧ x1 < σ 30 5 then σ 32 x1 else 43) = v ∧ σ = σ')) := mt_X8_kindAt hd hx1 hO (by
  unfold wp_X8_kindAt
  grind)

def wp_X8_startAt (x1 : Int) (σ : Mem) (Q : Int → Mem → Prop) : Prop :=
  ((x1 < 0) →
    Q (σ 30 1) σ) ∧
   ((0 ≤ x1) →
    (((σ 30 5) ≤ x1) →
     Q (σ 30 1) σ) ∧
    ((x1 < (σ 30 5)) →
     (0 ≤ x1 ∧ x1 < 301) ∧
     Q (σ 33 x1) σ))
theorem mt_X8_startAt {d : Nat} (hd : 0 ≤ d) {x1 : Int} {σ : Mem} {Q : Int → Mem → Prop} (hx1 : R32 x1) (hO : OKm σ) (h : wp_X8_startAt x1 σ Q) : Mt yX8_startAt cX8_startAt 2 (some .int) d [aR (30), aI (x1)] σ (QI Q) := by
  refine Mt.intro (by decide +kernel) (Nat.le_of_ble_eq_true rfl) [(0, aR (30)), (1, aI (x1))] rfl ?_
  unfold wp_X8_startAt at h
  refine G_iload_n 1 rfl rfl dX8_startAt_0 ?_
  refine G_if_lt hx1 dX8_startAt_1 (tgt := 21) (by decide) (fun c1 => ?_) (fun c1 => ?_)
  · have h := h.1 c1
    refine G_aload_n 0 rfl rfl dX8_startAt_21 ?_
    refine G_get (k := 1) (kd := (0, 0)) (v := aI (σ 30 1)) gf_X8_15 rfl rfl rfl rfl dX8_startAt_22 ?_
    exact G_iret rfl (OKm.i hO 30 1 rfl) dX8_startAt_25 ⟨_, rfl, h⟩ hO
  · have h := h.2 c1
    refine G_iload_n 1 rfl rfl dX8_startAt_4 ?_
    refine G_aload_n 0 rfl rfl dX8_startAt_5 ?_
    refine G_get (k := 5) (kd := (0, 0)) (v := aI (σ 30 5)) gf_X8_28 rfl rfl rfl rfl dX8_startAt_6 ?_
    refine G_icmp_ge hx1 (OKm.i hO 30 5 rfl) dX8_startAt_9 (tgt := 21) (by decide) (fun c2 => ?_) (fun c2 => ?_)
    · have h := h.1 c2
      refine G_aload_n 0 rfl rfl dX8_startAt_21 ?_
      refine G_get (k := 1) (kd := (0, 0)) (v := aI (σ 30 1)) gf_X8_15 rfl rfl rfl rfl dX8_startAt_22 ?_
      exact G_iret rfl (OKm.i hO 30 1 rfl) dX8_startAt_25 ⟨_, rfl, h⟩ hO
    · have h := h.2 c2
      refine G_aload_n 0 rfl rfl dX8_startAt_12 ?_
      refine G_get (k := 3) (kd := (3, 3)) (v := aR (33)) gf_X8_22 rfl rfl rfl rfl dX8_startAt_13 ?_
      refine G_iload_n 1 rfl rfl dX8_startAt_16 ?_
      obtain ⟨c3, h⟩ := h
      refine G_iald (n := 301) rfl c3.1 c3.2 dX8_startAt_17 ?_
      refine G_goto (tgt := 25) dX8_startAt_18 (by decide) ?_
      exact G_iret rfl (OKm.i hO 33 x1 (isLg_row (show shp 33 = (1, 301, []) from rfl) _)) dX8_startAt_25 ⟨_, rfl, h⟩ hO

theorem sp_X8_startAt (d : Nat) (hd : 0 ≤ d) (σ : Mem) (hO : OKm σ) (x1 : Int) (hx1 : R32 x1) (hpre : σ 30 5 ≤ 301) : Mt yX8_startAt cX8_startAt 2 (some .int) d [aR (30), aI (x1)] σ (QI (fun v σ' => (if 0 ≤ x1 ∧ x1 < σ 30 5 then σ 33 x1 else σ 30 1) = v ∧ σ = σ')) := mt_X8_startAt hd hx1 hO (by
  unfold wp_X8_startAt
  grind)

def wp_X8_numberAt (x1 : Int) (σ : Mem) (Q : Int → Mem → Prop) : Prop :=
  ((x1 < 0) →
    Q (-1) σ) ∧
   ((0 ≤ x1) →
    (((σ 30 5) ≤ x1) →
     Q (-1) σ) ∧
    ((x1 < (σ 30 5)) →
     (0 ≤ x1 ∧ x1 < 301) ∧
     Q (σ 34 x1) σ))
theorem mt_X8_numberAt {d : Nat} (hd : 0 ≤ d) {x1 : Int} {σ : Mem} {Q : Int → Mem → Prop} (hx1 : R32 x1) (hO : OKm σ) (h : wp_X8_numberAt x1 σ Q) : Mt yX8_numberAt cX8_numberAt 2 (some .int) d [aR (30), aI (x1)] σ (QI Q) := by
  refine Mt.intro (by decide +kernel) (Nat.le_of_ble_eq_true rfl) [(0, aR (30)), (1, aI (x1))] rfl ?_
  unfold wp_X8_numberAt at h
  refine G_iload_n 1 rfl rfl dX8_numberAt_0 ?_
  refine G_if_lt hx1 dX8_numberAt_1 (tgt := 21) (by decide) (fun c1 => ?_) (fun c1 => ?_)
  · have h := h.1 c1
    refine G_iconst dX8_numberAt_21 ?_
    exact G_iret rfl (rL (-1) rfl) dX8_numberAt_22 ⟨_, rfl, h⟩ hO
  · have h := h.2 c1
    refine G_iload_n 1 rfl rfl dX8_numberAt_4 ?_
    refine G_aload_n 0 rfl rfl dX8_numberAt_5 ?_
    refine G_get (k := 5) (kd := (0, 0)) (v := aI (σ 30 5)) gf_X8_28 rfl rfl rfl rfl dX8_numberAt_6 ?_
    refine G_icmp_ge hx1 (OKm.i hO 30 5 rfl) dX8_numberAt_9 (tgt := 21) (by decide) (fun c2 => ?_) (fun c2 => ?_)
    · have h := h.1 c2
      refine G_iconst dX8_numberAt_21 ?_
      exact G_iret rfl (rL (-1) rfl) dX8_numberAt_22 ⟨_, rfl, h⟩ hO
    · have h := h.2 c2
      refine G_aload_n 0 rfl rfl dX8_numberAt_12 ?_
      refine G_get (k := 4) (kd := (3, 4)) (v := aR (34)) gf_X8_25 rfl rfl rfl rfl dX8_numberAt_13 ?_
      refine G_iload_n 1 rfl rfl dX8_numberAt_16 ?_
      obtain ⟨c3, h⟩ := h
      refine G_iald (n := 301) rfl c3.1 c3.2 dX8_numberAt_17 ?_
      refine G_goto (tgt := 22) dX8_numberAt_18 (by decide) ?_
      exact G_iret rfl (OKm.i hO 34 x1 (isLg_row (show shp 34 = (1, 301, []) from rfl) _)) dX8_numberAt_22 ⟨_, rfl, h⟩ hO

theorem sp_X8_numberAt (d : Nat) (hd : 0 ≤ d) (σ : Mem) (hO : OKm σ) (x1 : Int) (hx1 : R32 x1) (hpre : σ 30 5 ≤ 301) : Mt yX8_numberAt cX8_numberAt 2 (some .int) d [aR (30), aI (x1)] σ (QI (fun v σ' => (if 0 ≤ x1 ∧ x1 < σ 30 5 then σ 34 x1 else -1) = v ∧ σ = σ')) := mt_X8_numberAt hd hx1 hO (by
  unfold wp_X8_numberAt
  grind)

def wp_X8_put (x1 : Int) (x2 : Int) (x3 : Int) (σ : Mem) (Q : Mem → Prop) : Prop :=
  ((301 ≤ (σ 30 5)) →
    Q σ) ∧
   (((σ 30 5) < 301) →
    (0 ≤ (σ 30 5) ∧ (σ 30 5) < 301) ∧
    ∀ σ3 : Mem, σ3 = mset σ 32 (σ 30 5) x1 →
    (0 ≤ (σ3 30 5) ∧ (σ3 30 5) < 301) ∧
    ∀ σ7 : Mem, σ7 = mset σ3 33 (σ3 30 5) x2 →
    (0 ≤ (σ7 30 5) ∧ (σ7 30 5) < 301) ∧
    ∀ σ11 : Mem, σ11 = mset σ7 34 (σ7 30 5) x3 →
    R32 ((σ11 30 5) + 1) ∧
    ∀ σ14 : Mem, σ14 = mset σ11 30 5 ((σ11 30 5) + 1) →
    Q σ14)
theorem mt_X8_put {d : Nat} (hd : 0 ≤ d) {x1 : Int} {x2 : Int} {x3 : Int} {σ : Mem} {Q : Mem → Prop} (hx1 : R32 x1) (hx2 : R32 x2) (hx3 : R32 x3) (hO : OKm σ) (h : wp_X8_put x1 x2 x3 σ Q) : Mt yX8_put cX8_put 4 none d [aR (30), aI (x1), aI (x2), aI (x3)] σ (QV Q) := by
  refine Mt.intro (by decide +kernel) (Nat.le_of_ble_eq_true rfl) [(0, aR (30)), (1, aI (x1)), (2, aI (x2)), (3, aI (x3))] rfl ?_
  unfold wp_X8_put at h
  refine G_aload_n 0 rfl rfl dX8_put_0 ?_
  refine G_get (k := 5) (kd := (0, 0)) (v := aI (σ 30 5)) gf_X8_28 rfl rfl rfl rfl dX8_put_1 ?_
  refine G_aload_n 0 rfl rfl dX8_put_4 ?_
  refine G_get (k := 2) (kd := (3, 2)) (v := aR (32)) gf_X8_19 rfl rfl rfl rfl dX8_put_5 ?_
  refine G_alen (v := 301) (n := 301) rfl (by decide) (by decide) rfl dX8_put_8 ?_
  refine G_icmp_ge (OKm.i hO 30 5 rfl) (rL 301 rfl) dX8_put_9 (tgt := 52) (by decide) (fun c1 => ?_) (fun c1 => ?_)
  · have h := h.1 c1
    exact G_vret rfl dX8_put_52 ⟨rfl, h⟩ hO
  · have h := h.2 c1
    refine G_aload_n 0 rfl rfl dX8_put_12 ?_
    refine G_get (k := 2) (kd := (3, 2)) (v := aR (32)) gf_X8_19 rfl rfl rfl rfl dX8_put_13 ?_
    refine G_aload_n 0 rfl rfl dX8_put_16 ?_
    refine G_get (k := 5) (kd := (0, 0)) (v := aI (σ 30 5)) gf_X8_28 rfl rfl rfl rfl dX8_put_17 ?_
    refine G_iload_n 1 rfl rfl dX8_put_20 ?_
    obtain ⟨c2, h⟩ := h
    obtain ⟨σ3, e5⟩ : ∃ τ : Mem, τ = mset σ 32 (σ 30 5) x1 := ⟨_, rfl⟩
    have h := h σ3 e5
    have o4 : OKm σ3 := by rw [e5]; exact OKm.seti hO _ _ _ hx1 (isLg_row (show shp 32 = (1, 301, []) from rfl) _)
    refine G_iast (n := 301) rfl c2.1 c2.2 dX8_put_21 ?_
    rw [← e5]
    refine G_aload_n 0 rfl rfl dX8_put_22 ?_
    refine G_get (k := 3) (kd := (3, 3)) (v := aR (33)) gf_X8_22 rfl rfl rfl rfl dX8_put_23 ?_
    refine G_aload_n 0 rfl rfl dX8_put_26 ?_
    refine G_get (k := 5) (kd := (0, 0)) (v := aI (σ3 30 5)) gf_X8_28 rfl rfl rfl rfl dX8_put_27 ?_
    refine G_iload_n 2 rfl rfl dX8_put_30 ?_
    obtain ⟨c6, h⟩ := h
    obtain ⟨σ7, e9⟩ : ∃ τ : Mem, τ = mset σ3 33 (σ3 30 5) x2 := ⟨_, rfl⟩
    have h := h σ7 e9
    have o8 : OKm σ7 := by rw [e9]; exact OKm.seti o4 _ _ _ hx2 (isLg_row (show shp 33 = (1, 301, []) from rfl) _)
    refine G_iast (n := 301) rfl c6.1 c6.2 dX8_put_31 ?_
    rw [← e9]
    refine G_aload_n 0 rfl rfl dX8_put_32 ?_
    refine G_get (k := 4) (kd := (3, 4)) (v := aR (34)) gf_X8_25 rfl rfl rfl rfl dX8_put_33 ?_
    refine G_aload_n 0 rfl rfl dX8_put_36 ?_
    refine G_get (k := 5) (kd := (0, 0)) (v := aI (σ7 30 5)) gf_X8_28 rfl rfl rfl rfl dX8_put_37 ?_
    refine G_iload_n 3 rfl rfl dX8_put_40 ?_
    obtain ⟨c10, h⟩ := h
    obtain ⟨σ11, e13⟩ : ∃ τ : Mem, τ = mset σ7 34 (σ7 30 5) x3 := ⟨_, rfl⟩
    have h := h σ11 e13
    have o12 : OKm σ11 := by rw [e13]; exact OKm.seti o8 _ _ _ hx3 (isLg_row (show shp 34 = (1, 301, []) from rfl) _)
    refine G_iast (n := 301) rfl c10.1 c10.2 dX8_put_41 ?_
    rw [← e13]
    refine G_aload_n 0 rfl rfl dX8_put_42 ?_
    refine G_dup rfl dX8_put_43 ?_
    refine G_get (k := 5) (kd := (0, 0)) (v := aI (σ11 30 5)) gf_X8_28 rfl rfl rfl rfl dX8_put_44 ?_
    refine G_iconst dX8_put_47 ?_
    refine G_iadd dX8_put_48 ?_
    obtain ⟨c15, h⟩ := h
    obtain ⟨σ14, e17⟩ : ∃ τ : Mem, τ = mset σ11 30 5 ((σ11 30 5) + 1) := ⟨_, rfl⟩
    have h := h σ14 e17
    have o16 : OKm σ14 := by rw [e17]; exact OKm.seti o12 _ _ _ c15 rfl
    refine G_put (k := 5) (ki := 5) (kd := (0, 0)) (x := _) pf_X8_28 rfl rfl rfl rfl (fa_i (mset_self _ _ _ _)) (fun _ => rfl) (fun _ => rfl) dX8_put_49 ?_
    rw [← e17]
    exact G_vret rfl dX8_put_52 ⟨rfl, h⟩ o16

theorem sp_X8_put (d : Nat) (hd : 0 ≤ d) (σ : Mem) (hO : OKm σ) (x1 : Int) (hx1 : R32 x1) (x2 : Int) (hx2 : R32 x2) (x3 : Int) (hx3 : R32 x3) (hpre : 0 ≤ σ 30 5 ∧ σ 30 5 < 301) : Mt yX8_put cX8_put 4 none d [aR (30), aI (x1), aI (x2), aI (x3)] σ (QV (fun σ' => σ' = (mset (mset (mset (mset σ 32 (σ 30 5) x1) 33 (σ 30 5) x2) 34 (σ 30 5) x3) 30 5 (σ 30 5 + 1)))) := mt_X8_put hd hx1 hx2 hx3 hO (by
  unfold wp_X8_put
  refine ⟨fun h => absurd h (by omega), fun _ => ⟨by omega, fun σ3 e3 => ?_⟩⟩
  have a3 : σ3 30 5 = σ 30 5 := by rw [e3, mset_off (by omega)]
  rw [a3]
  refine ⟨by omega, fun σ7 e7 => ?_⟩
  have a7 : σ7 30 5 = σ 30 5 := by rw [e7, mset_off (by omega)]; exact a3
  rw [a7]
  refine ⟨by omega, fun σ11 e11 => ?_⟩
  have a11 : σ11 30 5 = σ 30 5 := by rw [e11, mset_off (by omega)]; exact a7
  rw [a11]
  exact ⟨by unfold R32; omega, fun σ14 e14 => by rw [e14, e11, e7, e3]⟩)

def wp_X8_isLetter (x1 : Int) (σ : Mem) (Q : Int → Mem → Prop) : Prop :=
  (((97 : Int) ≤ x1 ∧ x1 ≤ (122 : Int)) →
    Q 1 σ) ∧
   ((¬ ((97 : Int) ≤ x1 ∧ x1 ≤ (122 : Int))) →
    ((¬ ((65 : Int) ≤ x1 ∧ x1 ≤ (90 : Int))) →
     Q 0 σ) ∧
    (((65 : Int) ≤ x1 ∧ x1 ≤ (90 : Int)) →
     Q 1 σ))
theorem mt_X8_isLetter {d : Nat} (hd : 1 ≤ d) {x1 : Int} {σ : Mem} {Q : Int → Mem → Prop} (hx1 : R32 x1) (hO : OKm σ) (h : wp_X8_isLetter x1 σ Q) : Mt yX8_isLetter cX8_isLetter 1 (some .boolean) d [aI (x1)] σ (QI Q) := by
  refine Mt.intro (by decide +kernel) (Nat.le_of_ble_eq_true rfl) [(0, aI (x1))] rfl ?_
  unfold wp_X8_isLetter at h
  refine G_iload_n 0 rfl rfl dX8_isLetter_0 ?_
  refine G_bipush (by decide) dX8_isLetter_1 ?_
  refine G_bipush (by decide) dX8_isLetter_3 ?_
  refine G_callN (as := [_, _, _]) cf_X8_79 rfl (sp_X11_within (d - 1) (by omega) _ hO _ hx1 _ (rL 97 rfl) _ (rL 122 rfl)) (by omega) rfl rfl (Nat.le_of_ble_eq_true rfl) dX8_isLetter_5 ?_
  rintro _ _ ⟨_, rfl, rfl, rfl⟩ o2 r1
  refine G_if_ne (bI_R _) dX8_isLetter_8 (tgt := 22) (by decide) (fun c3 => ?_) (fun c3 => ?_)
  · have h := h.1 (bI_ne c3)
    refine G_iconst dX8_isLetter_22 ?_
    refine G_goto (tgt := 27) dX8_isLetter_23 (by decide) ?_
    exact G_zret rfl (by decide) dX8_isLetter_27 ⟨_, rfl, h⟩ hO
  · have h := h.2 ((bI_0 _).mp c3)
    refine G_iload_n 0 rfl rfl dX8_isLetter_11 ?_
    refine G_bipush (by decide) dX8_isLetter_12 ?_
    refine G_bipush (by decide) dX8_isLetter_14 ?_
    refine G_callN (as := [_, _, _]) cf_X8_79 rfl (sp_X11_within (d - 1) (by omega) _ hO _ hx1 _ (rL 65 rfl) _ (rL 90 rfl)) (by omega) rfl rfl (Nat.le_of_ble_eq_true rfl) dX8_isLetter_16 ?_
    rintro _ _ ⟨_, rfl, rfl, rfl⟩ o5 r4
    refine G_if_eq (bI_R _) dX8_isLetter_19 (tgt := 26) (by decide) (fun c6 => ?_) (fun c6 => ?_)
    · have h := h.1 ((bI_0 _).mp c6)
      refine G_iconst dX8_isLetter_26 ?_
      exact G_zret rfl (by decide) dX8_isLetter_27 ⟨_, rfl, h⟩ hO
    · have h := h.2 (bI_ne c6)
      refine G_iconst dX8_isLetter_22 ?_
      refine G_goto (tgt := 27) dX8_isLetter_23 (by decide) ?_
      exact G_zret rfl (by decide) dX8_isLetter_27 ⟨_, rfl, h⟩ hO

theorem sp_X8_isLetter (d : Nat) (hd : 1 ≤ d) (σ : Mem) (hO : OKm σ) (x1 : Int) (hx1 : R32 x1) : Mt yX8_isLetter cX8_isLetter 1 (some .boolean) d [aI (x1)] σ (QI (fun v σ' => bI ((97 ≤ x1 ∧ x1 ≤ 122) ∨ (65 ≤ x1 ∧ x1 ≤ 90)) = v ∧ σ = σ')) := mt_X8_isLetter hd hx1 hO (by
  unfold wp_X8_isLetter
  grind [bI])

def wp_X8_isDigit (x1 : Int) (σ : Mem) (Q : Int → Mem → Prop) : Prop :=
  Q (bI ((48 : Int) ≤ x1 ∧ x1 ≤ (57 : Int))) σ
theorem mt_X8_isDigit {d : Nat} (hd : 1 ≤ d) {x1 : Int} {σ : Mem} {Q : Int → Mem → Prop} (hx1 : R32 x1) (hO : OKm σ) (h : wp_X8_isDigit x1 σ Q) : Mt yX8_isDigit cX8_isDigit 1 (some .boolean) d [aI (x1)] σ (QI Q) := by
  refine Mt.intro (by decide +kernel) (Nat.le_of_ble_eq_true rfl) [(0, aI (x1))] rfl ?_
  unfold wp_X8_isDigit at h
  refine G_iload_n 0 rfl rfl dX8_isDigit_0 ?_
  refine G_bipush (by decide) dX8_isDigit_1 ?_
  refine G_bipush (by decide) dX8_isDigit_3 ?_
  refine G_callN (as := [_, _, _]) cf_X8_79 rfl (sp_X11_within (d - 1) (by omega) _ hO _ hx1 _ (rL 48 rfl) _ (rL 57 rfl)) (by omega) rfl rfl (Nat.le_of_ble_eq_true rfl) dX8_isDigit_5 ?_
  rintro _ _ ⟨_, rfl, rfl, rfl⟩ o2 r1
  exact G_zret rfl (bI_01 _) dX8_isDigit_8 ⟨_, rfl, h⟩ hO

theorem sp_X8_isDigit (d : Nat) (hd : 1 ≤ d) (σ : Mem) (hO : OKm σ) (x1 : Int) (hx1 : R32 x1) : Mt yX8_isDigit cX8_isDigit 1 (some .boolean) d [aI (x1)] σ (QI (fun v σ' => bI (48 ≤ x1 ∧ x1 ≤ 57) = v ∧ σ = σ')) := mt_X8_isDigit hd hx1 hO (by
  unfold wp_X8_isDigit
  exact ⟨rfl, rfl⟩)

def wp_X1_isName (x1 : Int) (σ : Mem) (Q : Int → Mem → Prop) : Prop :=
  Q (bI ((0 : Int) ≤ x1 ∧ x1 ≤ (8 : Int))) σ
theorem mt_X1_isName {d : Nat} (hd : 1 ≤ d) {x1 : Int} {σ : Mem} {Q : Int → Mem → Prop} (hx1 : R32 x1) (hO : OKm σ) (h : wp_X1_isName x1 σ Q) : Mt yX1_isName cX1_isName 1 (some .boolean) d [aI (x1)] σ (QI Q) := by
  refine Mt.intro (by decide +kernel) (Nat.le_of_ble_eq_true rfl) [(0, aI (x1))] rfl ?_
  unfold wp_X1_isName at h
  refine G_iload_n 0 rfl rfl dX1_isName_0 ?_
  refine G_iconst dX1_isName_1 ?_
  refine G_bipush (by decide) dX1_isName_2 ?_
  refine G_callN (as := [_, _, _]) cf_X1_9 rfl (sp_X11_within (d - 1) (by omega) _ hO _ hx1 _ (rL 0 rfl) _ (rL 8 rfl)) (by omega) rfl rfl (Nat.le_of_ble_eq_true rfl) dX1_isName_4 ?_
  rintro _ _ ⟨_, rfl, rfl, rfl⟩ o2 r1
  exact G_zret rfl (bI_01 _) dX1_isName_7 ⟨_, rfl, h⟩ hO

theorem sp_X1_isName (d : Nat) (hd : 1 ≤ d) (σ : Mem) (hO : OKm σ) (x1 : Int) (hx1 : R32 x1) : Mt yX1_isName cX1_isName 1 (some .boolean) d [aI (x1)] σ (QI (fun v σ' => bI (0 ≤ x1 ∧ x1 ≤ 8) = v ∧ σ = σ')) := mt_X1_isName hd hx1 hO (by
  unfold wp_X1_isName
  exact ⟨rfl, rfl⟩)

def wp_X1_isNameOf (x1 : Int) (x2 : Int) (σ : Mem) (Q : Int → Mem → Prop) : Prop :=
  (((0 : Int) ≤ x1 ∧ x1 ≤ (4 : Int)) →
    Q 1 σ) ∧
   ((¬ ((0 : Int) ≤ x1 ∧ x1 ≤ (4 : Int))) →
    ((x2 ≠ 9) →
     ((x1 ≠ 8) →
      Q 0 σ) ∧
     ((x1 = 8) →
      Q 1 σ)) ∧
    ((x2 = 9) →
     ((¬ ((5 : Int) ≤ x1 ∧ x1 ≤ (7 : Int))) →
      Q 0 σ) ∧
     (((5 : Int) ≤ x1 ∧ x1 ≤ (7 : Int)) →
      Q 1 σ)))
theorem mt_X1_isNameOf {d : Nat} (hd : 1 ≤ d) {x1 : Int} {x2 : Int} {σ : Mem} {Q : Int → Mem → Prop} (hx1 : R32 x1) (hx2 : R32 x2) (hO : OKm σ) (h : wp_X1_isNameOf x1 x2 σ Q) : Mt yX1_isNameOf cX1_isNameOf 2 (some .boolean) d [aI (x1), aI (x2)] σ (QI Q) := by
  refine Mt.intro (by decide +kernel) (Nat.le_of_ble_eq_true rfl) [(0, aI (x1)), (1, aI (x2))] rfl ?_
  unfold wp_X1_isNameOf at h
  refine G_iload_n 0 rfl rfl dX1_isNameOf_0 ?_
  refine G_iconst dX1_isNameOf_1 ?_
  refine G_iconst dX1_isNameOf_2 ?_
  refine G_callN (as := [_, _, _]) cf_X1_9 rfl (sp_X11_within (d - 1) (by omega) _ hO _ hx1 _ (rL 0 rfl) _ (rL 4 rfl)) (by omega) rfl rfl (Nat.le_of_ble_eq_true rfl) dX1_isNameOf_3 ?_
  rintro _ _ ⟨_, rfl, rfl, rfl⟩ o2 r1
  refine G_if_ne (bI_R _) dX1_isNameOf_6 (tgt := 34) (by decide) (fun c3 => ?_) (fun c3 => ?_)
  · have h := h.1 (bI_ne c3)
    refine G_iconst dX1_isNameOf_34 ?_
    refine G_goto (tgt := 39) dX1_isNameOf_35 (by decide) ?_
    exact G_zret rfl (by decide) dX1_isNameOf_39 ⟨_, rfl, h⟩ hO
  · have h := h.2 ((bI_0 _).mp c3)
    refine G_iload_n 1 rfl rfl dX1_isNameOf_9 ?_
    refine G_bipush (by decide) dX1_isNameOf_10 ?_
    refine G_icmp_ne hx2 (rL 9 rfl) dX1_isNameOf_12 (tgt := 28) (by decide) (fun c4 => ?_) (fun c4 => ?_)
    · have h := h.1 c4
      refine G_iload_n 0 rfl rfl dX1_isNameOf_28 ?_
      refine G_bipush (by decide) dX1_isNameOf_29 ?_
      refine G_icmp_ne hx1 (rL 8 rfl) dX1_isNameOf_31 (tgt := 38) (by decide) (fun c5 => ?_) (fun c5 => ?_)
      · have h := h.1 c5
        refine G_iconst dX1_isNameOf_38 ?_
        exact G_zret rfl (by decide) dX1_isNameOf_39 ⟨_, rfl, h⟩ hO
      · have h := h.2 c5
        refine G_iconst dX1_isNameOf_34 ?_
        refine G_goto (tgt := 39) dX1_isNameOf_35 (by decide) ?_
        exact G_zret rfl (by decide) dX1_isNameOf_39 ⟨_, rfl, h⟩ hO
    · have h := h.2 c4
      refine G_iload_n 0 rfl rfl dX1_isNameOf_15 ?_
      refine G_iconst dX1_isNameOf_16 ?_
      refine G_bipush (by decide) dX1_isNameOf_17 ?_
      refine G_callN (as := [_, _, _]) cf_X1_9 rfl (sp_X11_within (d - 1) (by omega) _ hO _ hx1 _ (rL 5 rfl) _ (rL 7 rfl)) (by omega) rfl rfl (Nat.le_of_ble_eq_true rfl) dX1_isNameOf_19 ?_
      rintro _ _ ⟨_, rfl, rfl, rfl⟩ o7 r6
      refine G_if_eq (bI_R _) dX1_isNameOf_22 (tgt := 38) (by decide) (fun c8 => ?_) (fun c8 => ?_)
      · have h := h.1 ((bI_0 _).mp c8)
        refine G_iconst dX1_isNameOf_38 ?_
        exact G_zret rfl (by decide) dX1_isNameOf_39 ⟨_, rfl, h⟩ hO
      · have h := h.2 (bI_ne c8)
        refine G_goto (tgt := 34) dX1_isNameOf_25 (by decide) ?_
        refine G_iconst dX1_isNameOf_34 ?_
        refine G_goto (tgt := 39) dX1_isNameOf_35 (by decide) ?_
        exact G_zret rfl (by decide) dX1_isNameOf_39 ⟨_, rfl, h⟩ hO

theorem sp_X1_isNameOf (d : Nat) (hd : 1 ≤ d) (σ : Mem) (hO : OKm σ) (x1 : Int) (hx1 : R32 x1) (x2 : Int) (hx2 : R32 x2) : Mt yX1_isNameOf cX1_isNameOf 2 (some .boolean) d [aI (x1), aI (x2)] σ (QI (fun v σ' => bI ((0 ≤ x1 ∧ x1 ≤ 4) ∨ (x2 = 9 ∧ 5 ≤ x1 ∧ x1 ≤ 7) ∨ (x2 ≠ 9 ∧ x1 = 8)) = v ∧ σ = σ')) := mt_X1_isNameOf hd hx1 hx2 hO (by
  unfold wp_X1_isNameOf
  grind [bI])

def wp_X1_isAsking (x1 : Int) (σ : Mem) (Q : Int → Mem → Prop) : Prop :=
  (((28 : Int) ≤ x1 ∧ x1 ≤ (31 : Int)) →
    Q 1 σ) ∧
   ((¬ ((28 : Int) ≤ x1 ∧ x1 ≤ (31 : Int))) →
    ((¬ ((39 : Int) ≤ x1 ∧ x1 ≤ (40 : Int))) →
     Q 0 σ) ∧
    (((39 : Int) ≤ x1 ∧ x1 ≤ (40 : Int)) →
     Q 1 σ))
theorem mt_X1_isAsking {d : Nat} (hd : 1 ≤ d) {x1 : Int} {σ : Mem} {Q : Int → Mem → Prop} (hx1 : R32 x1) (hO : OKm σ) (h : wp_X1_isAsking x1 σ Q) : Mt yX1_isAsking cX1_isAsking 1 (some .boolean) d [aI (x1)] σ (QI Q) := by
  refine Mt.intro (by decide +kernel) (Nat.le_of_ble_eq_true rfl) [(0, aI (x1))] rfl ?_
  unfold wp_X1_isAsking at h
  refine G_iload_n 0 rfl rfl dX1_isAsking_0 ?_
  refine G_bipush (by decide) dX1_isAsking_1 ?_
  refine G_bipush (by decide) dX1_isAsking_3 ?_
  refine G_callN (as := [_, _, _]) cf_X1_9 rfl (sp_X11_within (d - 1) (by omega) _ hO _ hx1 _ (rL 28 rfl) _ (rL 31 rfl)) (by omega) rfl rfl (Nat.le_of_ble_eq_true rfl) dX1_isAsking_5 ?_
  rintro _ _ ⟨_, rfl, rfl, rfl⟩ o2 r1
  refine G_if_ne (bI_R _) dX1_isAsking_8 (tgt := 22) (by decide) (fun c3 => ?_) (fun c3 => ?_)
  · have h := h.1 (bI_ne c3)
    refine G_iconst dX1_isAsking_22 ?_
    refine G_goto (tgt := 27) dX1_isAsking_23 (by decide) ?_
    exact G_zret rfl (by decide) dX1_isAsking_27 ⟨_, rfl, h⟩ hO
  · have h := h.2 ((bI_0 _).mp c3)
    refine G_iload_n 0 rfl rfl dX1_isAsking_11 ?_
    refine G_bipush (by decide) dX1_isAsking_12 ?_
    refine G_bipush (by decide) dX1_isAsking_14 ?_
    refine G_callN (as := [_, _, _]) cf_X1_9 rfl (sp_X11_within (d - 1) (by omega) _ hO _ hx1 _ (rL 39 rfl) _ (rL 40 rfl)) (by omega) rfl rfl (Nat.le_of_ble_eq_true rfl) dX1_isAsking_16 ?_
    rintro _ _ ⟨_, rfl, rfl, rfl⟩ o5 r4
    refine G_if_eq (bI_R _) dX1_isAsking_19 (tgt := 26) (by decide) (fun c6 => ?_) (fun c6 => ?_)
    · have h := h.1 ((bI_0 _).mp c6)
      refine G_iconst dX1_isAsking_26 ?_
      exact G_zret rfl (by decide) dX1_isAsking_27 ⟨_, rfl, h⟩ hO
    · have h := h.2 (bI_ne c6)
      refine G_iconst dX1_isAsking_22 ?_
      refine G_goto (tgt := 27) dX1_isAsking_23 (by decide) ?_
      exact G_zret rfl (by decide) dX1_isAsking_27 ⟨_, rfl, h⟩ hO

theorem sp_X1_isAsking (d : Nat) (hd : 1 ≤ d) (σ : Mem) (hO : OKm σ) (x1 : Int) (hx1 : R32 x1) : Mt yX1_isAsking cX1_isAsking 1 (some .boolean) d [aI (x1)] σ (QI (fun v σ' => bI ((28 ≤ x1 ∧ x1 ≤ 31) ∨ (39 ≤ x1 ∧ x1 ≤ 40)) = v ∧ σ = σ')) := mt_X1_isAsking hd hx1 hO (by
  unfold wp_X1_isAsking
  grind [bI])

def wp_X5_startsClause (x1 : Int) (σ : Mem) (Q : Int → Mem → Prop) : Prop :=
  (x1 = 0 →
    Q 1 σ) ∧
   (x1 ≠ 0 →
    (x1 = 9 →
     Q 1 σ) ∧
    (x1 ≠ 9 →
     (x1 = 10 →
      Q 1 σ) ∧
     (x1 ≠ 10 →
      (x1 = 11 →
       Q 1 σ) ∧
      (x1 ≠ 11 →
       (x1 = 13 →
        Q 1 σ) ∧
       (x1 ≠ 13 →
        (x1 = 14 →
         Q 1 σ) ∧
        (x1 ≠ 14 →
         (x1 = 16 →
          Q 1 σ) ∧
         (x1 ≠ 16 →
          (x1 = 17 →
           Q 1 σ) ∧
          (x1 ≠ 17 →
           Q 0 σ))))))))
theorem mt_X5_startsClause {d : Nat} (hd : 0 ≤ d) {x1 : Int} {σ : Mem} {Q : Int → Mem → Prop} (hx1 : R32 x1) (hO : OKm σ) (h : wp_X5_startsClause x1 σ Q) : Mt yX5_startsClause cX5_startsClause 1 (some .boolean) d [aI (x1)] σ (QI Q) := by
  refine Mt.intro (by decide +kernel) (Nat.le_of_ble_eq_true rfl) [(0, aI (x1))] rfl ?_
  unfold wp_X5_startsClause at h
  refine G_iload_n 0 rfl rfl dX5_startsClause_0 ?_
  refine G_tsw (tgt := 88) 0 0 (by decide) (rL _ rfl) (by decide) rfl (by decide) hx1 dX5_startsClause_1 (fun n9 => ?_) (fun n9 => ?_)
  · have h := h.1 n9
    refine G_iconst dX5_startsClause_88 ?_
    exact G_zret rfl (by decide) dX5_startsClause_89 ⟨_, rfl, h⟩ hO
  · have h := h.2 n9
    have n10 : (1 : Int) ≤ x1 ∨ x1 < 0 := tsw_next (by decide) (tsw_0 _ _) n9
    refine G_tsw (tgt := 90) 1 1 (by decide) (rL _ rfl) (by decide) rfl (by decide) hx1 dX5_startsClause_1 (fun n11 => ?_) (fun n11 => ?_)
    · have h := (((((((h).2 (tsw_ne n11 (by decide))).2 (tsw_ne n11 (by decide))).2 (tsw_ne n11 (by decide))).2 (tsw_ne n11 (by decide))).2 (tsw_ne n11 (by decide))).2 (tsw_ne n11 (by decide))).2 (tsw_ne n11 (by decide))
      refine G_iconst dX5_startsClause_90 ?_
      exact G_zret rfl (by decide) dX5_startsClause_91 ⟨_, rfl, h⟩ hO
    · have n12 : (2 : Int) ≤ x1 ∨ x1 < 0 := tsw_next (by decide) n10 n11
      refine G_tsw (tgt := 90) 2 2 (by decide) (rL _ rfl) (by decide) rfl (by decide) hx1 dX5_startsClause_1 (fun n13 => ?_) (fun n13 => ?_)
      · have h := (((((((h).2 (tsw_ne n13 (by decide))).2 (tsw_ne n13 (by decide))).2 (tsw_ne n13 (by decide))).2 (tsw_ne n13 (by decide))).2 (tsw_ne n13 (by decide))).2 (tsw_ne n13 (by decide))).2 (tsw_ne n13 (by decide))
        refine G_iconst dX5_startsClause_90 ?_
        exact G_zret rfl (by decide) dX5_startsClause_91 ⟨_, rfl, h⟩ hO
      · have n14 : (3 : Int) ≤ x1 ∨ x1 < 0 := tsw_next (by decide) n12 n13
        refine G_tsw (tgt := 90) 3 3 (by decide) (rL _ rfl) (by decide) rfl (by decide) hx1 dX5_startsClause_1 (fun n15 => ?_) (fun n15 => ?_)
        · have h := (((((((h).2 (tsw_ne n15 (by decide))).2 (tsw_ne n15 (by decide))).2 (tsw_ne n15 (by decide))).2 (tsw_ne n15 (by decide))).2 (tsw_ne n15 (by decide))).2 (tsw_ne n15 (by decide))).2 (tsw_ne n15 (by decide))
          refine G_iconst dX5_startsClause_90 ?_
          exact G_zret rfl (by decide) dX5_startsClause_91 ⟨_, rfl, h⟩ hO
        · have n16 : (4 : Int) ≤ x1 ∨ x1 < 0 := tsw_next (by decide) n14 n15
          refine G_tsw (tgt := 90) 4 4 (by decide) (rL _ rfl) (by decide) rfl (by decide) hx1 dX5_startsClause_1 (fun n17 => ?_) (fun n17 => ?_)
          · have h := (((((((h).2 (tsw_ne n17 (by decide))).2 (tsw_ne n17 (by decide))).2 (tsw_ne n17 (by decide))).2 (tsw_ne n17 (by decide))).2 (tsw_ne n17 (by decide))).2 (tsw_ne n17 (by decide))).2 (tsw_ne n17 (by decide))
            refine G_iconst dX5_startsClause_90 ?_
            exact G_zret rfl (by decide) dX5_startsClause_91 ⟨_, rfl, h⟩ hO
          · have n18 : (5 : Int) ≤ x1 ∨ x1 < 0 := tsw_next (by decide) n16 n17
            refine G_tsw (tgt := 90) 5 5 (by decide) (rL _ rfl) (by decide) rfl (by decide) hx1 dX5_startsClause_1 (fun n19 => ?_) (fun n19 => ?_)
            · have h := (((((((h).2 (tsw_ne n19 (by decide))).2 (tsw_ne n19 (by decide))).2 (tsw_ne n19 (by decide))).2 (tsw_ne n19 (by decide))).2 (tsw_ne n19 (by decide))).2 (tsw_ne n19 (by decide))).2 (tsw_ne n19 (by decide))
              refine G_iconst dX5_startsClause_90 ?_
              exact G_zret rfl (by decide) dX5_startsClause_91 ⟨_, rfl, h⟩ hO
            · have n20 : (6 : Int) ≤ x1 ∨ x1 < 0 := tsw_next (by decide) n18 n19
              refine G_tsw (tgt := 90) 6 6 (by decide) (rL _ rfl) (by decide) rfl (by decide) hx1 dX5_startsClause_1 (fun n21 => ?_) (fun n21 => ?_)
              · have h := (((((((h).2 (tsw_ne n21 (by decide))).2 (tsw_ne n21 (by decide))).2 (tsw_ne n21 (by decide))).2 (tsw_ne n21 (by decide))).2 (tsw_ne n21 (by decide))).2 (tsw_ne n21 (by decide))).2 (tsw_ne n21 (by decide))
                refine G_iconst dX5_startsClause_90 ?_
                exact G_zret rfl (by decide) dX5_startsClause_91 ⟨_, rfl, h⟩ hO
              · have n22 : (7 : Int) ≤ x1 ∨ x1 < 0 := tsw_next (by decide) n20 n21
                refine G_tsw (tgt := 90) 7 7 (by decide) (rL _ rfl) (by decide) rfl (by decide) hx1 dX5_startsClause_1 (fun n23 => ?_) (fun n23 => ?_)
                · have h := (((((((h).2 (tsw_ne n23 (by decide))).2 (tsw_ne n23 (by decide))).2 (tsw_ne n23 (by decide))).2 (tsw_ne n23 (by decide))).2 (tsw_ne n23 (by decide))).2 (tsw_ne n23 (by decide))).2 (tsw_ne n23 (by decide))
                  refine G_iconst dX5_startsClause_90 ?_
                  exact G_zret rfl (by decide) dX5_startsClause_91 ⟨_, rfl, h⟩ hO
                · have n24 : (8 : Int) ≤ x1 ∨ x1 < 0 := tsw_next (by decide) n22 n23
                  refine G_tsw (tgt := 90) 8 8 (by decide) (rL _ rfl) (by decide) rfl (by decide) hx1 dX5_startsClause_1 (fun n25 => ?_) (fun n25 => ?_)
                  · have h := (((((((h).2 (tsw_ne n25 (by decide))).2 (tsw_ne n25 (by decide))).2 (tsw_ne n25 (by decide))).2 (tsw_ne n25 (by decide))).2 (tsw_ne n25 (by decide))).2 (tsw_ne n25 (by decide))).2 (tsw_ne n25 (by decide))
                    refine G_iconst dX5_startsClause_90 ?_
                    exact G_zret rfl (by decide) dX5_startsClause_91 ⟨_, rfl, h⟩ hO
                  · have n26 : (9 : Int) ≤ x1 ∨ x1 < 0 := tsw_next (by decide) n24 n25
                    refine G_tsw (tgt := 88) 9 9 (by decide) (rL _ rfl) (by decide) rfl (by decide) hx1 dX5_startsClause_1 (fun n27 => ?_) (fun n27 => ?_)
                    · have h := h.1 n27
                      refine G_iconst dX5_startsClause_88 ?_
                      exact G_zret rfl (by decide) dX5_startsClause_89 ⟨_, rfl, h⟩ hO
                    · have h := h.2 n27
                      have n28 : (10 : Int) ≤ x1 ∨ x1 < 0 := tsw_next (by decide) n26 n27
                      refine G_tsw (tgt := 88) 10 10 (by decide) (rL _ rfl) (by decide) rfl (by decide) hx1 dX5_startsClause_1 (fun n29 => ?_) (fun n29 => ?_)
                      · have h := h.1 n29
                        refine G_iconst dX5_startsClause_88 ?_
                        exact G_zret rfl (by decide) dX5_startsClause_89 ⟨_, rfl, h⟩ hO
                      · have h := h.2 n29
                        have n30 : (11 : Int) ≤ x1 ∨ x1 < 0 := tsw_next (by decide) n28 n29
                        refine G_tsw (tgt := 88) 11 11 (by decide) (rL _ rfl) (by decide) rfl (by decide) hx1 dX5_startsClause_1 (fun n31 => ?_) (fun n31 => ?_)
                        · have h := h.1 n31
                          refine G_iconst dX5_startsClause_88 ?_
                          exact G_zret rfl (by decide) dX5_startsClause_89 ⟨_, rfl, h⟩ hO
                        · have h := h.2 n31
                          have n32 : (12 : Int) ≤ x1 ∨ x1 < 0 := tsw_next (by decide) n30 n31
                          refine G_tsw (tgt := 90) 12 12 (by decide) (rL _ rfl) (by decide) rfl (by decide) hx1 dX5_startsClause_1 (fun n33 => ?_) (fun n33 => ?_)
                          · have h := ((((h).2 (tsw_ne n33 (by decide))).2 (tsw_ne n33 (by decide))).2 (tsw_ne n33 (by decide))).2 (tsw_ne n33 (by decide))
                            refine G_iconst dX5_startsClause_90 ?_
                            exact G_zret rfl (by decide) dX5_startsClause_91 ⟨_, rfl, h⟩ hO
                          · have n34 : (13 : Int) ≤ x1 ∨ x1 < 0 := tsw_next (by decide) n32 n33
                            refine G_tsw (tgt := 88) 13 13 (by decide) (rL _ rfl) (by decide) rfl (by decide) hx1 dX5_startsClause_1 (fun n35 => ?_) (fun n35 => ?_)
                            · have h := h.1 n35
                              refine G_iconst dX5_startsClause_88 ?_
                              exact G_zret rfl (by decide) dX5_startsClause_89 ⟨_, rfl, h⟩ hO
                            · have h := h.2 n35
                              have n36 : (14 : Int) ≤ x1 ∨ x1 < 0 := tsw_next (by decide) n34 n35
                              refine G_tsw (tgt := 88) 14 14 (by decide) (rL _ rfl) (by decide) rfl (by decide) hx1 dX5_startsClause_1 (fun n37 => ?_) (fun n37 => ?_)
                              · have h := h.1 n37
                                refine G_iconst dX5_startsClause_88 ?_
                                exact G_zret rfl (by decide) dX5_startsClause_89 ⟨_, rfl, h⟩ hO
                              · have h := h.2 n37
                                have n38 : (15 : Int) ≤ x1 ∨ x1 < 0 := tsw_next (by decide) n36 n37
                                refine G_tsw (tgt := 90) 15 15 (by decide) (rL _ rfl) (by decide) rfl (by decide) hx1 dX5_startsClause_1 (fun n39 => ?_) (fun n39 => ?_)
                                · have h := ((h).2 (tsw_ne n39 (by decide))).2 (tsw_ne n39 (by decide))
                                  refine G_iconst dX5_startsClause_90 ?_
                                  exact G_zret rfl (by decide) dX5_startsClause_91 ⟨_, rfl, h⟩ hO
                                · have n40 : (16 : Int) ≤ x1 ∨ x1 < 0 := tsw_next (by decide) n38 n39
                                  refine G_tsw (tgt := 88) 16 16 (by decide) (rL _ rfl) (by decide) rfl (by decide) hx1 dX5_startsClause_1 (fun n41 => ?_) (fun n41 => ?_)
                                  · have h := h.1 n41
                                    refine G_iconst dX5_startsClause_88 ?_
                                    exact G_zret rfl (by decide) dX5_startsClause_89 ⟨_, rfl, h⟩ hO
                                  · have h := h.2 n41
                                    have n42 : (17 : Int) ≤ x1 ∨ x1 < 0 := tsw_next (by decide) n40 n41
                                    refine G_tsw (tgt := 88) 17 17 (by decide) (rL _ rfl) (by decide) rfl (by decide) hx1 dX5_startsClause_1 (fun n43 => ?_) (fun n43 => ?_)
                                    · have h := h.1 n43
                                      refine G_iconst dX5_startsClause_88 ?_
                                      exact G_zret rfl (by decide) dX5_startsClause_89 ⟨_, rfl, h⟩ hO
                                    · have h := h.2 n43
                                      have n44 : (18 : Int) ≤ x1 ∨ x1 < 0 := tsw_next (by decide) n42 n43
                                      refine G_tswd (tgt := 90) hx1 (tsw_out n44) (by decide) dX5_startsClause_1 ?_
                                      refine G_iconst dX5_startsClause_90 ?_
                                      exact G_zret rfl (by decide) dX5_startsClause_91 ⟨_, rfl, h⟩ hO

theorem sp_X5_startsClause (d : Nat) (hd : 0 ≤ d) (σ : Mem) (hO : OKm σ) (x1 : Int) (hx1 : R32 x1) : Mt yX5_startsClause cX5_startsClause 1 (some .boolean) d [aI (x1)] σ (QI (fun v σ' => bI (x1 = 0 ∨ x1 = 9 ∨ x1 = 10 ∨ x1 = 11 ∨ x1 = 13 ∨ x1 = 14 ∨ x1 = 16 ∨ x1 = 17) = v ∧ σ = σ')) := mt_X5_startsClause hd hx1 hO (by
  unfold wp_X5_startsClause
  grind [bI])

def wp_X5_opensOne (x1 : Int) (σ : Mem) (Q : Int → Mem → Prop) : Prop :=
  ((x1 = 36) →
    Q 1 σ) ∧
   ((x1 ≠ 36) →
    ((x1 = 33) →
     Q 1 σ) ∧
    ((x1 ≠ 33) →
     ((x1 = 18) →
      Q 1 σ) ∧
     ((x1 ≠ 18) →
      ((x1 = 20) →
       Q 1 σ) ∧
      ((x1 ≠ 20) →
       ((x1 ≠ 21) →
        Q 0 σ) ∧
       ((x1 = 21) →
        Q 1 σ)))))
theorem mt_X5_opensOne {d : Nat} (hd : 0 ≤ d) {x1 : Int} {σ : Mem} {Q : Int → Mem → Prop} (hx1 : R32 x1) (hO : OKm σ) (h : wp_X5_opensOne x1 σ Q) : Mt yX5_opensOne cX5_opensOne 1 (some .boolean) d [aI (x1)] σ (QI Q) := by
  refine Mt.intro (by decide +kernel) (Nat.le_of_ble_eq_true rfl) [(0, aI (x1))] rfl ?_
  unfold wp_X5_opensOne at h
  refine G_iload_n 0 rfl rfl dX5_opensOne_0 ?_
  refine G_bipush (by decide) dX5_opensOne_1 ?_
  refine G_icmp_eq hx1 (rL 36 rfl) dX5_opensOne_3 (tgt := 30) (by decide) (fun c1 => ?_) (fun c1 => ?_)
  · have h := h.1 c1
    refine G_iconst dX5_opensOne_30 ?_
    refine G_goto (tgt := 35) dX5_opensOne_31 (by decide) ?_
    exact G_zret rfl (by decide) dX5_opensOne_35 ⟨_, rfl, h⟩ hO
  · have h := h.2 c1
    refine G_iload_n 0 rfl rfl dX5_opensOne_6 ?_
    refine G_bipush (by decide) dX5_opensOne_7 ?_
    refine G_icmp_eq hx1 (rL 33 rfl) dX5_opensOne_9 (tgt := 30) (by decide) (fun c2 => ?_) (fun c2 => ?_)
    · have h := h.1 c2
      refine G_iconst dX5_opensOne_30 ?_
      refine G_goto (tgt := 35) dX5_opensOne_31 (by decide) ?_
      exact G_zret rfl (by decide) dX5_opensOne_35 ⟨_, rfl, h⟩ hO
    · have h := h.2 c2
      refine G_iload_n 0 rfl rfl dX5_opensOne_12 ?_
      refine G_bipush (by decide) dX5_opensOne_13 ?_
      refine G_icmp_eq hx1 (rL 18 rfl) dX5_opensOne_15 (tgt := 30) (by decide) (fun c3 => ?_) (fun c3 => ?_)
      · have h := h.1 c3
        refine G_iconst dX5_opensOne_30 ?_
        refine G_goto (tgt := 35) dX5_opensOne_31 (by decide) ?_
        exact G_zret rfl (by decide) dX5_opensOne_35 ⟨_, rfl, h⟩ hO
      · have h := h.2 c3
        refine G_iload_n 0 rfl rfl dX5_opensOne_18 ?_
        refine G_bipush (by decide) dX5_opensOne_19 ?_
        refine G_icmp_eq hx1 (rL 20 rfl) dX5_opensOne_21 (tgt := 30) (by decide) (fun c4 => ?_) (fun c4 => ?_)
        · have h := h.1 c4
          refine G_iconst dX5_opensOne_30 ?_
          refine G_goto (tgt := 35) dX5_opensOne_31 (by decide) ?_
          exact G_zret rfl (by decide) dX5_opensOne_35 ⟨_, rfl, h⟩ hO
        · have h := h.2 c4
          refine G_iload_n 0 rfl rfl dX5_opensOne_24 ?_
          refine G_bipush (by decide) dX5_opensOne_25 ?_
          refine G_icmp_ne hx1 (rL 21 rfl) dX5_opensOne_27 (tgt := 34) (by decide) (fun c5 => ?_) (fun c5 => ?_)
          · have h := h.1 c5
            refine G_iconst dX5_opensOne_34 ?_
            exact G_zret rfl (by decide) dX5_opensOne_35 ⟨_, rfl, h⟩ hO
          · have h := h.2 c5
            refine G_iconst dX5_opensOne_30 ?_
            refine G_goto (tgt := 35) dX5_opensOne_31 (by decide) ?_
            exact G_zret rfl (by decide) dX5_opensOne_35 ⟨_, rfl, h⟩ hO

theorem sp_X5_opensOne (d : Nat) (hd : 0 ≤ d) (σ : Mem) (hO : OKm σ) (x1 : Int) (hx1 : R32 x1) : Mt yX5_opensOne cX5_opensOne 1 (some .boolean) d [aI (x1)] σ (QI (fun v σ' => bI (x1 = 36 ∨ x1 = 33 ∨ x1 = 18 ∨ x1 = 20 ∨ x1 = 21) = v ∧ σ = σ')) := mt_X5_opensOne hd hx1 hO (by
  unfold wp_X5_opensOne
  grind [bI])

def wp_X5_kind  (σ : Mem) (Q : Int → Mem → Prop) : Prop :=
  (σ 30 5 ≤ 301) ∧
   Q (if 0 ≤ (σ 35 2) ∧ (σ 35 2) < σ 30 5 then σ 32 (σ 35 2) else 43) σ
theorem mt_X5_kind {d : Nat} (hd : 1 ≤ d)  {σ : Mem} {Q : Int → Mem → Prop}  (hO : OKm σ) (h : wp_X5_kind  σ Q) : Mt yX5_kind cX5_kind 1 (some .int) d [aR (35)] σ (QI Q) := by
  refine Mt.intro (by decide +kernel) (Nat.le_of_ble_eq_true rfl) [(0, aR (35))] rfl ?_
  unfold wp_X5_kind at h
  refine G_aload_n 0 rfl rfl dX5_kind_0 ?_
  refine G_get (k := 0) (kd := (2, 30)) (v := aR 30) gf_X5_28 rfl rfl rfl rfl dX5_kind_1 ?_
  refine G_aload_n 0 rfl rfl dX5_kind_4 ?_
  refine G_get (k := 2) (kd := (0, 0)) (v := aI (σ 35 2)) gf_X5_15 rfl rfl rfl rfl dX5_kind_5 ?_
  obtain ⟨c1, h⟩ := h
  refine G_callV (as := [_]) cf_X5_52 rfl rfl rfl (sp_X8_kindAt (d - 1) (by omega) _ hO _ (OKm.i hO 35 2 rfl) c1) (by omega) rfl rfl (Nat.le_of_ble_eq_true rfl) dX5_kind_8 ?_
  rintro _ _ ⟨_, rfl, rfl, rfl⟩ o3 r2
  exact G_iret rfl (r2 _ rfl) dX5_kind_11 ⟨_, rfl, h⟩ hO

theorem sp_X5_kind (d : Nat) (hd : 1 ≤ d) (σ : Mem) (hO : OKm σ) (hpre : σ 30 5 ≤ 301) : Mt yX5_kind cX5_kind 1 (some .int) d [aR (35)] σ (QI (fun v σ' => (if 0 ≤ σ 35 2 ∧ σ 35 2 < σ 30 5 then σ 32 (σ 35 2) else 43) = v ∧ σ = σ')) := mt_X5_kind hd  hO (by
  unfold wp_X5_kind
  exact ⟨hpre, rfl, rfl⟩)
