def wp_X4_watchTowns  (σ : Mem) (Q : Int → Mem → Prop) : Prop :=
 ∀ P8 : Int → Int → Mem → Prop,
 (∀ (v1 : Int) (v2 : Int) (σ : Mem), (R32 v1 → R32 v2 → OKm σ →
   ((v2 < 0) →
     Q v1 σ) ∧
    ((0 ≤ v2) →
     (0 ≤ v2 ∧ v2 < 65536) ∧
     (0 ≤ v1 ∧ v1 < 65536) ∧
     (((((pcN 16 (v1).toNat : Nat) : Int)) < (((pcN 16 (v2).toNat : Nat) : Int))) →
      R32 (v2 + (-1)) ∧ P8 v1 (v2 + (-1)) σ) ∧
     (((((pcN 16 (v2).toNat : Nat) : Int)) ≤ (((pcN 16 (v1).toNat : Nat) : Int))) →
      ∃ g10 : Mem, ∃ g11 : Nat → Txt, (vwC σ g10 g11 ∧ (0 ≤ v2 ∧ v2 < 65536)) ∧
      ∀ (u16 : Int) (σ15 : Mem), R32 u16 → OKm σ15 → (u16 = (if wtS g10 v2 = true then 1 else 0) ∧ σ15 = σ) →
      ((u16 = 0) →
       R32 (v2 + (-1)) ∧ P8 v1 (v2 + (-1)) σ15) ∧
      ((u16 ≠ 0) →
       R32 (v2 + (-1)) ∧ P8 v2 (v2 + (-1)) σ15)))) → P8 v1 v2 σ) →
  P8 255 255 σ
theorem mt_X4_watchTowns {d : Nat} (hd : 2 ≤ d)  {σ : Mem} {Q : Int → Mem → Prop}  (hO : OKm σ) (h : wp_X4_watchTowns  σ Q) : Mt yX4_watchTowns cX4_watchTowns 3 (some .int) d [aR (40)] σ (QI Q) := by
  refine Mt.intro (by decide +kernel) (Nat.le_of_ble_eq_true rfl) [(0, aR (40))] rfl ?_
  unfold wp_X4_watchTowns at h
  have h := h (fun (v1 : Int) (v2 : Int) (σ : Mem) => R32 v1 → R32 v2 → OKm σ → G yX4_watchTowns cX4_watchTowns 3 (some .int) d (QI Q) 8 [(0, aR (40)), (1, aI (v1)), (2, aI (v2))] [] σ) ?_
  · refine G_sipush (by decide) dX4_watchTowns_0 ?_
    refine G_istore_n (lv' := [(1, aI (255)), (0, aR (40))]) rfl rfl (by decide) dX4_watchTowns_3 ?_
    refine G_sipush (by decide) dX4_watchTowns_4 ?_
    refine G_istore_n (lv' := [(2, aI (255)), (1, aI (255)), (0, aR (40))]) rfl rfl (by decide) dX4_watchTowns_7 ?_
    exact G_pick [2, 1, 0] rfl (h (rL 255 rfl) (rL 255 rfl) hO)
  · intro v1 v2 σ h hv1 hv2 hO
    have h := h hv1 hv2 hO
    refine G_iload_n 2 rfl rfl dX4_watchTowns_8 ?_
    refine G_if_lt hv2 dX4_watchTowns_9 (tgt := 39) (by decide) (fun c1 => ?_) (fun c1 => ?_)
    · have h := h.1 c1
      refine G_iload_n 1 rfl rfl dX4_watchTowns_39 ?_
      exact G_iret rfl hv1 dX4_watchTowns_40 ⟨_, rfl, h⟩ hO
    · have h := h.2 c1
      refine G_iload_n 2 rfl rfl dX4_watchTowns_12 ?_
      obtain ⟨c2, h⟩ := h
      refine G_callS (as := [_]) cf_X4_113 rfl (sp_J6_bitCount_0f7a4 (d - 1) (by omega) _ hO _ hv2 c2) (by omega) rfl rfl (Nat.le_of_ble_eq_true rfl) dX4_watchTowns_13 ?_
      rintro _ _ ⟨_, rfl, rfl, rfl⟩ o4 r3
      refine G_iload_n 1 rfl rfl dX4_watchTowns_16 ?_
      obtain ⟨c5, h⟩ := h
      refine G_callS (as := [_]) cf_X4_113 rfl (sp_J6_bitCount_0f7a4 (d - 1) (by omega) _ hO _ hv1 c5) (by omega) rfl rfl (Nat.le_of_ble_eq_true rfl) dX4_watchTowns_17 ?_
      rintro _ _ ⟨_, rfl, rfl, rfl⟩ o7 r6
      refine G_icmp_gt (r3 _ rfl) (r6 _ rfl) dX4_watchTowns_20 (tgt := 33) (by decide) (fun c8 => ?_) (fun c8 => ?_)
      · have h := h.1 c8
        refine G_iinc (lv' := [(2, aI ((v2 + (-1)))), (0, aR (40)), (1, aI (v1))]) (k := 2) rfl rfl (by decide) dX4_watchTowns_33 ?_
        refine G_goto (tgt := 8) dX4_watchTowns_36 (by decide) ?_
        obtain ⟨c9, h⟩ := h
        exact G_pick [1, 2, 0] rfl (h hv1 c9 hO)
      · have h := h.2 c8
        refine G_aload_n 0 rfl rfl dX4_watchTowns_23 ?_
        refine G_iload_n 2 rfl rfl dX4_watchTowns_24 ?_
        obtain ⟨g10, g11, c12, h⟩ := h
        refine G_callV (as := [_]) cf_X4_136 rfl rfl rfl (sp_X4_watchesAll (d - 1) (by omega) _ hO _ hv2 g10 g11 c12) (by omega) rfl rfl (Nat.le_of_ble_eq_true rfl) dX4_watchTowns_25 ?_
        rintro _ σ15 ⟨u16, rfl, z17⟩ o14 r13
        have h := h _ _ (r13 _ rfl) o14 z17
        refine G_if_eq (r13 _ rfl) dX4_watchTowns_28 (tgt := 33) (by decide) (fun c18 => ?_) (fun c18 => ?_)
        · have h := h.1 c18
          refine G_iinc (lv' := [(2, aI ((v2 + (-1)))), (0, aR (40)), (1, aI (v1))]) (k := 2) rfl rfl (by decide) dX4_watchTowns_33 ?_
          refine G_goto (tgt := 8) dX4_watchTowns_36 (by decide) ?_
          obtain ⟨c19, h⟩ := h
          exact G_pick [1, 2, 0] rfl (h hv1 c19 o14)
        · have h := h.2 c18
          refine G_iload_n 2 rfl rfl dX4_watchTowns_31 ?_
          refine G_istore_n (lv' := [(1, aI (v2)), (0, aR (40)), (2, aI (v2))]) rfl rfl (by decide) dX4_watchTowns_32 ?_
          refine G_iinc (lv' := [(2, aI ((v2 + (-1)))), (1, aI (v2)), (0, aR (40))]) (k := 2) rfl rfl (by decide) dX4_watchTowns_33 ?_
          refine G_goto (tgt := 8) dX4_watchTowns_36 (by decide) ?_
          obtain ⟨c20, h⟩ := h
          exact G_pick [2, 1, 0] rfl (h hv2 c20 o14)

theorem sp_X4_watchTowns (d : Nat) (hd : 2 ≤ d) (σ : Mem) (hO : OKm σ) (A : Mem) (tx : Nat → Txt) (hpre : vwC σ A tx) : Mt yX4_watchTowns cX4_watchTowns 3 (some .int) d [aR (40)] σ (QI (fun v σ' => v = watN A 256 ∧ σ' = σ)) := mt_X4_watchTowns hd  hO (by
  unfold wp_X4_watchTowns
  intro P8 h8
  have hV := hpre
  have H : ∀ (n k : Nat), k + n = 256 → P8 (watN A k) (255 - (k : Int)) σ := by
    intro n
    induction n with
    | zero =>
      intro k hk
      have hk2 : k = 256 := by omega
      subst hk2
      exact h8 _ _ _ (fun _ _ _ => ⟨fun _ => ⟨rfl, rfl⟩, fun h => absurd h (by omega)⟩)
    | succ n ih =>
      intro k hk
      have ih1 := ih (k + 1) (by omega)
      rw [show (255 : Int) - ((k + 1 : Nat) : Int) = 255 - (k : Int) + (-1) by omega] at ih1
      have hw := watN_r A k (by omega)
      have yes : (pcS (255 - (k : Int)) ≤ pcS (watN A k) ∧ wtS A (255 - (k : Int)) = true) → R32 (255 - (k : Int) + (-1)) ∧ P8 (255 - (k : Int)) (255 - (k : Int) + (-1)) σ := fun h => by
        have e : watN A (k + 1) = 255 - (k : Int) := by show (if _ then _ else _) = _; rw [if_pos h]
        rw [e] at ih1; exact ⟨by unfold R32; omega, ih1⟩
      have no : ¬ (pcS (255 - (k : Int)) ≤ pcS (watN A k) ∧ wtS A (255 - (k : Int)) = true) → R32 (255 - (k : Int) + (-1)) ∧ P8 (watN A k) (255 - (k : Int) + (-1)) σ := fun h => by
        have e : watN A (k + 1) = watN A k := by show (if _ then _ else _) = _; rw [if_neg h]
        rw [e] at ih1; exact ⟨by unfold R32; omega, ih1⟩
      refine h8 _ _ _ (fun _ _ _ => ⟨fun h => absurd h (by omega), fun _ => ⟨by omega, by omega, fun h => no (fun q => by have := q.1; unfold pcS at this; omega), fun h => ⟨A, tx, ⟨hV, by omega⟩, ?_⟩⟩⟩)
      intro u σ1 hu hO1 ⟨eu, e1⟩
      subst e1
      cases hq : wtS A (255 - (k : Int)) with
      | false => rw [hq] at eu; exact ⟨fun _ => no (fun q => by rw [hq] at q; simp at q), fun h => absurd (by simpa using eu) h⟩
      | true => rw [hq, if_pos rfl] at eu; exact ⟨fun h => absurd h (by omega), fun _ => yes ⟨h, hq⟩⟩
  exact H 256 0 (by omega))

def wp_X11_watch (x1 : Int) (σ : Mem) (Q : Int → Mem → Prop) : Prop :=
  ∃ g1 : Mem, ∃ g2 : Nat → Txt, (vwC σ g1 g2) ∧
   ∀ (u7 : Int) (σ6 : Mem), R32 u7 → OKm σ6 → (u7 = watN g1 256 ∧ σ6 = σ) →
   ((x1 = 0) →
    Q u7 σ6) ∧
   ((x1 ≠ 0) →
    (0 ≤ u7 ∧ u7 < 65536) ∧
    Q (((pcN 16 (u7).toNat : Nat) : Int)) σ6)
theorem mt_X11_watch {d : Nat} (hd : 3 ≤ d) {x1 : Int} {σ : Mem} {Q : Int → Mem → Prop} (hx1 : R32 x1) (hO : OKm σ) (h : wp_X11_watch x1 σ Q) : Mt yX11_watch cX11_watch 3 (some .int) d [aR (0), aI (x1)] σ (QI Q) := by
  refine Mt.intro (by decide +kernel) (Nat.le_of_ble_eq_true rfl) [(0, aR (0)), (1, aI (x1))] rfl ?_
  unfold wp_X11_watch at h
  refine G_aload_n 0 rfl rfl dX11_watch_0 ?_
  refine G_get (k := 11) (kd := (2, 40)) (v := aR 40) gf_X11_85 rfl rfl rfl rfl dX11_watch_1 ?_
  obtain ⟨g1, g2, c3, h⟩ := h
  refine G_callV (as := []) cf_X11_307 rfl rfl rfl (sp_X4_watchTowns (d - 1) (by omega) _ hO  g1 g2 c3) (by omega) rfl rfl (Nat.le_of_ble_eq_true rfl) dX11_watch_4 ?_
  rintro _ σ6 ⟨u7, rfl, z8⟩ o5 r4
  have h := h _ _ (r4 _ rfl) o5 z8
  refine G_istore_n (lv' := [(2, aI (u7)), (0, aR (0)), (1, aI (x1))]) rfl rfl (by decide) dX11_watch_7 ?_
  refine G_iload_n 2 rfl rfl dX11_watch_8 ?_
  refine G_if_eq hx1 dX11_watch_9 (tgt := 19) (by decide) (fun c9 => ?_) (fun c9 => ?_)
  · have h := h.1 c9
    refine G_iload_n 0 rfl rfl dX11_watch_19 ?_
    exact G_iret rfl (r4 _ rfl) dX11_watch_20 ⟨_, rfl, h⟩ o5
  · have h := h.2 c9
    refine G_iload_n 0 rfl rfl dX11_watch_12 ?_
    obtain ⟨c10, h⟩ := h
    refine G_callS (as := [_]) cf_X11_310 rfl (sp_J6_bitCount_0f7a4 (d - 1) (by omega) _ o5 _ (r4 _ rfl) c10) (by omega) rfl rfl (Nat.le_of_ble_eq_true rfl) dX11_watch_13 ?_
    rintro _ _ ⟨_, rfl, rfl, rfl⟩ o12 r11
    refine G_goto (tgt := 20) dX11_watch_16 (by decide) ?_
    exact G_iret rfl (r11 _ rfl) dX11_watch_20 ⟨_, rfl, h⟩ o5

theorem sp_X11_watch (d : Nat) (hd : 3 ≤ d) (σ : Mem) (hO : OKm σ) (x1 : Int) (hx1 : R32 x1) (A : Mem) (tx : Nat → Txt) (hpre : vwC σ A tx) : Mt yX11_watch cX11_watch 3 (some .int) d [aR (0), aI (x1)] σ (QI (fun v σ' => v = watS A x1 ∧ Fr ScrC σ σ')) := mt_X11_watch hd hx1 hO (by
  unfold wp_X11_watch
  refine ⟨A, tx, hpre, ?_⟩
  intro u σ1 hu hO1 ⟨eu, e1⟩
  subst e1
  have hw := watN_r A 256 (by omega)
  unfold watS
  exact ⟨fun h => ⟨by rw [if_pos h]; exact eu, Fr.rf _ _⟩, fun h => ⟨by omega, by rw [if_neg h, ← eu]; rfl, Fr.rf _ _⟩⟩)

def wp_X12_watch (x1 : Int) (σ : Mem) (Q : Int → Mem → Prop) : Prop :=
 ∀ P6 : Int → Int → Int → Mem → Prop,
 (∀ (v1 : Int) (v2 : Int) (v3 : Int) (σ : Mem), (R32 v1 → R32 v2 → R32 v3 → OKm σ →
   ((v3 < 0) →
     ((v1 = 0) →
      Q v2 σ) ∧
     ((v1 ≠ 0) →
      (0 ≤ v2 ∧ v2 < 65536) ∧
      Q (((pcN 16 (v2).toNat : Nat) : Int)) σ)) ∧
    ((0 ≤ v3) →
     (0 ≤ v3 ∧ v3 < 65536) ∧
     (0 ≤ v2 ∧ v2 < 65536) ∧
     (((((pcN 16 (v2).toNat : Nat) : Int)) < (((pcN 16 (v3).toNat : Nat) : Int))) →
      R32 (v3 + (-1)) ∧ P6 v1 v2 (v3 + (-1)) σ) ∧
     (((((pcN 16 (v3).toNat : Nat) : Int)) ≤ (((pcN 16 (v2).toNat : Nat) : Int))) →
      ∃ g14 : Mem, ∃ g15 : Nat → Txt, (vwM σ g14 g15 ∧ (0 ≤ v3 ∧ v3 < 65536)) ∧
      ∀ (u20 : Int) (σ19 : Mem), R32 u20 → OKm σ19 → (u20 = (if wtS g14 v3 = true then 1 else 0) ∧ σ19 = σ) →
      ((u20 = 0) →
       R32 (v3 + (-1)) ∧ P6 v1 v2 (v3 + (-1)) σ19) ∧
      ((u20 ≠ 0) →
       R32 (v3 + (-1)) ∧ P6 v1 v3 (v3 + (-1)) σ19)))) → P6 v1 v2 v3 σ) →
  P6 x1 255 255 σ
theorem mt_X12_watch {d : Nat} (hd : 2 ≤ d) {x1 : Int} {σ : Mem} {Q : Int → Mem → Prop} (hx1 : R32 x1) (hO : OKm σ) (h : wp_X12_watch x1 σ Q) : Mt yX12_watch cX12_watch 4 (some .int) d [aR (74), aI (x1)] σ (QI Q) := by
  refine Mt.intro (by decide +kernel) (Nat.le_of_ble_eq_true rfl) [(0, aR (74)), (1, aI (x1))] rfl ?_
  unfold wp_X12_watch at h
  have h := h (fun (v1 : Int) (v2 : Int) (v3 : Int) (σ : Mem) => R32 v1 → R32 v2 → R32 v3 → OKm σ → G yX12_watch cX12_watch 4 (some .int) d (QI Q) 6 [(0, aR (74)), (1, aI (v1)), (2, aI (v2)), (3, aI (v3))] [] σ) ?_
  · refine G_sipush (by decide) dX12_watch_0 ?_
    refine G_istore_n (lv' := [(2, aI (255)), (0, aR (74)), (1, aI (x1))]) rfl rfl (by decide) dX12_watch_3 ?_
    refine G_iload_n 0 rfl rfl dX12_watch_4 ?_
    refine G_istore_n (lv' := [(3, aI (255)), (2, aI (255)), (0, aR (74)), (1, aI (x1))]) rfl rfl (by decide) dX12_watch_5 ?_
    exact G_pick [2, 3, 1, 0] rfl (h hx1 (rL 255 rfl) (rL 255 rfl) hO)
  · intro v1 v2 v3 σ h hv1 hv2 hv3 hO
    have h := h hv1 hv2 hv3 hO
    refine G_iload_n 3 rfl rfl dX12_watch_6 ?_
    refine G_if_lt hv3 dX12_watch_7 (tgt := 37) (by decide) (fun c1 => ?_) (fun c1 => ?_)
    · have h := h.1 c1
      refine G_iload_n 1 rfl rfl dX12_watch_37 ?_
      refine G_if_eq hv1 dX12_watch_38 (tgt := 48) (by decide) (fun c2 => ?_) (fun c2 => ?_)
      · have h := h.1 c2
        refine G_iload_n 2 rfl rfl dX12_watch_48 ?_
        exact G_iret rfl hv2 dX12_watch_49 ⟨_, rfl, h⟩ hO
      · have h := h.2 c2
        refine G_iload_n 2 rfl rfl dX12_watch_41 ?_
        obtain ⟨c3, h⟩ := h
        refine G_callS (as := [_]) cf_X12_361 rfl (sp_X12_bits (d - 1) (by omega) _ hO _ hv2 c3) (by omega) rfl rfl (Nat.le_of_ble_eq_true rfl) dX12_watch_42 ?_
        rintro _ _ ⟨_, rfl, rfl, rfl⟩ o5 r4
        refine G_goto (tgt := 49) dX12_watch_45 (by decide) ?_
        exact G_iret rfl (r4 _ rfl) dX12_watch_49 ⟨_, rfl, h⟩ hO
    · have h := h.2 c1
      refine G_iload_n 3 rfl rfl dX12_watch_10 ?_
      obtain ⟨c6, h⟩ := h
      refine G_callS (as := [_]) cf_X12_361 rfl (sp_X12_bits (d - 1) (by omega) _ hO _ hv3 c6) (by omega) rfl rfl (Nat.le_of_ble_eq_true rfl) dX12_watch_11 ?_
      rintro _ _ ⟨_, rfl, rfl, rfl⟩ o8 r7
      refine G_iload_n 2 rfl rfl dX12_watch_14 ?_
      obtain ⟨c9, h⟩ := h
      refine G_callS (as := [_]) cf_X12_361 rfl (sp_X12_bits (d - 1) (by omega) _ hO _ hv2 c9) (by omega) rfl rfl (Nat.le_of_ble_eq_true rfl) dX12_watch_15 ?_
      rintro _ _ ⟨_, rfl, rfl, rfl⟩ o11 r10
      refine G_icmp_gt (r7 _ rfl) (r10 _ rfl) dX12_watch_18 (tgt := 31) (by decide) (fun c12 => ?_) (fun c12 => ?_)
      · have h := h.1 c12
        refine G_iinc (lv' := [(3, aI ((v3 + (-1)))), (0, aR (74)), (1, aI (v1)), (2, aI (v2))]) (k := 3) rfl rfl (by decide) dX12_watch_31 ?_
        refine G_goto (tgt := 6) dX12_watch_34 (by decide) ?_
        obtain ⟨c13, h⟩ := h
        exact G_pick [1, 2, 3, 0] rfl (h hv1 hv2 c13 hO)
      · have h := h.2 c12
        refine G_aload_n 0 rfl rfl dX12_watch_21 ?_
        refine G_iload_n 3 rfl rfl dX12_watch_22 ?_
        obtain ⟨g14, g15, c16, h⟩ := h
        refine G_callV (as := [_]) cf_X12_449 rfl rfl rfl (sp_X12_isWatched (d - 1) (by omega) _ hO _ hv3 g14 g15 c16) (by omega) rfl rfl (Nat.le_of_ble_eq_true rfl) dX12_watch_23 ?_
        rintro _ σ19 ⟨u20, rfl, z21⟩ o18 r17
        have h := h _ _ (r17 _ rfl) o18 z21
        refine G_if_eq (r17 _ rfl) dX12_watch_26 (tgt := 31) (by decide) (fun c22 => ?_) (fun c22 => ?_)
        · have h := h.1 c22
          refine G_iinc (lv' := [(3, aI ((v3 + (-1)))), (0, aR (74)), (1, aI (v1)), (2, aI (v2))]) (k := 3) rfl rfl (by decide) dX12_watch_31 ?_
          refine G_goto (tgt := 6) dX12_watch_34 (by decide) ?_
          obtain ⟨c23, h⟩ := h
          exact G_pick [1, 2, 3, 0] rfl (h hv1 hv2 c23 o18)
        · have h := h.2 c22
          refine G_iload_n 3 rfl rfl dX12_watch_29 ?_
          refine G_istore_n (lv' := [(2, aI (v3)), (0, aR (74)), (1, aI (v1)), (3, aI (v3))]) rfl rfl (by decide) dX12_watch_30 ?_
          refine G_iinc (lv' := [(3, aI ((v3 + (-1)))), (2, aI (v3)), (0, aR (74)), (1, aI (v1))]) (k := 3) rfl rfl (by decide) dX12_watch_31 ?_
          refine G_goto (tgt := 6) dX12_watch_34 (by decide) ?_
          obtain ⟨c24, h⟩ := h
          exact G_pick [2, 3, 1, 0] rfl (h hv1 hv3 c24 o18)

theorem sp_X12_watch (d : Nat) (hd : 2 ≤ d) (σ : Mem) (hO : OKm σ) (x1 : Int) (hx1 : R32 x1) (A : Mem) (tx : Nat → Txt) (hpre : vwM σ A tx) : Mt yX12_watch cX12_watch 4 (some .int) d [aR (74), aI (x1)] σ (QI (fun v σ' => v = watS A x1 ∧ σ' = σ)) := mt_X12_watch hd hx1 hO (by
  unfold wp_X12_watch
  intro P6 h6
  have hV := hpre
  have H : ∀ (n k : Nat), k + n = 256 → P6 x1 (watN A k) (255 - (k : Int)) σ := by
    intro n
    induction n with
    | zero =>
      intro k hk
      have hk2 : k = 256 := by omega
      subst hk2
      have hw := watN_r A 256 (by omega)
      unfold watS at h6
      exact h6 _ _ _ _ (fun _ _ _ _ => ⟨fun _ => ⟨fun h => ⟨by rw [if_pos h], rfl⟩, fun h => ⟨by omega, by rw [if_neg h]; rfl, rfl⟩⟩, fun h => absurd h (by omega)⟩)
    | succ n ih =>
      intro k hk
      have ih1 := ih (k + 1) (by omega)
      rw [show (255 : Int) - ((k + 1 : Nat) : Int) = 255 - (k : Int) + (-1) by omega] at ih1
      have hw := watN_r A k (by omega)
      have yes : (pcS (255 - (k : Int)) ≤ pcS (watN A k) ∧ wtS A (255 - (k : Int)) = true) → R32 (255 - (k : Int) + (-1)) ∧ P6 x1 (255 - (k : Int)) (255 - (k : Int) + (-1)) σ := fun h => by
        have e : watN A (k + 1) = 255 - (k : Int) := by show (if _ then _ else _) = _; rw [if_pos h]
        rw [e] at ih1; exact ⟨by unfold R32; omega, ih1⟩
      have no : ¬ (pcS (255 - (k : Int)) ≤ pcS (watN A k) ∧ wtS A (255 - (k : Int)) = true) → R32 (255 - (k : Int) + (-1)) ∧ P6 x1 (watN A k) (255 - (k : Int) + (-1)) σ := fun h => by
        have e : watN A (k + 1) = watN A k := by show (if _ then _ else _) = _; rw [if_neg h]
        rw [e] at ih1; exact ⟨by unfold R32; omega, ih1⟩
      refine h6 _ _ _ _ (fun _ _ _ _ => ⟨fun h => absurd h (by omega), fun _ => ⟨by omega, by omega, fun h => no (fun q => by have := q.1; unfold pcS at this; omega), fun h => ⟨A, tx, ⟨hV, by omega⟩, ?_⟩⟩⟩)
      intro u σ1 hu hO1 ⟨eu, e1⟩
      subst e1
      cases hq : wtS A (255 - (k : Int)) with
      | false => rw [hq] at eu; exact ⟨fun _ => no (fun q => by rw [hq] at q; simp at q), fun h => absurd (by simpa using eu) h⟩
      | true => rw [hq, if_pos rfl] at eu; exact ⟨fun h => absurd h (by omega), fun _ => yes ⟨h, hq⟩⟩
  exact H 256 0 (by omega))
