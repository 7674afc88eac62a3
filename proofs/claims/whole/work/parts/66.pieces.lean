def wp_X4_pieceCount  (σ : Mem) (Q : Int → Mem → Prop) : Prop :=
 ∀ P4 : Int → Int → Mem → Prop,
 (∀ (v1 : Int) (v2 : Int) (σ : Mem), (R32 v1 → R32 v2 → OKm σ →
   ((8 ≤ v2) →
     ∃ g2 : Mem, ∃ g3 : Nat → Txt, (vwC σ g2 g3) ∧
     ∀ (u8 : Int) (σ7 : Mem), R32 u8 → OKm σ7 → (u8 = treeS g2 ∧ Fr [44] σ σ7) →
     (0 ≤ u8 ∧ u8 < 65536) ∧
     R32 (v1 - (((pcN 16 (u8).toNat : Nat) : Int))) ∧
     Q (v1 - (((pcN 16 (u8).toNat : Nat) : Int))) σ7) ∧
    ((v2 < 8) →
     ∃ g14 : Mem, ∃ g15 : Nat → Txt, (vwC σ g14 g15) ∧
     ∀ (u20 : Int) (σ19 : Mem), R32 u20 → OKm σ19 → (u20 = degS g14 v2 ∧ σ19 = σ) →
     ((u20 ≤ 0) →
      R32 (v2 + 1) ∧ P4 v1 (v2 + 1) σ19) ∧
     ((0 < u20) →
      R32 (v1 + 1) ∧ R32 (v2 + 1) ∧ P4 (v1 + 1) (v2 + 1) σ19))) → P4 v1 v2 σ) →
  P4 0 0 σ
theorem mt_X4_pieceCount {d : Nat} (hd : 2 ≤ d)  {σ : Mem} {Q : Int → Mem → Prop}  (hO : OKm σ) (h : wp_X4_pieceCount  σ Q) : Mt yX4_pieceCount cX4_pieceCount 3 (some .int) d [aR (40)] σ (QI Q) := by
  refine Mt.intro (by decide +kernel) (Nat.le_of_ble_eq_true rfl) [(0, aR (40))] rfl ?_
  unfold wp_X4_pieceCount at h
  have h := h (fun (v1 : Int) (v2 : Int) (σ : Mem) => R32 v1 → R32 v2 → OKm σ → G yX4_pieceCount cX4_pieceCount 3 (some .int) d (QI Q) 4 [(0, aR (40)), (1, aI (v1)), (2, aI (v2))] [] σ) ?_
  · refine G_iconst dX4_pieceCount_0 ?_
    refine G_istore_n (lv' := [(1, aI (0)), (0, aR (40))]) rfl rfl (by decide) dX4_pieceCount_1 ?_
    refine G_iconst dX4_pieceCount_2 ?_
    refine G_istore_n (lv' := [(2, aI (0)), (1, aI (0)), (0, aR (40))]) rfl rfl (by decide) dX4_pieceCount_3 ?_
    exact G_pick [2, 1, 0] rfl (h (rL 0 rfl) (rL 0 rfl) hO)
  · intro v1 v2 σ h hv1 hv2 hO
    have h := h hv1 hv2 hO
    refine G_iload_n 2 rfl rfl dX4_pieceCount_4 ?_
    refine G_bipush (by decide) dX4_pieceCount_5 ?_
    refine G_icmp_ge hv2 (rL 8 rfl) dX4_pieceCount_7 (tgt := 27) (by decide) (fun c1 => ?_) (fun c1 => ?_)
    · have h := h.1 c1
      refine G_iload_n 1 rfl rfl dX4_pieceCount_27 ?_
      refine G_aload_n 0 rfl rfl dX4_pieceCount_28 ?_
      obtain ⟨g2, g3, c4, h⟩ := h
      refine G_callV (as := []) cf_X4_109 rfl rfl rfl (sp_X4_treeRoads (d - 1) (by omega) _ hO  g2 g3 c4) (by omega) rfl rfl (Nat.le_of_ble_eq_true rfl) dX4_pieceCount_29 ?_
      rintro _ σ7 ⟨u8, rfl, z9⟩ o6 r5
      have h := h _ _ (r5 _ rfl) o6 z9
      obtain ⟨c10, h⟩ := h
      refine G_callS (as := [_]) cf_X4_113 rfl (sp_J6_bitCount_0f7a4 (d - 1) (by omega) _ o6 _ (r5 _ rfl) c10) (by omega) rfl rfl (Nat.le_of_ble_eq_true rfl) dX4_pieceCount_32 ?_
      rintro _ _ ⟨_, rfl, rfl, rfl⟩ o12 r11
      refine G_isub dX4_pieceCount_35 ?_
      obtain ⟨c13, h⟩ := h
      exact G_iret rfl c13 dX4_pieceCount_36 ⟨_, rfl, h⟩ o6
    · have h := h.2 c1
      refine G_aload_n 0 rfl rfl dX4_pieceCount_10 ?_
      refine G_iload_n 2 rfl rfl dX4_pieceCount_11 ?_
      obtain ⟨g14, g15, c16, h⟩ := h
      refine G_callV (as := [_]) cf_X4_106 rfl rfl rfl (sp_X4_roadsAt (d - 1) (by omega) _ hO _ hv2 g14 g15 c16) (by omega) rfl rfl (Nat.le_of_ble_eq_true rfl) dX4_pieceCount_12 ?_
      rintro _ σ19 ⟨u20, rfl, z21⟩ o18 r17
      have h := h _ _ (r17 _ rfl) o18 z21
      refine G_if_le (r17 _ rfl) dX4_pieceCount_15 (tgt := 21) (by decide) (fun c22 => ?_) (fun c22 => ?_)
      · have h := h.1 c22
        refine G_iinc (lv' := [(2, aI ((v2 + 1))), (0, aR (40)), (1, aI (v1))]) (k := 2) rfl rfl (by decide) dX4_pieceCount_21 ?_
        refine G_goto (tgt := 4) dX4_pieceCount_24 (by decide) ?_
        obtain ⟨c23, h⟩ := h
        exact G_pick [1, 2, 0] rfl (h hv1 c23 o18)
      · have h := h.2 c22
        refine G_iinc (lv' := [(1, aI ((v1 + 1))), (0, aR (40)), (2, aI (v2))]) (k := 1) rfl rfl (by decide) dX4_pieceCount_18 ?_
        refine G_iinc (lv' := [(2, aI ((v2 + 1))), (1, aI ((v1 + 1))), (0, aR (40))]) (k := 2) rfl rfl (by decide) dX4_pieceCount_21 ?_
        refine G_goto (tgt := 4) dX4_pieceCount_24 (by decide) ?_
        obtain ⟨c24, h⟩ := h
        obtain ⟨c25, h⟩ := h
        exact G_pick [2, 1, 0] rfl (h c24 c25 o18)

theorem sp_X4_pieceCount (d : Nat) (hd : 2 ≤ d) (σ : Mem) (hO : OKm σ) (A : Mem) (tx : Nat → Txt) (hpre : vwC σ A tx) : Mt yX4_pieceCount cX4_pieceCount 3 (some .int) d [aR (40)] σ (QI (fun v σ' => v = pieS A ∧ Fr [44] σ σ')) := mt_X4_pieceCount hd  hO (by
  unfold wp_X4_pieceCount
  intro P4 h4
  have hV := hpre
  have hI := hV.2.2.1
  have hc := hI.1
  have e8 : σ 1 8 = A 10 0 := hV.1.1.1
  have e9 : σ 1 9 = A 10 1 := hV.1.1.2.1
  have H : ∀ (n k : Nat), k + n = 8 → P4 (cntN (fun t => ntB A (t : Int)) k) (k : Int) σ := by
    intro n
    induction n with
    | zero =>
      intro k hk
      have hk2 : k = 8 := by omega
      subst hk2
      have hcr := cntN_r (fun t => ntB A (t : Int)) 8
      refine h4 _ _ _ (fun _ _ _ => ⟨fun _ => ⟨A, tx, hV, ?_⟩, fun h => absurd h (by omega)⟩)
      intro u σ1 hu hO1 ⟨eu, hF⟩
      have hok := (trL_ok hI 9).1
      have hok2 : 0 ≤ u ∧ u < 65536 := by rw [eu]; exact hok
      have hpl := pcN_le 16 u.toNat
      refine ⟨hok2, by unfold R32; omega, ?_, hF⟩
      have := pie_eq hI
      rw [eu]; exact this
    | succ n ih =>
      intro k hk
      have ih1 := ih (k + 1) (by omega)
      have hcr := cntN_r (fun t => ntB A (t : Int)) k
      refine h4 _ _ _ (fun _ _ _ => ⟨fun h => absurd h (by omega), fun _ => ⟨A, tx, hV, ?_⟩⟩)
      intro u σ1 hu hO1 ⟨eu, e1⟩
      subst e1
      refine ⟨fun h => ⟨by unfold R32; omega, ?_⟩, fun h => ⟨by unfold R32; omega, by unfold R32; omega, ?_⟩⟩
      · have e : cntN (fun t => ntB A (t : Int)) (k + 1) = cntN (fun t => ntB A (t : Int)) k := by
          show _ + (if ntB A (k : Int) = true then _ else _) = _
          rw [show ntB A (k : Int) = false from decide_eq_false (by omega)]; simp
        rw [e] at ih1; exact ih1
      · have e : cntN (fun t => ntB A (t : Int)) (k + 1) = cntN (fun t => ntB A (t : Int)) k + 1 := by
          show _ + (if ntB A (k : Int) = true then _ else _) = _
          rw [show ntB A (k : Int) = true from decide_eq_true (by omega), if_pos rfl]
        rw [e] at ih1; exact ih1
  exact H _ 0 (Nat.zero_add _))

def wp_X11_pieces  (σ : Mem) (Q : Int → Mem → Prop) : Prop :=
  ∃ g1 : Mem, ∃ g2 : Nat → Txt, (vwC σ g1 g2) ∧
   ∀ (u7 : Int) (σ6 : Mem), R32 u7 → OKm σ6 → (u7 = pieS g1 ∧ Fr [44] σ σ6) →
   Q u7 σ6
theorem mt_X11_pieces {d : Nat} (hd : 3 ≤ d)  {σ : Mem} {Q : Int → Mem → Prop}  (hO : OKm σ) (h : wp_X11_pieces  σ Q) : Mt yX11_pieces cX11_pieces 1 (some .int) d [aR (0)] σ (QI Q) := by
  refine Mt.intro (by decide +kernel) (Nat.le_of_ble_eq_true rfl) [(0, aR (0))] rfl ?_
  unfold wp_X11_pieces at h
  refine G_aload_n 0 rfl rfl dX11_pieces_0 ?_
  refine G_get (k := 11) (kd := (2, 40)) (v := aR 40) gf_X11_85 rfl rfl rfl rfl dX11_pieces_1 ?_
  obtain ⟨g1, g2, c3, h⟩ := h
  refine G_callV (as := []) cf_X11_285 rfl rfl rfl (sp_X4_pieceCount (d - 1) (by omega) _ hO  g1 g2 c3) (by omega) rfl rfl (Nat.le_of_ble_eq_true rfl) dX11_pieces_4 ?_
  rintro _ σ6 ⟨u7, rfl, z8⟩ o5 r4
  have h := h _ _ (r4 _ rfl) o5 z8
  exact G_iret rfl (r4 _ rfl) dX11_pieces_7 ⟨_, rfl, h⟩ o5

theorem sp_X11_pieces (d : Nat) (hd : 3 ≤ d) (σ : Mem) (hO : OKm σ) (A : Mem) (tx : Nat → Txt) (hpre : vwC σ A tx) : Mt yX11_pieces cX11_pieces 1 (some .int) d [aR (0)] σ (QI (fun v σ' => v = pieS A ∧ Fr ScrC σ σ')) := mt_X11_pieces hd  hO (by
  unfold wp_X11_pieces
  refine ⟨A, tx, hpre, ?_⟩
  intro u σ1 hu hO1 ⟨eu, hF⟩
  exact ⟨eu, hF.wk (by simp)⟩)

theorem net_ext {A : Mem} (hI : InvA A) : ∀ r : Int, 0 ≤ r → r < A 10 0 → tbt (netS A) r = netB A r := fun r h0 h1 => netS_t hI h0 h1

def wp_X12_pieces  (σ : Mem) (Q : Int → Mem → Prop) : Prop :=
 ∀ P9 : Int → Int → Int → Mem → Prop,
 (∀ (v1 : Int) (v2 : Int) (v3 : Int) (σ : Mem), (R32 v1 → R32 v2 → R32 v3 → OKm σ →
   ((8 ≤ v3) →
     Q v1 σ) ∧
    ((v3 < 8) →
     ((0 ≤ v2 ∧ v2 < 2147483648) ∧ (0 ≤ v3 ∧ v3 < 31)) ∧
     (((v2).toNat.testBit (v3).toNat = true) →
      ∃ g14 : Mem, ∃ g15 : Nat → Txt, (vwM σ g14 g15) ∧
      ∀ (u20 : Int) (σ19 : Mem), R32 u20 → OKm σ19 → (u20 = netS g14 ∧ σ19 = σ) →
      ∃ g22 : Mem, ∃ g23 : Nat → Txt, (vwM σ19 g22 g23 ∧ (0 ≤ v3 ∧ v3 ≤ 7) ∧ (0 ≤ u20 ∧ u20 < 65536)) ∧
      ∀ (u28 : Int) (σ27 : Mem), R32 u28 → OKm σ27 → (u28 = comeS g22 (tbt u20) v3 ∧ σ27 = σ19) →
      ∀ y30 : Int, y30 = (bAnd v2 (bXor u28 (-1))) →
      R32 (v1 + 1) ∧ R32 (v3 + 1) ∧ P9 (v1 + 1) y30 (v3 + 1) σ27) ∧
     ((¬ ((v2).toNat.testBit (v3).toNat = true)) →
      R32 (v3 + 1) ∧ P9 v1 v2 (v3 + 1) σ))) → P9 v1 v2 v3 σ) →
  ∃ g1 : Mem, ∃ g2 : Nat → Txt, (vwM σ g1 g2) ∧
   ∀ (u7 : Int) (σ6 : Mem), R32 u7 → OKm σ6 → (u7 = ntS g1 ∧ σ6 = σ) →
   P9 0 u7 0 σ6
theorem mt_X12_pieces {d : Nat} (hd : 2 ≤ d)  {σ : Mem} {Q : Int → Mem → Prop}  (hO : OKm σ) (h : wp_X12_pieces  σ Q) : Mt yX12_pieces cX12_pieces 4 (some .int) d [aR (74)] σ (QI Q) := by
  refine Mt.intro (by decide +kernel) (Nat.le_of_ble_eq_true rfl) [(0, aR (74))] rfl ?_
  unfold wp_X12_pieces at h
  have h := h (fun (v1 : Int) (v2 : Int) (v3 : Int) (σ : Mem) => R32 v1 → R32 v2 → R32 v3 → OKm σ → G yX12_pieces cX12_pieces 4 (some .int) d (QI Q) 9 [(0, aR (74)), (1, aI (v1)), (2, aI (v2)), (3, aI (v3))] [] σ) ?_
  · refine G_iconst dX12_pieces_0 ?_
    refine G_istore_n (lv' := [(1, aI (0)), (0, aR (74))]) rfl rfl (by decide) dX12_pieces_1 ?_
    refine G_aload_n 1 rfl rfl dX12_pieces_2 ?_
    obtain ⟨g1, g2, c3, h⟩ := h
    refine G_callV (as := []) cf_X12_440 rfl rfl rfl (sp_X12_netTowns (d - 1) (by omega) _ hO  g1 g2 c3) (by omega) rfl rfl (Nat.le_of_ble_eq_true rfl) dX12_pieces_3 ?_
    rintro _ σ6 ⟨u7, rfl, z8⟩ o5 r4
    have h := h _ _ (r4 _ rfl) o5 z8
    refine G_istore_n (lv' := [(2, aI (u7)), (1, aI (0)), (0, aR (74))]) rfl rfl (by decide) dX12_pieces_6 ?_
    refine G_iconst dX12_pieces_7 ?_
    refine G_istore_n (lv' := [(3, aI (0)), (2, aI (u7)), (1, aI (0)), (0, aR (74))]) rfl rfl (by decide) dX12_pieces_8 ?_
    exact G_pick [3, 2, 1, 0] rfl (h (rL 0 rfl) (r4 _ rfl) (rL 0 rfl) o5)
  · intro v1 v2 v3 σ h hv1 hv2 hv3 hO
    have h := h hv1 hv2 hv3 hO
    refine G_iload_n 3 rfl rfl dX12_pieces_9 ?_
    refine G_bipush (by decide) dX12_pieces_10 ?_
    refine G_icmp_ge hv3 (rL 8 rfl) dX12_pieces_12 (tgt := 49) (by decide) (fun c9 => ?_) (fun c9 => ?_)
    · have h := h.1 c9
      refine G_iload_n 1 rfl rfl dX12_pieces_49 ?_
      exact G_iret rfl hv1 dX12_pieces_50 ⟨_, rfl, h⟩ hO
    · have h := h.2 c9
      refine G_iload_n 2 rfl rfl dX12_pieces_15 ?_
      refine G_iload_n 3 rfl rfl dX12_pieces_16 ?_
      obtain ⟨c10, h⟩ := h
      refine G_callS (as := [_, _]) cf_X12_258 rfl (sp_X12_has (d - 1) (by omega) _ hO _ hv2 _ hv3 c10) (by omega) rfl rfl (Nat.le_of_ble_eq_true rfl) dX12_pieces_17 ?_
      rintro _ _ ⟨_, rfl, rfl, rfl⟩ o12 r11
      refine G_if_ne (bI_R _) dX12_pieces_20 (tgt := 26) (by decide) (fun c13 => ?_) (fun c13 => ?_)
      · have h := h.1 (bI_ne c13)
        refine G_iload_n 2 rfl rfl dX12_pieces_26 ?_
        refine G_aload_n 0 rfl rfl dX12_pieces_27 ?_
        refine G_iload_n 3 rfl rfl dX12_pieces_28 ?_
        refine G_aload_n 0 rfl rfl dX12_pieces_29 ?_
        obtain ⟨g14, g15, c16, h⟩ := h
        refine G_callV (as := []) cf_X12_437 rfl rfl rfl (sp_X12_net (d - 1) (by omega) _ hO  g14 g15 c16) (by omega) rfl rfl (Nat.le_of_ble_eq_true rfl) dX12_pieces_30 ?_
        rintro _ σ19 ⟨u20, rfl, z21⟩ o18 r17
        have h := h _ _ (r17 _ rfl) o18 z21
        obtain ⟨g22, g23, c24, h⟩ := h
        refine G_callV (as := [_, _]) cf_X12_434 rfl rfl rfl (sp_X12_comeTo (d - 1) (by omega) _ o18 _ hv3 _ (r17 _ rfl) g22 g23 c24) (by omega) rfl rfl (Nat.le_of_ble_eq_true rfl) dX12_pieces_33 ?_
        rintro _ σ27 ⟨u28, rfl, z29⟩ o26 r25
        have h := h _ _ (r25 _ rfl) o26 z29
        refine G_iconst dX12_pieces_36 ?_
        refine G_ixor dX12_pieces_37 ?_
        refine G_iand dX12_pieces_38 ?_
        have h := h _ rfl
        refine G_istore_n (lv' := [(2, aI (((bAnd v2 (bXor u28 (-1)))))), (0, aR (74)), (1, aI (v1)), (3, aI (v3))]) rfl rfl (by decide) dX12_pieces_39 ?_
        refine G_iinc (lv' := [(1, aI ((v1 + 1))), (2, aI (((bAnd v2 (bXor u28 (-1)))))), (0, aR (74)), (3, aI (v3))]) (k := 2) rfl rfl (by decide) dX12_pieces_40 ?_
        refine G_iinc (lv' := [(3, aI ((v3 + 1))), (1, aI ((v1 + 1))), (2, aI (((bAnd v2 (bXor u28 (-1)))))), (0, aR (74))]) (k := 3) rfl rfl (by decide) dX12_pieces_43 ?_
        refine G_goto (tgt := 9) dX12_pieces_46 (by decide) ?_
        obtain ⟨c31, h⟩ := h
        obtain ⟨c32, h⟩ := h
        exact G_pick [3, 1, 2, 0] rfl (h c31 (r32_of _) c32 o26)
      · have h := h.2 ((bI_0 _).mp c13)
        refine G_goto (tgt := 43) dX12_pieces_23 (by decide) ?_
        refine G_iinc (lv' := [(3, aI ((v3 + 1))), (0, aR (74)), (1, aI (v1)), (2, aI (v2))]) (k := 3) rfl rfl (by decide) dX12_pieces_43 ?_
        refine G_goto (tgt := 9) dX12_pieces_46 (by decide) ?_
        obtain ⟨c33, h⟩ := h
        exact G_pick [1, 2, 3, 0] rfl (h hv1 hv2 c33 hO)

theorem sp_X12_pieces (d : Nat) (hd : 2 ≤ d) (σ : Mem) (hO : OKm σ) (A : Mem) (tx : Nat → Txt) (hpre : vwM σ A tx) : Mt yX12_pieces cX12_pieces 4 (some .int) d [aR (74)] σ (QI (fun v σ' => v = pieS A ∧ σ' = σ)) := mt_X12_pieces hd  hO (by
  unfold wp_X12_pieces
  intro P9 h9
  have hV := hpre
  have hI := hV.2.2.1
  refine ⟨A, tx, hV, ?_⟩
  intro u7 σ6 hu7 hO6 ⟨eu7, e6⟩
  subst e6
  have hb7 : 0 ≤ u7 ∧ u7 < 256 := by rw [eu7]; exact b8 _
  have hn := netS_r hI
  have H : ∀ (n k : Nat) (s : Int), k + n = 8 → (0 ≤ s ∧ s < 256) → (∀ t : Int, 0 ≤ t → t ≤ 7 → (tbt s t = true ↔ (ntB A t = true ∧ ∀ u : Nat, u < k → ¬ rch A (netB A) (u : Int) t))) → P9 (cntN (fun t => ntB A (t : Int) && minB A (netB A) t) k) s (k : Int) σ6 := by
    intro n
    induction n with
    | zero =>
      intro k s hk hs ht
      have hk2 : k = 8 := by omega
      subst hk2
      exact h9 _ _ _ _ (fun _ _ _ _ => ⟨fun _ => ⟨rfl, rfl⟩, fun h => absurd h (by omega)⟩)
    | succ n ih =>
      intro k s hk hs ht
      have hcr := cntN_r (fun t => ntB A (t : Int) && minB A (netB A) t) k
      have hkt := ht (k : Int) (by omega) (by omega)
      have hbt : s.toNat.testBit ((k : Nat) : Int).toNat = tbt s (k : Int) := rfl
      refine h9 _ _ _ _ (fun _ _ _ _ => ⟨fun h => absurd h (by omega), fun _ => ?_⟩)
      rw [hbt]
      refine ⟨by omega, fun h => ⟨A, tx, hV, ?_⟩, fun h => ⟨by unfold R32; omega, ?_⟩⟩
      · obtain ⟨hk1, hk2⟩ := hkt.mp h
        intro u20 σ19 hu20 hO19 ⟨eu20, e19⟩
        subst e19
        rw [eu20]
        refine ⟨A, tx, ⟨hV, by omega, hn⟩, ?_⟩
        intro u28 σ27 hu28 hO27 ⟨eu28, e27⟩
        subst e27
        have hb28 : 0 ≤ u28 ∧ u28 < 256 := by rw [eu28]; exact b8 _
        have hno := fun t => tb_not (s := s) (u := u28) (t := t) (by omega) (by omega)
        refine fun y hy => ⟨by unfold R32; omega, by unfold R32; omega, ?_⟩
        have ih1 := ih (k + 1) y (by omega) (by rw [hy]; have := (hno 0).1; omega) (fun t t0 t7 => ?_)
        · have e : cntN (fun t => ntB A (t : Int) && minB A (netB A) t) (k + 1) = cntN (fun t => ntB A (t : Int) && minB A (netB A) t) k + 1 := by
            show _ + (if (ntB A (k : Int) && minB A (netB A) k) = true then _ else _) = _
            rw [hk1, minB_t.mpr hk2]; rfl
          rw [e] at ih1; exact ih1
        · rw [hy, (hno t).2, Bool.and_eq_true, Bool.not_eq_true', ht t t0 t7, eu28, comeS_bit ⟨t0, t7⟩]
          have hrb : rchB A (tbt (netS A)) (k : Int) t = false ↔ ¬ rch A (netB A) (k : Int) t := by
            rw [← rch_ext (net_ext hI)]
            constructor
            · intro q1 q2; have := rchB_t.mpr q2; rw [q1] at this; cases this
            · intro q1
              cases hq : rchB A (tbt (netS A)) (k : Int) t with
              | false => rfl
              | true => exact absurd (rchB_t.mp hq) q1
          rw [hrb]
          constructor
          · intro ⟨⟨q1, q2⟩, q3⟩
            refine ⟨q1, fun u hu => ?_⟩
            by_cases e : u = k
            · subst e; exact q3
            · exact q2 u (by omega)
          · intro ⟨q1, q2⟩
            exact ⟨⟨q1, fun u hu => q2 u (by omega)⟩, q2 k (by omega)⟩
      · have ih1 := ih (k + 1) s (by omega) hs (fun t t0 t7 => ?_)
        · have e : cntN (fun t => ntB A (t : Int) && minB A (netB A) t) (k + 1) = cntN (fun t => ntB A (t : Int) && minB A (netB A) t) k := by
            show _ + (if (ntB A (k : Int) && minB A (netB A) k) = true then _ else _) = _
            rw [if_neg (fun q => ?_), Int.add_zero]
            rw [Bool.and_eq_true] at q
            exact h (hkt.mpr ⟨q.1, minB_t.mp q.2⟩)
          rw [e] at ih1; exact ih1
        · rw [ht t t0 t7]
          constructor
          · intro ⟨q1, q2⟩
            refine ⟨q1, fun u hu => ?_⟩
            by_cases e : u = k
            · subst e
              intro hr
              by_cases hnt : ntB A (u : Int) = true
              · have : ∃ v : Nat, v < u ∧ rch A (netB A) (v : Int) (u : Int) := by
                  apply Classical.byContradiction
                  intro hne
                  exact h (hkt.mpr ⟨hnt, fun v hv hr2 => hne ⟨v, hv, hr2⟩⟩)
                obtain ⟨v, hv, hr2⟩ := this
                exact q2 v hv (hr2.tr hr)
              · rcases rch_nt hI hr.sm with e2 | e2
                · rw [← e2] at hnt; exact hnt q1
                · exact hnt e2
            · exact q2 u (by omega)
          · intro ⟨q1, q2⟩; exact ⟨q1, fun u hu => q2 u (by omega)⟩
  refine H 8 0 u7 (by omega) hb7 (fun t t0 t7 => ?_)
  rw [eu7]
  unfold ntS
  rw [tb8 t0 t7, show ((t.toNat : Nat) : Int) = t by omega]
  exact ⟨fun q => ⟨q, fun u hu => by omega⟩, fun q => q.1⟩)

theorem pie_one {A : Mem} (hI : InvA A) {t : Int} (ht : 0 ≤ t ∧ t ≤ 7) (hn : ntB A t = true) : pieS A = 1 ↔ ∀ u : Int, 0 ≤ u → u ≤ 7 → ntB A u = true → rch A (netB A) t u := by
  have hmem : ∀ (x : Int), 0 ≤ x → x ≤ 7 → ntB A x = true → ∃ a : Nat, a < 8 ∧ rch A (netB A) (a : Int) x ∧ (ntB A (a : Int) && minB A (netB A) a) = true := by
    intro x x0 x7 hx
    obtain ⟨a, a1, a2, a3⟩ := min_ex (A := A) (T := netB A) x.toNat x.toNat (Nat.le_refl _)
    rw [show ((x.toNat : Nat) : Int) = x by omega] at a2
    refine ⟨a, by omega, a2, ?_⟩
    rw [a3, Bool.and_true]
    rcases rch_nt hI a2.sm with e | e
    · rw [← e]; exact hx
    · exact e
  obtain ⟨a, a1, a2, a3⟩ := hmem t ht.1 ht.2 hn
  constructor
  · intro h u u0 u7 hu
    apply Classical.byContradiction
    intro hno
    obtain ⟨b, b1, b2, b3⟩ := hmem u u0 u7 hu
    have hab : a ≠ b := fun e => by subst e; exact hno (a2.sm.tr b2)
    have := cntN_two (f := fun t => ntB A (t : Int) && minB A (netB A) t) a3 b3 hab a1 b1
    unfold pieS at h
    omega
  · intro h
    have key : cntN (fun t => ntB A (t : Int) && minB A (netB A) t) 8 = cntN (fun s => decide (s = a)) 8 := cntN_congr 8 (fun s hs => by
      by_cases e : s = a
      · subst e; rw [decide_eq_true rfl]; exact a3
      · rw [decide_eq_false e]
        cases hb : (ntB A (s : Int) && minB A (netB A) s) with
        | false => rfl
        | true =>
          exfalso
          have hb' := hb
          have a3' := a3
          rw [Bool.and_eq_true] at hb' a3'
          have := h (s : Int) (by omega) (by omega) hb'.1
          exact e (min_uniq a3'.2 hb'.2 (a2.tr this)).symm)
    unfold pieS
    rw [key]
    exact cntN_one (decide_eq_true rfl) (fun t ht => of_decide_eq_true ht) a1
/-! THE CARTER -/
def oddS (A : Mem) : Int := bitsN (fun t => decide (degS A (t : Int) % 2 = 1)) 8
def nlenN (A : Mem) : Nat → Int
  | 0 => 0
  | n + 1 => nlenN A n + (if netB A (n : Int) = true then A 13 (n : Int) else 0)
theorem nlenN_r {A : Mem} (hI : InvA A) : ∀ n : Nat, (n : Int) ≤ A 10 0 → 0 ≤ nlenN A n ∧ nlenN A n ≤ 9 * n
  | 0, _ => by simp [nlenN]
  | n + 1, hn => by
    have := nlenN_r hI n (by omega)
    have := hI.2.1 (n : Int) (by omega) (by omega)
    unfold nlenN; split <;> omega
def rest (s u : Nat) : Nat := dif (dif s (2 ^ (lowN 16 s))) (2 ^ u)
def prN (A : Mem) (F : Nat → Int) (s : Nat) : Nat → Int
  | 0 => 1000000
  | n + 1 => if lowN 16 s < n ∧ s.testBit n = true then min (prN A F s n) (F (rest s n) + dst A 1 (-1) ((lowN 16 s : Nat) : Int) (n : Int)) else prN A F s n
def prT (A : Mem) : Nat → (Nat → Int)
  | 0 => fun _ => 0
  | n + 1 => fun s => if s = n then (if n = 0 then 0 else prN A (prT A n) n 8) else prT A n s
def prF (A : Mem) (s : Nat) : Int := prT A (s + 1) s
theorem prT_at {A : Mem} {s : Nat} : ∀ n, s < n → prT A n s = prF A s
  | 0, h => by omega
  | n + 1, h => by
    by_cases e : s = n
    · subst e; rfl
    · show (if s = n then _ else prT A n s) = _
      rw [if_neg e]; exact prT_at n (by omega)
theorem two_sub {s i : Nat} (h : s.testBit i = true) : subB (2 ^ i) s = true := sub_of (fun j hj => by
  rw [Nat.testBit_two_pow] at hj
  rw [← of_decide_eq_true hj]; exact h)
theorem rest_lt {s u : Nat} (hs : s < 65536) (h0 : s ≠ 0) : rest s u < s := by
  have l1 := lowN_bit 16 s h0 hs
  have h1 := dif_lt hs (two_sub l1.1) (by have := Nat.two_pow_pos (lowN 16 s); omega)
  have h2 := sub_le (dif_sub (dif s (2 ^ (lowN 16 s))) (2 ^ u))
  unfold rest
  omega
theorem prN_congr {A : Mem} {F G : Nat → Int} {s : Nat} (hs : s < 65536) (h0 : s ≠ 0) (h : ∀ x, x < s → F x = G x) : ∀ k, prN A F s k = prN A G s k
  | 0 => rfl
  | k + 1 => by
    unfold prN
    rw [prN_congr hs h0 h k, h _ (rest_lt hs h0)]
theorem prF_eq (A : Mem) {s : Nat} (hs : s < 65536) : prF A s = if s = 0 then 0 else prN A (prF A) s 8 := by
  show (if s = s then (if s = 0 then 0 else prN A (prT A s) s 8) else prT A s s) = _
  rw [if_pos rfl]
  by_cases h0 : s = 0
  · rw [if_pos h0, if_pos h0]
  · rw [if_neg h0, if_neg h0]
    exact prN_congr hs h0 (fun x hx => prT_at s hx) 8
theorem prN_r {A : Mem} {F : Nat → Int} {s : Nat} (hI : InvA A) (hs : s < 65536) (h0 : s ≠ 0) (h : ∀ x, x < s → 0 ≤ F x) : ∀ k, 0 ≤ prN A F s k ∧ prN A F s k ≤ 1000000
  | 0 => by simp [prN]
  | k + 1 => by
    have ih := prN_r (F := F) hI hs h0 h k
    have := h _ (rest_lt (u := k) hs h0)
    have := dst_r (th := 1) (wo := -1) (a := ((lowN 16 s : Nat) : Int)) (b := (k : Int)) hI
    unfold prN; split <;> omega
theorem prF_r {A : Mem} (hI : InvA A) : ∀ (n s : Nat), s < n → s < 65536 → 0 ≤ prF A s ∧ prF A s ≤ 1000000
  | 0, s, h, _ => by omega
  | n + 1, s, h, h2 => by
    rw [prF_eq A h2]
    by_cases h0 : s = 0
    · rw [if_pos h0]; omega
    · rw [if_neg h0]
      exact prN_r hI h2 h0 (fun x hx => (prF_r hI n x (by omega) (by omega)).1) 8
noncomputable def carS (A : Mem) (t : Int) : Int := if (0 ≤ t ∧ t ≤ 7) ∧ ntB A t = true ∧ pieS A = 1 then nlenN A (A 10 0).toNat + prF A (oddS A).toNat else -1
theorem odd_r (A : Mem) : 0 ≤ oddS A ∧ oddS A < 256 := b8 _
