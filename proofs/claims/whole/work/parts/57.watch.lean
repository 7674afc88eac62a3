theorem shl_le {s a : Int} (hs : 0 ≤ s) (ha : 0 ≤ a ∧ a ≤ 7) (h : tbt s a = true) : bShl 1 a ≤ s := by
  obtain ⟨n, rfl⟩ : ∃ n : Nat, a = n := ⟨a.toNat, by omega⟩
  have h1 : s.toNat ≥ 2 ^ n := Nat.ge_two_pow_of_testBit h
  rw [bShl1 (by omega) (by omega), Int.toNat_natCast]
  have e : ((2 : Int) ^ n) = ((2 ^ n : Nat) : Int) := by push_cast; rfl
  rw [e]
  generalize (2 : Nat) ^ n = q at h1
  omega

def wp_X4_thinnestSet (x1 : Int) (x2 : Int) (σ : Mem) (Q : Int → Mem → Prop) : Prop :=
 ∀ P14 : Int → Int → Int → Int → Int → Mem → Prop,
 (∀ (v1 : Int) (v2 : Int) (v3 : Int) (v4 : Int) (v5 : Int) (σ : Mem), (R32 v1 → R32 v2 → R32 v3 → R32 v4 → R32 v5 → OKm σ →
   ((256 ≤ v5) →
     Q v3 σ) ∧
    ((v5 < 256) →
     (((bAnd (bShr v5 v1) 1) ≠ 1) →
      R32 (v5 + 1) ∧ P14 v1 v2 v3 v4 (v5 + 1) σ) ∧
     (((bAnd (bShr v5 v1) 1) = 1) →
      (((bAnd (bShr v5 v2) 1) ≠ 0) →
       R32 (v5 + 1) ∧ P14 v1 v2 v3 v4 (v5 + 1) σ) ∧
      (((bAnd (bShr v5 v2) 1) = 0) →
       ∃ g14 : Mem, ∃ g15 : Nat → Txt, (vwC σ g14 g15 ∧ (0 ≤ v5 ∧ v5 < 65536)) ∧
       ∀ (u20 : Int) (σ19 : Mem), R32 u20 → OKm σ19 → (u20 = thrS g14 v5 ∧ σ19 = σ) →
       ((v4 ≤ u20) →
        R32 (v5 + 1) ∧ P14 v1 v2 v3 v4 (v5 + 1) σ19) ∧
       ((u20 < v4) →
        R32 (v5 + 1) ∧ P14 v1 v2 v5 u20 (v5 + 1) σ19))))) → P14 v1 v2 v3 v4 v5 σ) →
  ∃ g1 : Mem, ∃ g2 : Nat → Txt, (vwC σ g1 g2 ∧ (0 ≤ (bShl 1 x1) ∧ (bShl 1 x1) < 65536)) ∧
   ∀ (u7 : Int) (σ6 : Mem), R32 u7 → OKm σ6 → (u7 = thrS g1 (bShl 1 x1) ∧ σ6 = σ) →
   P14 x1 x2 (bShl 1 x1) u7 0 σ6
theorem mt_X4_thinnestSet {d : Nat} (hd : 1 ≤ d) {x1 : Int} {x2 : Int} {σ : Mem} {Q : Int → Mem → Prop} (hx1 : R32 x1) (hx2 : R32 x2) (hO : OKm σ) (h : wp_X4_thinnestSet x1 x2 σ Q) : Mt yX4_thinnestSet cX4_thinnestSet 7 (some .int) d [aR (40), aI (x1), aI (x2)] σ (QI Q) := by
  refine Mt.intro (by decide +kernel) (Nat.le_of_ble_eq_true rfl) [(0, aR (40)), (1, aI (x1)), (2, aI (x2))] rfl ?_
  unfold wp_X4_thinnestSet at h
  have h := h (fun (v1 : Int) (v2 : Int) (v3 : Int) (v4 : Int) (v5 : Int) (σ : Mem) => R32 v1 → R32 v2 → R32 v3 → R32 v4 → R32 v5 → OKm σ → G yX4_thinnestSet cX4_thinnestSet 7 (some .int) d (QI Q) 14 [(0, aR (40)), (1, aI (v1)), (2, aI (v2)), (3, aI (v3)), (4, aI (v4)), (5, aI (v5))] [] σ) ?_
  · refine G_iconst dX4_thinnestSet_0 ?_
    refine G_iload_n 1 rfl rfl dX4_thinnestSet_1 ?_
    refine G_ishl dX4_thinnestSet_2 ?_
    refine G_istore_n (lv' := [(3, aI ((bShl 1 x1))), (0, aR (40)), (1, aI (x1)), (2, aI (x2))]) rfl rfl (by decide) dX4_thinnestSet_3 ?_
    refine G_aload_n 1 rfl rfl dX4_thinnestSet_4 ?_
    refine G_iload_n 0 rfl rfl dX4_thinnestSet_5 ?_
    obtain ⟨g1, g2, c3, h⟩ := h
    refine G_callV (as := [_]) cf_X4_99 rfl rfl rfl (sp_X4_thickAround (d - 1) (by omega) _ hO _ (r32_of _) g1 g2 c3) (by omega) rfl rfl (Nat.le_of_ble_eq_true rfl) dX4_thinnestSet_6 ?_
    rintro _ σ6 ⟨u7, rfl, z8⟩ o5 r4
    have h := h _ _ (r4 _ rfl) o5 z8
    refine G_istore (lv' := [(4, aI (u7)), (3, aI ((bShl 1 x1))), (0, aR (40)), (1, aI (x1)), (2, aI (x2))]) rfl (by decide) dX4_thinnestSet_9 ?_
    refine G_iconst dX4_thinnestSet_11 ?_
    refine G_istore (lv' := [(5, aI (0)), (4, aI (u7)), (3, aI ((bShl 1 x1))), (0, aR (40)), (1, aI (x1)), (2, aI (x2))]) rfl (by decide) dX4_thinnestSet_12 ?_
    exact G_pick [3, 4, 5, 2, 1, 0] rfl (h hx1 hx2 (r32_of _) (r4 _ rfl) (rL 0 rfl) o5)
  · intro v1 v2 v3 v4 v5 σ h hv1 hv2 hv3 hv4 hv5 hO
    have h := h hv1 hv2 hv3 hv4 hv5 hO
    refine G_iload 5 rfl dX4_thinnestSet_14 ?_
    refine G_sipush (by decide) dX4_thinnestSet_16 ?_
    refine G_icmp_ge hv5 (rL 256 rfl) dX4_thinnestSet_19 (tgt := 69) (by decide) (fun c9 => ?_) (fun c9 => ?_)
    · have h := h.1 c9
      refine G_iload_n 3 rfl rfl dX4_thinnestSet_69 ?_
      exact G_iret rfl hv3 dX4_thinnestSet_70 ⟨_, rfl, h⟩ hO
    · have h := h.2 c9
      refine G_iload 5 rfl dX4_thinnestSet_22 ?_
      refine G_iload_n 1 rfl rfl dX4_thinnestSet_24 ?_
      refine G_ishr dX4_thinnestSet_25 ?_
      refine G_iconst dX4_thinnestSet_26 ?_
      refine G_iand dX4_thinnestSet_27 ?_
      refine G_iconst dX4_thinnestSet_28 ?_
      refine G_icmp_ne (r32_of _) (rL 1 rfl) dX4_thinnestSet_29 (tgt := 63) (by decide) (fun c10 => ?_) (fun c10 => ?_)
      · have h := h.1 c10
        refine G_iinc (lv' := [(5, aI ((v5 + 1))), (0, aR (40)), (1, aI (v1)), (2, aI (v2)), (3, aI (v3)), (4, aI (v4))]) (k := 5) rfl rfl (by decide) dX4_thinnestSet_63 ?_
        refine G_goto (tgt := 14) dX4_thinnestSet_66 (by decide) ?_
        obtain ⟨c11, h⟩ := h
        exact G_pick [1, 2, 3, 4, 5, 0] rfl (h hv1 hv2 hv3 hv4 c11 hO)
      · have h := h.2 c10
        refine G_iload 5 rfl dX4_thinnestSet_32 ?_
        refine G_iload_n 2 rfl rfl dX4_thinnestSet_34 ?_
        refine G_ishr dX4_thinnestSet_35 ?_
        refine G_iconst dX4_thinnestSet_36 ?_
        refine G_iand dX4_thinnestSet_37 ?_
        refine G_if_ne (r32_of _) dX4_thinnestSet_38 (tgt := 63) (by decide) (fun c12 => ?_) (fun c12 => ?_)
        · have h := h.1 c12
          refine G_iinc (lv' := [(5, aI ((v5 + 1))), (0, aR (40)), (1, aI (v1)), (2, aI (v2)), (3, aI (v3)), (4, aI (v4))]) (k := 5) rfl rfl (by decide) dX4_thinnestSet_63 ?_
          refine G_goto (tgt := 14) dX4_thinnestSet_66 (by decide) ?_
          obtain ⟨c13, h⟩ := h
          exact G_pick [1, 2, 3, 4, 5, 0] rfl (h hv1 hv2 hv3 hv4 c13 hO)
        · have h := h.2 c12
          refine G_aload_n 0 rfl rfl dX4_thinnestSet_41 ?_
          refine G_iload 5 rfl dX4_thinnestSet_42 ?_
          obtain ⟨g14, g15, c16, h⟩ := h
          refine G_callV (as := [_]) cf_X4_99 rfl rfl rfl (sp_X4_thickAround (d - 1) (by omega) _ hO _ hv5 g14 g15 c16) (by omega) rfl rfl (Nat.le_of_ble_eq_true rfl) dX4_thinnestSet_44 ?_
          rintro _ σ19 ⟨u20, rfl, z21⟩ o18 r17
          have h := h _ _ (r17 _ rfl) o18 z21
          refine G_istore (lv' := [(6, aI (u20)), (0, aR (40)), (1, aI (v1)), (2, aI (v2)), (3, aI (v3)), (4, aI (v4)), (5, aI (v5))]) rfl (by decide) dX4_thinnestSet_47 ?_
          refine G_iload 0 rfl dX4_thinnestSet_49 ?_
          refine G_iload 5 rfl dX4_thinnestSet_51 ?_
          refine G_icmp_ge (r17 _ rfl) hv4 dX4_thinnestSet_53 (tgt := 63) (by decide) (fun c22 => ?_) (fun c22 => ?_)
          · have h := h.1 c22
            refine G_iinc (lv' := [(5, aI ((v5 + 1))), (6, aI (u20)), (0, aR (40)), (1, aI (v1)), (2, aI (v2)), (3, aI (v3)), (4, aI (v4))]) (k := 6) rfl rfl (by decide) dX4_thinnestSet_63 ?_
            refine G_goto (tgt := 14) dX4_thinnestSet_66 (by decide) ?_
            obtain ⟨c23, h⟩ := h
            exact G_pick [2, 3, 4, 5, 6, 0] rfl (h hv1 hv2 hv3 hv4 c23 o18)
          · have h := h.2 c22
            refine G_iload 6 rfl dX4_thinnestSet_56 ?_
            refine G_istore_n (lv' := [(3, aI (v5)), (6, aI (u20)), (0, aR (40)), (1, aI (v1)), (2, aI (v2)), (4, aI (v4)), (5, aI (v5))]) rfl rfl (by decide) dX4_thinnestSet_58 ?_
            refine G_iload 1 rfl dX4_thinnestSet_59 ?_
            refine G_istore (lv' := [(4, aI (u20)), (3, aI (v5)), (6, aI (u20)), (0, aR (40)), (1, aI (v1)), (2, aI (v2)), (5, aI (v5))]) rfl (by decide) dX4_thinnestSet_61 ?_
            refine G_iinc (lv' := [(5, aI ((v5 + 1))), (4, aI (u20)), (3, aI (v5)), (6, aI (u20)), (0, aR (40)), (1, aI (v1)), (2, aI (v2))]) (k := 6) rfl rfl (by decide) dX4_thinnestSet_63 ?_
            refine G_goto (tgt := 14) dX4_thinnestSet_66 (by decide) ?_
            obtain ⟨c24, h⟩ := h
            exact G_pick [4, 5, 6, 2, 1, 0] rfl (h hv1 hv2 hv5 (r17 _ rfl) c24 o18)

theorem sp_X4_thinnestSet (d : Nat) (hd : 1 ≤ d) (σ : Mem) (hO : OKm σ) (x1 : Int) (hx1 : R32 x1) (x2 : Int) (hx2 : R32 x2) (A : Mem) (tx : Nat → Txt) (hpre : vwC σ A tx ∧ (0 ≤ x1 ∧ x1 ≤ 7) ∧ (0 ≤ x2 ∧ x2 ≤ 7) ∧ x1 ≠ x2) : Mt yX4_thinnestSet cX4_thinnestSet 7 (some .int) d [aR (40), aI (x1), aI (x2)] σ (QI (fun v σ' => v = cutN A x1 x2 256 ∧ σ' = σ)) := mt_X4_thinnestSet hd hx1 hx2 hO (by
  unfold wp_X4_thinnestSet
  intro P14 h14
  obtain ⟨hV, ha, hb, hab⟩ := hpre
  have hI := hV.2.2.1
  have hs := shl8 ha
  have hcc : ∀ n : Nat, n ≤ 256 → 0 ≤ cutC A x1 x2 n ∧ cutC A x1 x2 n < 65536 := fun n hn => by
    rcases (cutC_ok (A := A) (a := x1) (b := x2) n).1 with h | h
    · rw [h]; omega
    · omega
  have H : ∀ (n k : Nat), k + n = 256 → P14 x1 x2 (cutC A x1 x2 k) (thrS A (cutC A x1 x2 k)) (k : Int) σ := by
    intro n
    induction n with
    | zero =>
      intro k hk
      have hk2 : k = 256 := by omega
      subst hk2
      exact h14 _ _ _ _ _ _ (fun _ _ _ _ _ _ => ⟨fun _ => ⟨(cut_eq ha hb hab).1, rfl⟩, fun h => absurd h (by omega)⟩)
    | succ n ih =>
      intro k hk
      have ih1 := ih (k + 1) (by omega)
      have yes : isCut x1 x2 (k : Int) = true → (thrS A (k : Int) < thrS A (cutC A x1 x2 k) ∨ thrS A (k : Int) = thrS A (cutC A x1 x2 k) ∧ (k : Int) < cutC A x1 x2 k) → R32 ((k : Int) + 1) ∧ P14 x1 x2 (k : Int) (thrS A (k : Int)) ((k : Int) + 1) σ := fun h1 h2 => by
        have e : cutC A x1 x2 (k + 1) = k := by show (if _ then _ else _) = _; rw [if_pos ⟨h1, h2⟩]
        rw [e] at ih1; exact ⟨by unfold R32; omega, ih1⟩
      have no : ¬ (isCut x1 x2 (k : Int) = true ∧ (thrS A (k : Int) < thrS A (cutC A x1 x2 k) ∨ thrS A (k : Int) = thrS A (cutC A x1 x2 k) ∧ (k : Int) < cutC A x1 x2 k)) → R32 ((k : Int) + 1) ∧ P14 x1 x2 (cutC A x1 x2 k) (thrS A (cutC A x1 x2 k)) ((k : Int) + 1) σ := fun h => by
        have e : cutC A x1 x2 (k + 1) = cutC A x1 x2 k := by show (if _ then _ else _) = _; rw [if_neg h]
        rw [e] at ih1; exact ⟨by unfold R32; omega, ih1⟩
      refine h14 _ _ _ _ _ _ (fun _ _ _ _ _ _ => ⟨fun h => absurd h (by omega), fun _ => ?_⟩)
      rw [tbt_sh (s := (k : Int)) (k := x1) (by omega) (by omega), tbt_sh (s := (k : Int)) (k := x2) (by omega) (by omega)]
      cases h1 : tbt (k : Int) x1 with
      | false => exact ⟨fun _ => no (fun q => by unfold isCut at q; rw [h1] at q; simp at q), fun h => absurd h (by simp)⟩
      | true =>
        refine ⟨fun h => absurd rfl h, fun _ => ?_⟩
        cases h2 : tbt (k : Int) x2 with
        | true => exact ⟨fun _ => no (fun q => by unfold isCut at q; rw [h2] at q; simp at q), fun h => absurd h (by simp)⟩
        | false =>
          have hq : isCut x1 x2 (k : Int) = true := by unfold isCut; rw [h1, h2]; rfl
          refine ⟨fun h => absurd rfl h, fun _ => ⟨A, tx, ⟨hV, by omega⟩, ?_⟩⟩
          intro u σ1 hu hO1 ⟨eu, e1⟩
          subst e1
          rw [eu]
          have hle : cutC A x1 x2 k ≤ (k : Int) := by
            rcases (cutC_ok (A := A) (a := x1) (b := x2) k).1 with h | h
            · rw [h]; exact shl_le (by omega) ha h1
            · omega
          exact ⟨fun h => no (fun q => by have := q.2; omega), fun h => yes hq (Or.inl h)⟩
  refine ⟨A, tx, ⟨hV, by omega⟩, ?_⟩
  intro u σ1 hu hO1 ⟨eu, e1⟩
  subst e1
  rw [eu]
  exact H 256 0 (by omega))

def wp_X11_cut (x1 : Int) (x2 : Int) (σ : Mem) (Q : Int → Mem → Prop) : Prop :=
  ((¬ ((0 ≤ x1 ∧ x1 ≤ 7) ∧ (0 ≤ x2 ∧ x2 ≤ 7) ∧ x1 ≠ x2)) →
    Q (-1) σ) ∧
   (((0 ≤ x1 ∧ x1 ≤ 7) ∧ (0 ≤ x2 ∧ x2 ≤ 7) ∧ x1 ≠ x2) →
    ∃ g4 : Mem, ∃ g5 : Nat → Txt, (vwC σ g4 g5 ∧ (0 ≤ x1 ∧ x1 ≤ 7) ∧ (0 ≤ x2 ∧ x2 ≤ 7) ∧ x1 ≠ x2) ∧
    ∀ (u10 : Int) (σ9 : Mem), R32 u10 → OKm σ9 → (u10 = cutN g4 x1 x2 256 ∧ σ9 = σ) →
    Q u10 σ9)
theorem mt_X11_cut {d : Nat} (hd : 3 ≤ d) {x1 : Int} {x2 : Int} {σ : Mem} {Q : Int → Mem → Prop} (hx1 : R32 x1) (hx2 : R32 x2) (hO : OKm σ) (h : wp_X11_cut x1 x2 σ Q) : Mt yX11_cut cX11_cut 3 (some .int) d [aR (0), aI (x1), aI (x2)] σ (QI Q) := by
  refine Mt.intro (by decide +kernel) (Nat.le_of_ble_eq_true rfl) [(0, aR (0)), (1, aI (x1)), (2, aI (x2))] rfl ?_
  unfold wp_X11_cut at h
  refine G_iload_n 1 rfl rfl dX11_cut_0 ?_
  refine G_iload_n 2 rfl rfl dX11_cut_1 ?_
  refine G_callS (as := [_, _]) cf_X11_258 rfl (sp_X11_areUnlikeTowns (d - 1) (by omega) _ hO _ hx1 _ hx2) (by omega) rfl rfl (Nat.le_of_ble_eq_true rfl) dX11_cut_2 ?_
  rintro _ _ ⟨_, rfl, rfl, rfl⟩ o2 r1
  refine G_if_eq (bI_R _) dX11_cut_5 (tgt := 20) (by decide) (fun c3 => ?_) (fun c3 => ?_)
  · have h := h.1 ((bI_0 _).mp c3)
    refine G_iconst dX11_cut_20 ?_
    exact G_iret rfl (rL (-1) rfl) dX11_cut_21 ⟨_, rfl, h⟩ hO
  · have h := h.2 (bI_ne c3)
    refine G_aload_n 0 rfl rfl dX11_cut_8 ?_
    refine G_get (k := 11) (kd := (2, 40)) (v := aR 40) gf_X11_85 rfl rfl rfl rfl dX11_cut_9 ?_
    refine G_iload_n 1 rfl rfl dX11_cut_12 ?_
    refine G_iload_n 2 rfl rfl dX11_cut_13 ?_
    obtain ⟨g4, g5, c6, h⟩ := h
    refine G_callV (as := [_, _]) cf_X11_264 rfl rfl rfl (sp_X4_thinnestSet (d - 1) (by omega) _ hO _ hx1 _ hx2 g4 g5 c6) (by omega) rfl rfl (Nat.le_of_ble_eq_true rfl) dX11_cut_14 ?_
    rintro _ σ9 ⟨u10, rfl, z11⟩ o8 r7
    have h := h _ _ (r7 _ rfl) o8 z11
    refine G_goto (tgt := 21) dX11_cut_17 (by decide) ?_
    exact G_iret rfl (r7 _ rfl) dX11_cut_21 ⟨_, rfl, h⟩ o8

theorem sp_X11_cut (d : Nat) (hd : 3 ≤ d) (σ : Mem) (hO : OKm σ) (x1 : Int) (hx1 : R32 x1) (x2 : Int) (hx2 : R32 x2) (A : Mem) (tx : Nat → Txt) (hpre : vwC σ A tx) : Mt yX11_cut cX11_cut 3 (some .int) d [aR (0), aI (x1), aI (x2)] σ (QI (fun v σ' => v = cutS A x1 x2 ∧ Fr ScrC σ σ')) := mt_X11_cut hd hx1 hx2 hO (by
  unfold wp_X11_cut
  refine ⟨fun h => ⟨by unfold cutS; rw [if_neg h], Fr.rf _ _⟩, fun h => ⟨A, tx, ⟨hpre, h⟩, ?_⟩⟩
  intro u σ1 hu hO1 ⟨eu, e1⟩
  subst e1
  exact ⟨by unfold cutS; rw [if_pos h]; exact eu, Fr.rf _ _⟩)

def wp_X11_flow (x1 : Int) (x2 : Int) (σ : Mem) (Q : Int → Mem → Prop) : Prop :=
  ((¬ ((0 ≤ x1 ∧ x1 ≤ 7) ∧ (0 ≤ x2 ∧ x2 ≤ 7) ∧ x1 ≠ x2)) →
    Q (-1) σ) ∧
   (((0 ≤ x1 ∧ x1 ≤ 7) ∧ (0 ≤ x2 ∧ x2 ≤ 7) ∧ x1 ≠ x2) →
    ∃ g4 : Mem, ∃ g5 : Nat → Txt, (vwC σ g4 g5 ∧ (0 ≤ x1 ∧ x1 ≤ 7) ∧ (0 ≤ x2 ∧ x2 ≤ 7) ∧ x1 ≠ x2) ∧
    ∀ (u10 : Int) (σ9 : Mem), R32 u10 → OKm σ9 → (u10 = cutN g4 x1 x2 256 ∧ σ9 = σ) →
    ∃ g12 : Mem, ∃ g13 : Nat → Txt, (vwC σ9 g12 g13 ∧ (0 ≤ u10 ∧ u10 < 65536)) ∧
    ∀ (u18 : Int) (σ17 : Mem), R32 u18 → OKm σ17 → (u18 = thrS g12 u10 ∧ σ17 = σ9) →
    Q u18 σ17)
theorem mt_X11_flow {d : Nat} (hd : 3 ≤ d) {x1 : Int} {x2 : Int} {σ : Mem} {Q : Int → Mem → Prop} (hx1 : R32 x1) (hx2 : R32 x2) (hO : OKm σ) (h : wp_X11_flow x1 x2 σ Q) : Mt yX11_flow cX11_flow 3 (some .int) d [aR (0), aI (x1), aI (x2)] σ (QI Q) := by
  refine Mt.intro (by decide +kernel) (Nat.le_of_ble_eq_true rfl) [(0, aR (0)), (1, aI (x1)), (2, aI (x2))] rfl ?_
  unfold wp_X11_flow at h
  refine G_iload_n 1 rfl rfl dX11_flow_0 ?_
  refine G_iload_n 2 rfl rfl dX11_flow_1 ?_
  refine G_callS (as := [_, _]) cf_X11_258 rfl (sp_X11_areUnlikeTowns (d - 1) (by omega) _ hO _ hx1 _ hx2) (by omega) rfl rfl (Nat.le_of_ble_eq_true rfl) dX11_flow_2 ?_
  rintro _ _ ⟨_, rfl, rfl, rfl⟩ o2 r1
  refine G_if_eq (bI_R _) dX11_flow_5 (tgt := 27) (by decide) (fun c3 => ?_) (fun c3 => ?_)
  · have h := h.1 ((bI_0 _).mp c3)
    refine G_iconst dX11_flow_27 ?_
    exact G_iret rfl (rL (-1) rfl) dX11_flow_28 ⟨_, rfl, h⟩ hO
  · have h := h.2 (bI_ne c3)
    refine G_aload_n 0 rfl rfl dX11_flow_8 ?_
    refine G_get (k := 11) (kd := (2, 40)) (v := aR 40) gf_X11_85 rfl rfl rfl rfl dX11_flow_9 ?_
    refine G_aload_n 0 rfl rfl dX11_flow_12 ?_
    refine G_get (k := 11) (kd := (2, 40)) (v := aR 40) gf_X11_85 rfl rfl rfl rfl dX11_flow_13 ?_
    refine G_iload_n 1 rfl rfl dX11_flow_16 ?_
    refine G_iload_n 2 rfl rfl dX11_flow_17 ?_
    obtain ⟨g4, g5, c6, h⟩ := h
    refine G_callV (as := [_, _]) cf_X11_264 rfl rfl rfl (sp_X4_thinnestSet (d - 1) (by omega) _ hO _ hx1 _ hx2 g4 g5 c6) (by omega) rfl rfl (Nat.le_of_ble_eq_true rfl) dX11_flow_18 ?_
    rintro _ σ9 ⟨u10, rfl, z11⟩ o8 r7
    have h := h _ _ (r7 _ rfl) o8 z11
    obtain ⟨g12, g13, c14, h⟩ := h
    refine G_callV (as := [_]) cf_X11_267 rfl rfl rfl (sp_X4_thickAround (d - 1) (by omega) _ o8 _ (r7 _ rfl) g12 g13 c14) (by omega) rfl rfl (Nat.le_of_ble_eq_true rfl) dX11_flow_21 ?_
    rintro _ σ17 ⟨u18, rfl, z19⟩ o16 r15
    have h := h _ _ (r15 _ rfl) o16 z19
    refine G_goto (tgt := 28) dX11_flow_24 (by decide) ?_
    exact G_iret rfl (r15 _ rfl) dX11_flow_28 ⟨_, rfl, h⟩ o16

theorem sp_X11_flow (d : Nat) (hd : 3 ≤ d) (σ : Mem) (hO : OKm σ) (x1 : Int) (hx1 : R32 x1) (x2 : Int) (hx2 : R32 x2) (A : Mem) (tx : Nat → Txt) (hpre : vwC σ A tx) : Mt yX11_flow cX11_flow 3 (some .int) d [aR (0), aI (x1), aI (x2)] σ (QI (fun v σ' => v = flowS A x1 x2 ∧ Fr ScrC σ σ')) := mt_X11_flow hd hx1 hx2 hO (by
  unfold wp_X11_flow
  refine ⟨fun h => ⟨by unfold flowS; rw [if_neg h], Fr.rf _ _⟩, fun h => ⟨A, tx, ⟨hpre, h⟩, ?_⟩⟩
  intro u σ1 hu hO1 ⟨eu, e1⟩
  subst e1
  have hb := (cut_eq (A := A) h.1 h.2.1 h.2.2).2
  refine ⟨A, tx, ⟨hpre, by omega⟩, ?_⟩
  intro u2 σ2 hu2 hO2 ⟨eu2, e2⟩
  subst e2
  exact ⟨by unfold flowS; rw [if_pos h, ← eu]; exact eu2, Fr.rf _ _⟩)

def wp_X12_cut (x1 : Int) (x2 : Int) (σ : Mem) (Q : Int → Mem → Prop) : Prop :=
 ∀ P15 : Int → Int → Int → Int → Mem → Prop,
 (∀ (v1 : Int) (v2 : Int) (v3 : Int) (v4 : Int) (σ : Mem), (R32 v1 → R32 v2 → R32 v3 → R32 v4 → OKm σ →
   ((256 ≤ v4) →
     Q v3 σ) ∧
    ((v4 < 256) →
     ((0 ≤ v4 ∧ v4 < 2147483648) ∧ (0 ≤ v1 ∧ v1 < 31)) ∧
     ((¬ ((v4).toNat.testBit (v1).toNat = true)) →
      R32 (v4 + 1) ∧ P15 v1 v2 v3 (v4 + 1) σ) ∧
     (((v4).toNat.testBit (v1).toNat = true) →
      ((0 ≤ v4 ∧ v4 < 2147483648) ∧ (0 ≤ v2 ∧ v2 < 31)) ∧
      (((v4).toNat.testBit (v2).toNat = true) →
       R32 (v4 + 1) ∧ P15 v1 v2 v3 (v4 + 1) σ) ∧
      ((¬ ((v4).toNat.testBit (v2).toNat = true)) →
       ((v3 = (-1)) →
        R32 (v4 + 1) ∧ P15 v1 v2 v4 (v4 + 1) σ) ∧
       ((v3 ≠ (-1)) →
        ∃ g17 : Mem, ∃ g18 : Nat → Txt, (vwM σ g17 g18 ∧ (0 ≤ v4 ∧ v4 < 65536)) ∧
        ∀ (u23 : Int) (σ22 : Mem), R32 u23 → OKm σ22 → (u23 = thrS g17 v4 ∧ σ22 = σ) →
        ∃ g25 : Mem, ∃ g26 : Nat → Txt, (vwM σ22 g25 g26 ∧ (0 ≤ v3 ∧ v3 < 65536)) ∧
        ∀ (u31 : Int) (σ30 : Mem), R32 u31 → OKm σ30 → (u31 = thrS g25 v3 ∧ σ30 = σ22) →
        ((u31 ≤ u23) →
         R32 (v4 + 1) ∧ P15 v1 v2 v3 (v4 + 1) σ30) ∧
        ((u23 < u31) →
         R32 (v4 + 1) ∧ P15 v1 v2 v4 (v4 + 1) σ30)))))) → P15 v1 v2 v3 v4 σ) →
  (((0 ≤ x1 ∧ x1 ≤ 7) ∧ (0 ≤ x2 ∧ x2 ≤ 7) ∧ x1 ≠ x2) →
    P15 x1 x2 (-1) 0 σ) ∧
   ((¬ ((0 ≤ x1 ∧ x1 ≤ 7) ∧ (0 ≤ x2 ∧ x2 ≤ 7) ∧ x1 ≠ x2)) →
    Q (-1) σ)
theorem mt_X12_cut {d : Nat} (hd : 3 ≤ d) {x1 : Int} {x2 : Int} {σ : Mem} {Q : Int → Mem → Prop} (hx1 : R32 x1) (hx2 : R32 x2) (hO : OKm σ) (h : wp_X12_cut x1 x2 σ Q) : Mt yX12_cut cX12_cut 5 (some .int) d [aR (74), aI (x1), aI (x2)] σ (QI Q) := by
  refine Mt.intro (by decide +kernel) (Nat.le_of_ble_eq_true rfl) [(0, aR (74)), (1, aI (x1)), (2, aI (x2))] rfl ?_
  unfold wp_X12_cut at h
  have h := h (fun (v1 : Int) (v2 : Int) (v3 : Int) (v4 : Int) (σ : Mem) => R32 v1 → R32 v2 → R32 v3 → R32 v4 → OKm σ → G yX12_cut cX12_cut 5 (some .int) d (QI Q) 15 [(0, aR (74)), (1, aI (v1)), (2, aI (v2)), (3, aI (v3)), (4, aI (v4))] [] σ) ?_
  · refine G_iload_n 1 rfl rfl dX12_cut_0 ?_
    refine G_iload_n 2 rfl rfl dX12_cut_1 ?_
    refine G_callS (as := [_, _]) cf_X12_422 rfl (sp_X12_areTowns (d - 1) (by omega) _ hO _ hx1 _ hx2) (by omega) rfl rfl (Nat.le_of_ble_eq_true rfl) dX12_cut_2 ?_
    rintro _ _ ⟨_, rfl, rfl, rfl⟩ o2 r1
    refine G_if_ne (bI_R _) dX12_cut_5 (tgt := 10) (by decide) (fun c3 => ?_) (fun c3 => ?_)
    · have h := h.1 (bI_ne c3)
      refine G_iconst dX12_cut_10 ?_
      refine G_istore_n (lv' := [(3, aI ((-1))), (0, aR (74)), (1, aI (x1)), (2, aI (x2))]) rfl rfl (by decide) dX12_cut_11 ?_
      refine G_iconst dX12_cut_12 ?_
      refine G_istore (lv' := [(4, aI (0)), (3, aI ((-1))), (0, aR (74)), (1, aI (x1)), (2, aI (x2))]) rfl (by decide) dX12_cut_13 ?_
      exact G_pick [2, 3, 4, 1, 0] rfl (h hx1 hx2 (rL (-1) rfl) (rL 0 rfl) hO)
    · have h := h.2 ((bI_0 _).mp c3)
      refine G_iconst dX12_cut_8 ?_
      exact G_iret rfl (rL (-1) rfl) dX12_cut_9 ⟨_, rfl, h⟩ hO
  · intro v1 v2 v3 v4 σ h hv1 hv2 hv3 hv4 hO
    have h := h hv1 hv2 hv3 hv4 hO
    refine G_iload 4 rfl dX12_cut_15 ?_
    refine G_sipush (by decide) dX12_cut_17 ?_
    refine G_icmp_ge hv4 (rL 256 rfl) dX12_cut_20 (tgt := 69) (by decide) (fun c4 => ?_) (fun c4 => ?_)
    · have h := h.1 c4
      refine G_iload_n 3 rfl rfl dX12_cut_69 ?_
      exact G_iret rfl hv3 dX12_cut_70 ⟨_, rfl, h⟩ hO
    · have h := h.2 c4
      refine G_iload 4 rfl dX12_cut_23 ?_
      refine G_iload_n 1 rfl rfl dX12_cut_25 ?_
      obtain ⟨c5, h⟩ := h
      refine G_callS (as := [_, _]) cf_X12_258 rfl (sp_X12_has (d - 1) (by omega) _ hO _ hv4 _ hv1 c5) (by omega) rfl rfl (Nat.le_of_ble_eq_true rfl) dX12_cut_26 ?_
      rintro _ _ ⟨_, rfl, rfl, rfl⟩ o7 r6
      refine G_if_eq (bI_R _) dX12_cut_29 (tgt := 63) (by decide) (fun c8 => ?_) (fun c8 => ?_)
      · have h := h.1 ((bI_0 _).mp c8)
        refine G_iinc (lv' := [(4, aI ((v4 + 1))), (0, aR (74)), (1, aI (v1)), (2, aI (v2)), (3, aI (v3))]) (k := 4) rfl rfl (by decide) dX12_cut_63 ?_
        refine G_goto (tgt := 15) dX12_cut_66 (by decide) ?_
        obtain ⟨c9, h⟩ := h
        exact G_pick [1, 2, 3, 4, 0] rfl (h hv1 hv2 hv3 c9 hO)
      · have h := h.2 (bI_ne c8)
        refine G_iload 4 rfl dX12_cut_32 ?_
        refine G_iload_n 2 rfl rfl dX12_cut_34 ?_
        obtain ⟨c10, h⟩ := h
        refine G_callS (as := [_, _]) cf_X12_258 rfl (sp_X12_has (d - 1) (by omega) _ hO _ hv4 _ hv2 c10) (by omega) rfl rfl (Nat.le_of_ble_eq_true rfl) dX12_cut_35 ?_
        rintro _ _ ⟨_, rfl, rfl, rfl⟩ o12 r11
        refine G_if_ne (bI_R _) dX12_cut_38 (tgt := 63) (by decide) (fun c13 => ?_) (fun c13 => ?_)
        · have h := h.1 (bI_ne c13)
          refine G_iinc (lv' := [(4, aI ((v4 + 1))), (0, aR (74)), (1, aI (v1)), (2, aI (v2)), (3, aI (v3))]) (k := 4) rfl rfl (by decide) dX12_cut_63 ?_
          refine G_goto (tgt := 15) dX12_cut_66 (by decide) ?_
          obtain ⟨c14, h⟩ := h
          exact G_pick [1, 2, 3, 4, 0] rfl (h hv1 hv2 hv3 c14 hO)
        · have h := h.2 ((bI_0 _).mp c13)
          refine G_iload_n 3 rfl rfl dX12_cut_41 ?_
          refine G_iconst dX12_cut_42 ?_
          refine G_icmp_eq hv3 (rL (-1) rfl) dX12_cut_43 (tgt := 60) (by decide) (fun c15 => ?_) (fun c15 => ?_)
          · have h := h.1 c15
            refine G_iload 4 rfl dX12_cut_60 ?_
            refine G_istore_n (lv' := [(3, aI (v4)), (0, aR (74)), (1, aI (v1)), (2, aI (v2)), (4, aI (v4))]) rfl rfl (by decide) dX12_cut_62 ?_
            refine G_iinc (lv' := [(4, aI ((v4 + 1))), (3, aI (v4)), (0, aR (74)), (1, aI (v1)), (2, aI (v2))]) (k := 4) rfl rfl (by decide) dX12_cut_63 ?_
            refine G_goto (tgt := 15) dX12_cut_66 (by decide) ?_
            obtain ⟨c16, h⟩ := h
            exact G_pick [2, 3, 4, 1, 0] rfl (h hv1 hv2 hv4 c16 hO)
          · have h := h.2 c15
            refine G_aload_n 0 rfl rfl dX12_cut_46 ?_
            refine G_iload 4 rfl dX12_cut_47 ?_
            obtain ⟨g17, g18, c19, h⟩ := h
            refine G_callV (as := [_]) cf_X12_425 rfl rfl rfl (sp_X12_throughOf (d - 1) (by omega) _ hO _ hv4 g17 g18 c19) (by omega) rfl rfl (Nat.le_of_ble_eq_true rfl) dX12_cut_49 ?_
            rintro _ σ22 ⟨u23, rfl, z24⟩ o21 r20
            have h := h _ _ (r20 _ rfl) o21 z24
            refine G_aload_n 0 rfl rfl dX12_cut_52 ?_
            refine G_iload_n 3 rfl rfl dX12_cut_53 ?_
            obtain ⟨g25, g26, c27, h⟩ := h
            refine G_callV (as := [_]) cf_X12_425 rfl rfl rfl (sp_X12_throughOf (d - 1) (by omega) _ o21 _ hv3 g25 g26 c27) (by omega) rfl rfl (Nat.le_of_ble_eq_true rfl) dX12_cut_54 ?_
            rintro _ σ30 ⟨u31, rfl, z32⟩ o29 r28
            have h := h _ _ (r28 _ rfl) o29 z32
            refine G_icmp_ge (r20 _ rfl) (r28 _ rfl) dX12_cut_57 (tgt := 63) (by decide) (fun c33 => ?_) (fun c33 => ?_)
            · have h := h.1 c33
              refine G_iinc (lv' := [(4, aI ((v4 + 1))), (0, aR (74)), (1, aI (v1)), (2, aI (v2)), (3, aI (v3))]) (k := 4) rfl rfl (by decide) dX12_cut_63 ?_
              refine G_goto (tgt := 15) dX12_cut_66 (by decide) ?_
              obtain ⟨c34, h⟩ := h
              exact G_pick [1, 2, 3, 4, 0] rfl (h hv1 hv2 hv3 c34 o29)
            · have h := h.2 c33
              refine G_iload 4 rfl dX12_cut_60 ?_
              refine G_istore_n (lv' := [(3, aI (v4)), (0, aR (74)), (1, aI (v1)), (2, aI (v2)), (4, aI (v4))]) rfl rfl (by decide) dX12_cut_62 ?_
              refine G_iinc (lv' := [(4, aI ((v4 + 1))), (3, aI (v4)), (0, aR (74)), (1, aI (v1)), (2, aI (v2))]) (k := 4) rfl rfl (by decide) dX12_cut_63 ?_
              refine G_goto (tgt := 15) dX12_cut_66 (by decide) ?_
              obtain ⟨c35, h⟩ := h
              exact G_pick [2, 3, 4, 1, 0] rfl (h hv1 hv2 hv4 c35 o29)

theorem sp_X12_cut (d : Nat) (hd : 3 ≤ d) (σ : Mem) (hO : OKm σ) (x1 : Int) (hx1 : R32 x1) (x2 : Int) (hx2 : R32 x2) (A : Mem) (tx : Nat → Txt) (hpre : vwM σ A tx) : Mt yX12_cut cX12_cut 5 (some .int) d [aR (74), aI (x1), aI (x2)] σ (QI (fun v σ' => v = cutS A x1 x2 ∧ σ' = σ)) := mt_X12_cut hd hx1 hx2 hO (by
  unfold wp_X12_cut
  intro P15 h15
  have hV := hpre
  refine ⟨fun hx => ?_, fun h => ⟨by unfold cutS; rw [if_neg h], rfl⟩⟩
  have ec : cutS A x1 x2 = cutN A x1 x2 256 := by unfold cutS; rw [if_pos hx]
  rw [ec] at h15
  have H : ∀ (n k : Nat), k + n = 256 → P15 x1 x2 (cutN A x1 x2 k) (k : Int) σ := by
    intro n
    induction n with
    | zero =>
      intro k hk
      have hk2 : k = 256 := by omega
      subst hk2
      exact h15 _ _ _ _ _ (fun _ _ _ _ _ => ⟨fun _ => ⟨rfl, rfl⟩, fun h => absurd h (by omega)⟩)
    | succ n ih =>
      intro k hk
      have ih1 := ih (k + 1) (by omega)
      have yes : isCut x1 x2 (k : Int) = true → (cutN A x1 x2 k = -1 ∨ thrS A (k : Int) < thrS A (cutN A x1 x2 k)) → R32 ((k : Int) + 1) ∧ P15 x1 x2 (k : Int) ((k : Int) + 1) σ := fun h1 h2 => by
        have e : cutN A x1 x2 (k + 1) = k := by show (if _ then _ else _) = _; rw [if_pos ⟨h1, h2⟩]
        rw [e] at ih1; exact ⟨by unfold R32; omega, ih1⟩
      have no : ¬ (isCut x1 x2 (k : Int) = true ∧ (cutN A x1 x2 k = -1 ∨ thrS A (k : Int) < thrS A (cutN A x1 x2 k))) → R32 ((k : Int) + 1) ∧ P15 x1 x2 (cutN A x1 x2 k) ((k : Int) + 1) σ := fun h => by
        have e : cutN A x1 x2 (k + 1) = cutN A x1 x2 k := by show (if _ then _ else _) = _; rw [if_neg h]
        rw [e] at ih1; exact ⟨by unfold R32; omega, ih1⟩
      have u1 : ((k : Nat) : Int).toNat.testBit x1.toNat = tbt (k : Int) x1 := rfl
      have u2 : ((k : Nat) : Int).toNat.testBit x2.toNat = tbt (k : Int) x2 := rfl
      refine h15 _ _ _ _ _ (fun _ _ _ _ _ => ⟨fun h => absurd h (by omega), fun _ => ?_⟩)
      rw [u1, u2]
      refine ⟨by omega, fun h => no (fun q => by unfold isCut at q; rw [Bool.and_eq_true] at q; exact h q.1.1), fun h1 => ⟨by omega, fun h => no (fun q => by unfold isCut at q; rw [h] at q; simp at q), fun h2 => ?_⟩⟩
      rw [Bool.not_eq_true] at h2
      have hq : isCut x1 x2 (k : Int) = true := by unfold isCut; rw [h1, h2]; rfl
      refine ⟨fun h => yes hq (Or.inl h), fun hne => ⟨A, tx, ⟨hV, by omega⟩, ?_⟩⟩
      intro u σ1 hu hO1 ⟨eu, e1⟩
      subst e1
      have hb := ((cutN_ok (A := A) (a := x1) (b := x2) k).2 hne).1
      refine ⟨A, tx, ⟨hV, by omega⟩, ?_⟩
      intro u2 σ2 hu2 hO2 ⟨eu2, e2⟩
      subst e2
      rw [eu, eu2]
      exact ⟨fun h => no (fun q => by have := q.2; omega), fun h => yes hq (Or.inr h)⟩
  exact H 256 0 (by omega))

def wp_X12_flow (x1 : Int) (x2 : Int) (σ : Mem) (Q : Int → Mem → Prop) : Prop :=
  ((¬ ((0 ≤ x1 ∧ x1 ≤ 7) ∧ (0 ≤ x2 ∧ x2 ≤ 7) ∧ x1 ≠ x2)) →
    Q (-1) σ) ∧
   (((0 ≤ x1 ∧ x1 ≤ 7) ∧ (0 ≤ x2 ∧ x2 ≤ 7) ∧ x1 ≠ x2) →
    ∃ g4 : Mem, ∃ g5 : Nat → Txt, (vwM σ g4 g5) ∧
    ∀ (u10 : Int) (σ9 : Mem), R32 u10 → OKm σ9 → (u10 = cutS g4 x1 x2 ∧ σ9 = σ) →
    ∃ g12 : Mem, ∃ g13 : Nat → Txt, (vwM σ9 g12 g13 ∧ (0 ≤ u10 ∧ u10 < 65536)) ∧
    ∀ (u18 : Int) (σ17 : Mem), R32 u18 → OKm σ17 → (u18 = thrS g12 u10 ∧ σ17 = σ9) →
    Q u18 σ17)
theorem mt_X12_flow {d : Nat} (hd : 4 ≤ d) {x1 : Int} {x2 : Int} {σ : Mem} {Q : Int → Mem → Prop} (hx1 : R32 x1) (hx2 : R32 x2) (hO : OKm σ) (h : wp_X12_flow x1 x2 σ Q) : Mt yX12_flow cX12_flow 3 (some .int) d [aR (74), aI (x1), aI (x2)] σ (QI Q) := by
  refine Mt.intro (by decide +kernel) (Nat.le_of_ble_eq_true rfl) [(0, aR (74)), (1, aI (x1)), (2, aI (x2))] rfl ?_
  unfold wp_X12_flow at h
  refine G_iload_n 1 rfl rfl dX12_flow_0 ?_
  refine G_iload_n 2 rfl rfl dX12_flow_1 ?_
  refine G_callS (as := [_, _]) cf_X12_422 rfl (sp_X12_areTowns (d - 1) (by omega) _ hO _ hx1 _ hx2) (by omega) rfl rfl (Nat.le_of_ble_eq_true rfl) dX12_flow_2 ?_
  rintro _ _ ⟨_, rfl, rfl, rfl⟩ o2 r1
  refine G_if_eq (bI_R _) dX12_flow_5 (tgt := 21) (by decide) (fun c3 => ?_) (fun c3 => ?_)
  · have h := h.1 ((bI_0 _).mp c3)
    refine G_iconst dX12_flow_21 ?_
    exact G_iret rfl (rL (-1) rfl) dX12_flow_22 ⟨_, rfl, h⟩ hO
  · have h := h.2 (bI_ne c3)
    refine G_aload_n 0 rfl rfl dX12_flow_8 ?_
    refine G_aload_n 0 rfl rfl dX12_flow_9 ?_
    refine G_iload_n 1 rfl rfl dX12_flow_10 ?_
    refine G_iload_n 2 rfl rfl dX12_flow_11 ?_
    obtain ⟨g4, g5, c6, h⟩ := h
    refine G_callV (as := [_, _]) cf_X12_428 rfl rfl rfl (sp_X12_cut (d - 1) (by omega) _ hO _ hx1 _ hx2 g4 g5 c6) (by omega) rfl rfl (Nat.le_of_ble_eq_true rfl) dX12_flow_12 ?_
    rintro _ σ9 ⟨u10, rfl, z11⟩ o8 r7
    have h := h _ _ (r7 _ rfl) o8 z11
    obtain ⟨g12, g13, c14, h⟩ := h
    refine G_callV (as := [_]) cf_X12_425 rfl rfl rfl (sp_X12_throughOf (d - 1) (by omega) _ o8 _ (r7 _ rfl) g12 g13 c14) (by omega) rfl rfl (Nat.le_of_ble_eq_true rfl) dX12_flow_15 ?_
    rintro _ σ17 ⟨u18, rfl, z19⟩ o16 r15
    have h := h _ _ (r15 _ rfl) o16 z19
    refine G_goto (tgt := 22) dX12_flow_18 (by decide) ?_
    exact G_iret rfl (r15 _ rfl) dX12_flow_22 ⟨_, rfl, h⟩ o16

theorem sp_X12_flow (d : Nat) (hd : 4 ≤ d) (σ : Mem) (hO : OKm σ) (x1 : Int) (hx1 : R32 x1) (x2 : Int) (hx2 : R32 x2) (A : Mem) (tx : Nat → Txt) (hpre : vwM σ A tx) : Mt yX12_flow cX12_flow 3 (some .int) d [aR (74), aI (x1), aI (x2)] σ (QI (fun v σ' => v = flowS A x1 x2 ∧ σ' = σ)) := mt_X12_flow hd hx1 hx2 hO (by
  unfold wp_X12_flow
  have hV := hpre
  refine ⟨fun h => ⟨by unfold flowS; rw [if_neg h], rfl⟩, fun h => ⟨A, tx, hV, ?_⟩⟩
  intro u σ1 hu hO1 ⟨eu, e1⟩
  subst e1
  have ec : cutS A x1 x2 = cutN A x1 x2 256 := by unfold cutS; rw [if_pos h]
  rw [ec] at eu
  have hb := (cut_eq (A := A) h.1 h.2.1 h.2.2).2
  refine ⟨A, tx, ⟨hV, by omega⟩, ?_⟩
  intro u2 σ2 hu2 hO2 ⟨eu2, e2⟩
  subst e2
  exact ⟨by unfold flowS; rw [if_pos h, ← eu]; exact eu2, rfl⟩)

/-! TOWNS TO WATCH -/
def wtN (A : Mem) (s : Int) : Nat → Bool
  | 0 => true
  | n + 1 => wtN A s n && (!netB A (n : Int) || (tbt s (A 11 (n : Int)) || tbt s (A 12 (n : Int))))
def wtS (A : Mem) (s : Int) : Bool := wtN A s (A 10 0).toNat
theorem wtN_f {A : Mem} {s : Int} {k : Nat} (h : netB A (k : Int) = true) (h1 : tbt s (A 11 (k : Int)) = false) (h2 : tbt s (A 12 (k : Int)) = false) : ∀ n : Nat, k < n → wtN A s n = false
  | 0, hn => by omega
  | n + 1, hn => by
    unfold wtN
    by_cases e : k = n
    · subst e; rw [h, h1, h2]; simp
    · rw [wtN_f h h1 h2 n (by omega)]; rfl
def pcS (s : Int) : Int := ((pcN 16 s.toNat : Nat) : Int)
def watN (A : Mem) : Nat → Int
  | 0 => 255
  | n + 1 => if pcS (255 - (n : Int)) ≤ pcS (watN A n) ∧ wtS A (255 - (n : Int)) = true then 255 - (n : Int) else watN A n
theorem watN_r (A : Mem) : ∀ n : Nat, n ≤ 256 → 0 ≤ watN A n ∧ watN A n ≤ 255
  | 0, _ => by simp [watN]
  | n + 1, hn => by
    have := watN_r A n (by omega)
    unfold watN; split <;> omega
def watS (A : Mem) (many : Int) : Int := if many = 0 then watN A 256 else pcS (watN A 256)

def wp_X4_watchesAll (x1 : Int) (σ : Mem) (Q : Int → Mem → Prop) : Prop :=
 ∀ P2 : Int → Int → Mem → Prop,
 (∀ (v1 : Int) (v2 : Int) (σ : Mem), (R32 v1 → R32 v2 → OKm σ →
   (((σ 1 8) ≤ v2) →
     Q 1 σ) ∧
    ((v2 < (σ 1 8)) →
     (0 ≤ v2 ∧ v2 < 16) ∧
     ((¬ (0 < σ 11 v2)) →
      R32 (v2 + 1) ∧ P2 v1 (v2 + 1) σ) ∧
     ((0 < σ 11 v2) →
      (0 ≤ v2 ∧ v2 < 16) ∧
      (((bAnd (bShr v1 (σ 2 v2)) 1) ≠ 0) →
       R32 (v2 + 1) ∧ P2 v1 (v2 + 1) σ) ∧
      (((bAnd (bShr v1 (σ 2 v2)) 1) = 0) →
       (0 ≤ v2 ∧ v2 < 16) ∧
       (((bAnd (bShr v1 (σ 3 v2)) 1) ≠ 0) →
        R32 (v2 + 1) ∧ P2 v1 (v2 + 1) σ) ∧
       (((bAnd (bShr v1 (σ 3 v2)) 1) = 0) →
        Q 0 σ))))) → P2 v1 v2 σ) →
  P2 x1 0 σ
theorem mt_X4_watchesAll {d : Nat} (hd : 1 ≤ d) {x1 : Int} {σ : Mem} {Q : Int → Mem → Prop} (hx1 : R32 x1) (hO : OKm σ) (h : wp_X4_watchesAll x1 σ Q) : Mt yX4_watchesAll cX4_watchesAll 3 (some .boolean) d [aR (40), aI (x1)] σ (QI Q) := by
  refine Mt.intro (by decide +kernel) (Nat.le_of_ble_eq_true rfl) [(0, aR (40)), (1, aI (x1))] rfl ?_
  unfold wp_X4_watchesAll at h
  have h := h (fun (v1 : Int) (v2 : Int) (σ : Mem) => R32 v1 → R32 v2 → OKm σ → G yX4_watchesAll cX4_watchesAll 3 (some .boolean) d (QI Q) 2 [(0, aR (40)), (1, aI (v1)), (2, aI (v2))] [] σ) ?_
  · refine G_iconst dX4_watchesAll_0 ?_
    refine G_istore_n (lv' := [(2, aI (0)), (0, aR (40)), (1, aI (x1))]) rfl rfl (by decide) dX4_watchesAll_1 ?_
    exact G_pick [1, 2, 0] rfl (h hx1 (rL 0 rfl) hO)
  · intro v1 v2 σ h hv1 hv2 hO
    have h := h hv1 hv2 hO
    refine G_iload_n 2 rfl rfl dX4_watchesAll_2 ?_
    refine G_aload_n 0 rfl rfl dX4_watchesAll_3 ?_
    refine G_get (k := 0) (kd := (2, 1)) (v := aR 1) gf_X4_37 rfl rfl rfl rfl dX4_watchesAll_4 ?_
    refine G_get (k := 8) (kd := (0, 0)) (v := aI (σ 1 8)) gf_X4_50 rfl rfl rfl rfl dX4_watchesAll_7 ?_
    refine G_icmp_ge hv2 (OKm.i hO 1 8 rfl) dX4_watchesAll_10 (tgt := 61) (by decide) (fun c1 => ?_) (fun c1 => ?_)
    · have h := h.1 c1
      refine G_iconst dX4_watchesAll_61 ?_
      exact G_zret rfl (by decide) dX4_watchesAll_62 ⟨_, rfl, h⟩ hO
    · have h := h.2 c1
      refine G_aload_n 0 rfl rfl dX4_watchesAll_13 ?_
      refine G_iload_n 2 rfl rfl dX4_watchesAll_14 ?_
      obtain ⟨c2, h⟩ := h
      refine G_callV (as := [_]) cf_X4_56 rfl rfl rfl (sp_X4_holds (d - 1) (by omega) _ hO _ hv2 c2) (by omega) rfl rfl (Nat.le_of_ble_eq_true rfl) dX4_watchesAll_15 ?_
      rintro _ _ ⟨_, rfl, rfl, rfl⟩ o4 r3
      refine G_if_eq (bI_R _) dX4_watchesAll_18 (tgt := 55) (by decide) (fun c5 => ?_) (fun c5 => ?_)
      · have h := h.1 ((bI_0 _).mp c5)
        refine G_iinc (lv' := [(2, aI ((v2 + 1))), (0, aR (40)), (1, aI (v1))]) (k := 2) rfl rfl (by decide) dX4_watchesAll_55 ?_
        refine G_goto (tgt := 2) dX4_watchesAll_58 (by decide) ?_
        obtain ⟨c6, h⟩ := h
        exact G_pick [1, 2, 0] rfl (h hv1 c6 hO)
      · have h := h.2 (bI_ne c5)
        refine G_iload_n 1 rfl rfl dX4_watchesAll_21 ?_
        refine G_aload_n 0 rfl rfl dX4_watchesAll_22 ?_
        refine G_get (k := 0) (kd := (2, 1)) (v := aR 1) gf_X4_37 rfl rfl rfl rfl dX4_watchesAll_23 ?_
        refine G_get (k := 0) (kd := (3, 1)) (v := aR (2)) gf_X4_71 rfl rfl rfl rfl dX4_watchesAll_26 ?_
        refine G_iload_n 2 rfl rfl dX4_watchesAll_29 ?_
        obtain ⟨c7, h⟩ := h
        refine G_iald (n := 16) rfl c7.1 c7.2 dX4_watchesAll_30 ?_
        refine G_ishr dX4_watchesAll_31 ?_
        refine G_iconst dX4_watchesAll_32 ?_
        refine G_iand dX4_watchesAll_33 ?_
        refine G_if_ne (r32_of _) dX4_watchesAll_34 (tgt := 55) (by decide) (fun c8 => ?_) (fun c8 => ?_)
        · have h := h.1 c8
          refine G_iinc (lv' := [(2, aI ((v2 + 1))), (0, aR (40)), (1, aI (v1))]) (k := 2) rfl rfl (by decide) dX4_watchesAll_55 ?_
          refine G_goto (tgt := 2) dX4_watchesAll_58 (by decide) ?_
          obtain ⟨c9, h⟩ := h
          exact G_pick [1, 2, 0] rfl (h hv1 c9 hO)
        · have h := h.2 c8
          refine G_iload_n 1 rfl rfl dX4_watchesAll_37 ?_
          refine G_aload_n 0 rfl rfl dX4_watchesAll_38 ?_
          refine G_get (k := 0) (kd := (2, 1)) (v := aR 1) gf_X4_37 rfl rfl rfl rfl dX4_watchesAll_39 ?_
          refine G_get (k := 1) (kd := (3, 2)) (v := aR (3)) gf_X4_74 rfl rfl rfl rfl dX4_watchesAll_42 ?_
          refine G_iload_n 2 rfl rfl dX4_watchesAll_45 ?_
          obtain ⟨c10, h⟩ := h
          refine G_iald (n := 16) rfl c10.1 c10.2 dX4_watchesAll_46 ?_
          refine G_ishr dX4_watchesAll_47 ?_
          refine G_iconst dX4_watchesAll_48 ?_
          refine G_iand dX4_watchesAll_49 ?_
          refine G_if_ne (r32_of _) dX4_watchesAll_50 (tgt := 55) (by decide) (fun c11 => ?_) (fun c11 => ?_)
          · have h := h.1 c11
            refine G_iinc (lv' := [(2, aI ((v2 + 1))), (0, aR (40)), (1, aI (v1))]) (k := 2) rfl rfl (by decide) dX4_watchesAll_55 ?_
            refine G_goto (tgt := 2) dX4_watchesAll_58 (by decide) ?_
            obtain ⟨c12, h⟩ := h
            exact G_pick [1, 2, 0] rfl (h hv1 c12 hO)
          · have h := h.2 c11
            refine G_iconst dX4_watchesAll_53 ?_
            exact G_zret rfl (by decide) dX4_watchesAll_54 ⟨_, rfl, h⟩ hO

theorem sp_X4_watchesAll (d : Nat) (hd : 1 ≤ d) (σ : Mem) (hO : OKm σ) (x1 : Int) (hx1 : R32 x1) (A : Mem) (tx : Nat → Txt) (hpre : vwC σ A tx ∧ (0 ≤ x1 ∧ x1 < 65536)) : Mt yX4_watchesAll cX4_watchesAll 3 (some .boolean) d [aR (40), aI (x1)] σ (QI (fun v σ' => v = (if wtS A x1 = true then 1 else 0) ∧ σ' = σ)) := mt_X4_watchesAll hd hx1 hO (by
  unfold wp_X4_watchesAll
  intro P2 h2
  obtain ⟨hV, hx⟩ := hpre
  have hI := hV.2.2.1
  have hc := hI.1
  have e8 : σ 1 8 = A 10 0 := hV.1.1.1
  have H : ∀ (n k : Nat), k + n = (A 10 0).toNat → (wtN A x1 k = true) → P2 x1 (k : Int) σ := by
    intro n
    induction n with
    | zero =>
      intro k hk hw
      have hk2 : k = (A 10 0).toNat := by omega
      exact h2 _ _ _ (fun _ _ _ => ⟨fun _ => ⟨by unfold wtS; rw [← hk2, hw]; rfl, rfl⟩, fun h => absurd h (by omega)⟩)
    | succ n ih =>
      intro k hk hw
      have hl := hI.2.1 (k : Int) (by omega) (by omega)
      have t1 := hV.1.2.1 (k : Int) (by omega) (by omega)
      have n1 := hV.2.1.2.1 (k : Int) (by omega) (by omega)
      have s2 : σ 2 (k : Int) = A 11 (k : Int) := t1.1
      have s3 : σ 3 (k : Int) = A 12 (k : Int) := t1.2.1
      have nx : (netB A (k : Int) = false ∨ tbt x1 (A 11 (k : Int)) = true ∨ tbt x1 (A 12 (k : Int)) = true) → R32 ((k : Int) + 1) ∧ P2 x1 ((k : Int) + 1) σ := fun h => by
        refine ⟨by unfold R32; omega, ih (k + 1) (by omega) ?_⟩
        unfold wtN
        rw [hw]
        rcases h with h | h | h <;> rw [h] <;> simp
      refine h2 _ _ _ (fun _ _ _ => ⟨fun h => absurd h (by omega), fun _ => ?_⟩)
      rw [s2, s3, n1, tbt_sh hx (by omega), tbt_sh hx (by omega)]
      refine ⟨by omega, fun h => nx (Or.inl (decide_eq_false h)), fun h => ⟨by omega, fun h2 => nx (Or.inr (Or.inl ?_)), fun h2 => ⟨by omega, fun h3 => nx (Or.inr (Or.inr ?_)), fun h3 => ⟨?_, rfl⟩⟩⟩⟩
      · cases hq : tbt x1 (A 11 (k : Int)) with
        | true => rfl
        | false => rw [hq] at h2; exact absurd rfl h2
      · cases hq : tbt x1 (A 12 (k : Int)) with
        | true => rfl
        | false => rw [hq] at h3; exact absurd rfl h3
      · have q1 : tbt x1 (A 11 (k : Int)) = false := by
          cases hq : tbt x1 (A 11 (k : Int)) with
          | false => rfl
          | true => rw [hq] at h2; exact absurd h2 (by decide)
        have q2 : tbt x1 (A 12 (k : Int)) = false := by
          cases hq : tbt x1 (A 12 (k : Int)) with
          | false => rfl
          | true => rw [hq] at h3; exact absurd h3 (by decide)
        unfold wtS
        rw [wtN_f (decide_eq_true h) q1 q2 _ (by omega)]; rfl
  exact H _ 0 (Nat.zero_add _) rfl)

def wp_X12_isWatched (x1 : Int) (σ : Mem) (Q : Int → Mem → Prop) : Prop :=
 ∀ P2 : Int → Int → Mem → Prop,
 (∀ (v1 : Int) (v2 : Int) (σ : Mem), (R32 v1 → R32 v2 → OKm σ →
   (((σ 75 0) ≤ v2) →
     Q 1 σ) ∧
    ((v2 < (σ 75 0)) →
     (0 ≤ v2 ∧ v2 < 16) ∧
     ((¬ (0 < σ 75 (11 + v2))) →
      R32 (v2 + 1) ∧ P2 v1 (v2 + 1) σ) ∧
     ((0 < σ 75 (11 + v2)) →
      (0 ≤ v2 ∧ v2 < 16 ∧ 0 ≤ (0 : Int) ∧ (0 : Int) < 4) ∧
      ((0 ≤ v1 ∧ v1 < 2147483648) ∧ (0 ≤ (σ 75 (39 + 4 * v2 + (0 : Int))) ∧ (σ 75 (39 + 4 * v2 + (0 : Int))) < 31)) ∧
      (((v1).toNat.testBit ((σ 75 (39 + 4 * v2 + (0 : Int)))).toNat = true) →
       R32 (v2 + 1) ∧ P2 v1 (v2 + 1) σ) ∧
      ((¬ ((v1).toNat.testBit ((σ 75 (39 + 4 * v2 + (0 : Int)))).toNat = true)) →
       (0 ≤ v2 ∧ v2 < 16 ∧ 0 ≤ (1 : Int) ∧ (1 : Int) < 4) ∧
       ((0 ≤ v1 ∧ v1 < 2147483648) ∧ (0 ≤ (σ 75 (39 + 4 * v2 + (1 : Int))) ∧ (σ 75 (39 + 4 * v2 + (1 : Int))) < 31)) ∧
       (((v1).toNat.testBit ((σ 75 (39 + 4 * v2 + (1 : Int)))).toNat = true) →
        R32 (v2 + 1) ∧ P2 v1 (v2 + 1) σ) ∧
       ((¬ ((v1).toNat.testBit ((σ 75 (39 + 4 * v2 + (1 : Int)))).toNat = true)) →
        Q 0 σ))))) → P2 v1 v2 σ) →
  P2 x1 0 σ
theorem mt_X12_isWatched {d : Nat} (hd : 1 ≤ d) {x1 : Int} {σ : Mem} {Q : Int → Mem → Prop} (hx1 : R32 x1) (hO : OKm σ) (h : wp_X12_isWatched x1 σ Q) : Mt yX12_isWatched cX12_isWatched 3 (some .boolean) d [aR (74), aI (x1)] σ (QI Q) := by
  refine Mt.intro (by decide +kernel) (Nat.le_of_ble_eq_true rfl) [(0, aR (74)), (1, aI (x1))] rfl ?_
  unfold wp_X12_isWatched at h
  have h := h (fun (v1 : Int) (v2 : Int) (σ : Mem) => R32 v1 → R32 v2 → OKm σ → G yX12_isWatched cX12_isWatched 3 (some .boolean) d (QI Q) 2 [(0, aR (74)), (1, aI (v1)), (2, aI (v2))] [] σ) ?_
  · refine G_iconst dX12_isWatched_0 ?_
    refine G_istore_n (lv' := [(2, aI (0)), (0, aR (74)), (1, aI (x1))]) rfl rfl (by decide) dX12_isWatched_1 ?_
    exact G_pick [1, 2, 0] rfl (h hx1 (rL 0 rfl) hO)
  · intro v1 v2 σ h hv1 hv2 hO
    have h := h hv1 hv2 hO
    refine G_iload_n 2 rfl rfl dX12_isWatched_2 ?_
    refine G_aload_n 0 rfl rfl dX12_isWatched_3 ?_
    refine G_get (k := 0) (kd := (2, 75)) (v := aR 75) gf_X12_7 rfl rfl rfl rfl dX12_isWatched_4 ?_
    refine G_iconst dX12_isWatched_7 ?_
    refine G_iald (n := 2119) rfl (by decide) (by decide) dX12_isWatched_8 ?_
    refine G_icmp_ge hv2 (OKm.i hO 75 0 (isLg_row (show shp 75 = (1, 2119, []) from rfl) _)) dX12_isWatched_9 (tgt := 54) (by decide) (fun c1 => ?_) (fun c1 => ?_)
    · have h := h.1 c1
      refine G_iconst dX12_isWatched_54 ?_
      exact G_zret rfl (by decide) dX12_isWatched_55 ⟨_, rfl, h⟩ hO
    · have h := h.2 c1
      refine G_aload_n 0 rfl rfl dX12_isWatched_12 ?_
      refine G_iload_n 2 rfl rfl dX12_isWatched_13 ?_
      obtain ⟨c2, h⟩ := h
      refine G_callV (as := [_]) cf_X12_431 rfl rfl rfl (sp_X12_isNet (d - 1) (by omega) _ hO _ hv2 c2) (by omega) rfl rfl (Nat.le_of_ble_eq_true rfl) dX12_isWatched_14 ?_
      rintro _ _ ⟨_, rfl, rfl, rfl⟩ o4 r3
      refine G_if_eq (bI_R _) dX12_isWatched_17 (tgt := 48) (by decide) (fun c5 => ?_) (fun c5 => ?_)
      · have h := h.1 ((bI_0 _).mp c5)
        refine G_iinc (lv' := [(2, aI ((v2 + 1))), (0, aR (74)), (1, aI (v1))]) (k := 2) rfl rfl (by decide) dX12_isWatched_48 ?_
        refine G_goto (tgt := 2) dX12_isWatched_51 (by decide) ?_
        obtain ⟨c6, h⟩ := h
        exact G_pick [1, 2, 0] rfl (h hv1 c6 hO)
      · have h := h.2 (bI_ne c5)
        refine G_iload_n 1 rfl rfl dX12_isWatched_20 ?_
        refine G_aload_n 0 rfl rfl dX12_isWatched_21 ?_
        refine G_iload_n 2 rfl rfl dX12_isWatched_22 ?_
        refine G_iconst dX12_isWatched_23 ?_
        obtain ⟨c7, h⟩ := h
        refine G_callV (as := [_, _]) cf_X12_85 rfl rfl rfl (sp_X12_told (d - 1) (by omega) _ hO _ hv2 _ (rL 0 rfl) c7) (by omega) rfl rfl (Nat.le_of_ble_eq_true rfl) dX12_isWatched_24 ?_
        rintro _ _ ⟨_, rfl, rfl, rfl⟩ o9 r8
        obtain ⟨c10, h⟩ := h
        refine G_callS (as := [_, _]) cf_X12_258 rfl (sp_X12_has (d - 1) (by omega) _ hO _ hv1 _ (r8 _ rfl) c10) (by omega) rfl rfl (Nat.le_of_ble_eq_true rfl) dX12_isWatched_27 ?_
        rintro _ _ ⟨_, rfl, rfl, rfl⟩ o12 r11
        refine G_if_ne (bI_R _) dX12_isWatched_30 (tgt := 48) (by decide) (fun c13 => ?_) (fun c13 => ?_)
        · have h := h.1 (bI_ne c13)
          refine G_iinc (lv' := [(2, aI ((v2 + 1))), (0, aR (74)), (1, aI (v1))]) (k := 2) rfl rfl (by decide) dX12_isWatched_48 ?_
          refine G_goto (tgt := 2) dX12_isWatched_51 (by decide) ?_
          obtain ⟨c14, h⟩ := h
          exact G_pick [1, 2, 0] rfl (h hv1 c14 hO)
        · have h := h.2 ((bI_0 _).mp c13)
          refine G_iload_n 1 rfl rfl dX12_isWatched_33 ?_
          refine G_aload_n 0 rfl rfl dX12_isWatched_34 ?_
          refine G_iload_n 2 rfl rfl dX12_isWatched_35 ?_
          refine G_iconst dX12_isWatched_36 ?_
          obtain ⟨c15, h⟩ := h
          refine G_callV (as := [_, _]) cf_X12_85 rfl rfl rfl (sp_X12_told (d - 1) (by omega) _ hO _ hv2 _ (rL 1 rfl) c15) (by omega) rfl rfl (Nat.le_of_ble_eq_true rfl) dX12_isWatched_37 ?_
          rintro _ _ ⟨_, rfl, rfl, rfl⟩ o17 r16
          obtain ⟨c18, h⟩ := h
          refine G_callS (as := [_, _]) cf_X12_258 rfl (sp_X12_has (d - 1) (by omega) _ hO _ hv1 _ (r16 _ rfl) c18) (by omega) rfl rfl (Nat.le_of_ble_eq_true rfl) dX12_isWatched_40 ?_
          rintro _ _ ⟨_, rfl, rfl, rfl⟩ o20 r19
          refine G_if_ne (bI_R _) dX12_isWatched_43 (tgt := 48) (by decide) (fun c21 => ?_) (fun c21 => ?_)
          · have h := h.1 (bI_ne c21)
            refine G_iinc (lv' := [(2, aI ((v2 + 1))), (0, aR (74)), (1, aI (v1))]) (k := 2) rfl rfl (by decide) dX12_isWatched_48 ?_
            refine G_goto (tgt := 2) dX12_isWatched_51 (by decide) ?_
            obtain ⟨c22, h⟩ := h
            exact G_pick [1, 2, 0] rfl (h hv1 c22 hO)
          · have h := h.2 ((bI_0 _).mp c21)
            refine G_iconst dX12_isWatched_46 ?_
            exact G_zret rfl (by decide) dX12_isWatched_47 ⟨_, rfl, h⟩ hO

theorem sp_X12_isWatched (d : Nat) (hd : 1 ≤ d) (σ : Mem) (hO : OKm σ) (x1 : Int) (hx1 : R32 x1) (A : Mem) (tx : Nat → Txt) (hpre : vwM σ A tx ∧ (0 ≤ x1 ∧ x1 < 65536)) : Mt yX12_isWatched cX12_isWatched 3 (some .boolean) d [aR (74), aI (x1)] σ (QI (fun v σ' => v = (if wtS A x1 = true then 1 else 0) ∧ σ' = σ)) := mt_X12_isWatched hd hx1 hO (by
  unfold wp_X12_isWatched
  intro P2 h2
  obtain ⟨hV, hx⟩ := hpre
  have hI := hV.2.2.1
  have hc := hI.1
  have e0 : σ 75 0 = A 10 0 := hV.1.1.1
  have H : ∀ (n k : Nat), k + n = (A 10 0).toNat → (wtN A x1 k = true) → P2 x1 (k : Int) σ := by
    intro n
    induction n with
    | zero =>
      intro k hk hw
      have hk2 : k = (A 10 0).toNat := by omega
      exact h2 _ _ _ (fun _ _ _ => ⟨fun _ => ⟨by unfold wtS; rw [← hk2, hw]; rfl, rfl⟩, fun h => absurd h (by omega)⟩)
    | succ n ih =>
      intro k hk hw
      have hl := hI.2.1 (k : Int) (by omega) (by omega)
      have t1 := hV.1.2.1 (k : Int) (by omega) (by omega)
      have n1 := hV.2.1.2.1 (k : Int) (by omega) (by omega)
      have s2 : σ 75 (39 + 4 * (k : Int) + 0) = A 11 (k : Int) := by rw [Int.add_zero]; exact t1.1
      have s3 : σ 75 (39 + 4 * (k : Int) + 1) = A 12 (k : Int) := t1.2.1
      have nx : (netB A (k : Int) = false ∨ tbt x1 (A 11 (k : Int)) = true ∨ tbt x1 (A 12 (k : Int)) = true) → R32 ((k : Int) + 1) ∧ P2 x1 ((k : Int) + 1) σ := fun h => by
        refine ⟨by unfold R32; omega, ih (k + 1) (by omega) ?_⟩
        unfold wtN
        rw [hw]
        rcases h with h | h | h <;> rw [h] <;> simp
      refine h2 _ _ _ (fun _ _ _ => ⟨fun h => absurd h (by omega), fun _ => ?_⟩)
      rw [s2, s3, n1]
      have u1 : x1.toNat.testBit (A 11 (k : Int)).toNat = tbt x1 (A 11 (k : Int)) := rfl
      have u2 : x1.toNat.testBit (A 12 (k : Int)).toNat = tbt x1 (A 12 (k : Int)) := rfl
      rw [u1, u2]
      refine ⟨by omega, fun h => nx (Or.inl (decide_eq_false h)), fun h => ⟨by omega, by omega, fun h2 => nx (Or.inr (Or.inl h2)), fun h2 => ⟨by omega, by omega, fun h3 => nx (Or.inr (Or.inr h3)), fun h3 => ⟨?_, rfl⟩⟩⟩⟩
      rw [Bool.not_eq_true] at h2 h3
      unfold wtS
      rw [wtN_f (decide_eq_true h) h2 h3 _ (by omega)]; rfl
  exact H _ 0 (Nat.zero_add _) rfl)
