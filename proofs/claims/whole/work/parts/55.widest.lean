def wp_X12_centre  (σ : Mem) (Q : Int → Mem → Prop) : Prop :=
 ∀ P12 : Int → Int → Int → Mem → Prop,
 ∀ P38 : Int → Int → Int → Int → Int → Mem → Prop,
 (∀ (v1 : Int) (v2 : Int) (v3 : Int) (σ : Mem), (R32 v1 → R32 v2 → R32 v3 → OKm σ →
   ((8 ≤ v3) →
     Q v1 σ) ∧
    ((v3 < 8) →
     ∃ g10 : Mem, ∃ g11 : Nat → Txt, (vwM σ g10 g11) ∧
     ∀ (u16 : Int) (σ15 : Mem), R32 u16 → OKm σ15 → (u16 = ntS g10 ∧ σ15 = σ) →
     ((0 ≤ u16 ∧ u16 < 2147483648) ∧ (0 ≤ v3 ∧ v3 < 31)) ∧
     (((u16).toNat.testBit (v3).toNat = true) →
      P38 v1 v2 v3 0 0 σ15) ∧
     ((¬ ((u16).toNat.testBit (v3).toNat = true)) →
      R32 (v3 + 1) ∧ P12 v1 v2 (v3 + 1) σ15))) → P12 v1 v2 v3 σ) →
 (∀ (v1 : Int) (v2 : Int) (v3 : Int) (v4 : Int) (v5 : Int) (σ : Mem), (R32 v1 → R32 v2 → R32 v3 → R32 v4 → R32 v5 → OKm σ →
   ((8 ≤ v5) →
     ((v4 < v2) →
      R32 (v3 + 1) ∧ P12 v3 v4 (v3 + 1) σ) ∧
     ((v2 ≤ v4) →
      R32 (v3 + 1) ∧ P12 v1 v2 (v3 + 1) σ)) ∧
    ((v5 < 8) →
     (0 ≤ ((8 * v3) + v5) ∧ ((8 * v3) + v5) < 64) ∧
     (((σ 86 ((8 * v3) + v5)) = 1000000) →
      R32 (v5 + 1) ∧ P38 v1 v2 v3 v4 (v5 + 1) σ) ∧
     (((σ 86 ((8 * v3) + v5)) ≠ 1000000) →
      (0 ≤ ((8 * v3) + v5) ∧ ((8 * v3) + v5) < 64) ∧
      (((σ 86 ((8 * v3) + v5)) ≤ v4) →
       R32 (v5 + 1) ∧ P38 v1 v2 v3 v4 (v5 + 1) σ) ∧
      ((v4 < (σ 86 ((8 * v3) + v5))) →
       (0 ≤ ((8 * v3) + v5) ∧ ((8 * v3) + v5) < 64) ∧
       R32 (v5 + 1) ∧ P38 v1 v2 v3 (σ 86 ((8 * v3) + v5)) (v5 + 1) σ)))) → P38 v1 v2 v3 v4 v5 σ) →
  ∃ g1 : Mem, ∃ g2 : Nat → Txt, (vwM σ g1 g2) ∧
   ∀ σ6 : Mem, OKm σ6 → (betw σ6 g1 8 ∧ vwM σ6 g1 g2 ∧ Fr [84, 86] σ σ6) →
   P12 (-1) 1000000 0 σ6
theorem mt_X12_centre {d : Nat} (hd : 3 ≤ d)  {σ : Mem} {Q : Int → Mem → Prop}  (hO : OKm σ) (h : wp_X12_centre  σ Q) : Mt yX12_centre cX12_centre 6 (some .int) d [aR (74)] σ (QI Q) := by
  refine Mt.intro (by decide +kernel) (Nat.le_of_ble_eq_true rfl) [(0, aR (74))] rfl ?_
  unfold wp_X12_centre at h
  have h := h (fun (v1 : Int) (v2 : Int) (v3 : Int) (σ : Mem) => R32 v1 → R32 v2 → R32 v3 → OKm σ → G yX12_centre cX12_centre 6 (some .int) d (QI Q) 12 [(0, aR (74)), (1, aI (v1)), (2, aI (v2)), (3, aI (v3))] [] σ)
    (fun (v1 : Int) (v2 : Int) (v3 : Int) (v4 : Int) (v5 : Int) (σ : Mem) => R32 v1 → R32 v2 → R32 v3 → R32 v4 → R32 v5 → OKm σ → G yX12_centre cX12_centre 6 (some .int) d (QI Q) 38 [(0, aR (74)), (1, aI (v1)), (2, aI (v2)), (3, aI (v3)), (4, aI (v4)), (5, aI (v5))] [] σ) ?_ ?_
  · refine G_aload_n 0 rfl rfl dX12_centre_0 ?_
    obtain ⟨g1, g2, c3, h⟩ := h
    refine G_callV (as := []) cf_X12_443 rfl rfl rfl (sp_X12_layBetween (d - 1) (by omega) _ hO  g1 g2 c3) (by omega) rfl rfl (Nat.le_of_ble_eq_true rfl) dX12_centre_1 ?_
    rintro _ σ6 ⟨rfl, z8⟩ o5 r4
    have h := h _ o5 z8
    refine G_iconst dX12_centre_4 ?_
    refine G_istore_n (lv' := [(1, aI ((-1))), (0, aR (74))]) rfl rfl (by decide) dX12_centre_5 ?_
    refine G_ldcw (n := 1000000) rfl (by decide) kc_X12_412 dX12_centre_6 ?_
    refine G_istore_n (lv' := [(2, aI (1000000)), (1, aI ((-1))), (0, aR (74))]) rfl rfl (by decide) dX12_centre_9 ?_
    refine G_iconst dX12_centre_10 ?_
    refine G_istore_n (lv' := [(3, aI (0)), (2, aI (1000000)), (1, aI ((-1))), (0, aR (74))]) rfl rfl (by decide) dX12_centre_11 ?_
    exact G_pick [3, 2, 1, 0] rfl (h (rL (-1) rfl) (rL 1000000 rfl) (rL 0 rfl) o5)
  · intro v1 v2 v3 σ h hv1 hv2 hv3 hO
    have h := h hv1 hv2 hv3 hO
    refine G_iload_n 3 rfl rfl dX12_centre_12 ?_
    refine G_bipush (by decide) dX12_centre_13 ?_
    refine G_icmp_ge hv3 (rL 8 rfl) dX12_centre_15 (tgt := 120) (by decide) (fun c9 => ?_) (fun c9 => ?_)
    · have h := h.1 c9
      refine G_iload_n 1 rfl rfl dX12_centre_120 ?_
      exact G_iret rfl hv1 dX12_centre_121 ⟨_, rfl, h⟩ hO
    · have h := h.2 c9
      refine G_aload_n 0 rfl rfl dX12_centre_18 ?_
      obtain ⟨g10, g11, c12, h⟩ := h
      refine G_callV (as := []) cf_X12_440 rfl rfl rfl (sp_X12_netTowns (d - 1) (by omega) _ hO  g10 g11 c12) (by omega) rfl rfl (Nat.le_of_ble_eq_true rfl) dX12_centre_19 ?_
      rintro _ σ15 ⟨u16, rfl, z17⟩ o14 r13
      have h := h _ _ (r13 _ rfl) o14 z17
      refine G_iload_n 3 rfl rfl dX12_centre_22 ?_
      obtain ⟨c18, h⟩ := h
      refine G_callS (as := [_, _]) cf_X12_258 rfl (sp_X12_has (d - 1) (by omega) _ o14 _ (r13 _ rfl) _ hv3 c18) (by omega) rfl rfl (Nat.le_of_ble_eq_true rfl) dX12_centre_23 ?_
      rintro _ _ ⟨_, rfl, rfl, rfl⟩ o20 r19
      refine G_if_ne (bI_R _) dX12_centre_26 (tgt := 32) (by decide) (fun c21 => ?_) (fun c21 => ?_)
      · have h := h.1 (bI_ne c21)
        refine G_iconst dX12_centre_32 ?_
        refine G_istore (lv' := [(4, aI (0)), (0, aR (74)), (1, aI (v1)), (2, aI (v2)), (3, aI (v3))]) rfl (by decide) dX12_centre_33 ?_
        refine G_iconst dX12_centre_35 ?_
        refine G_istore (lv' := [(5, aI (0)), (4, aI (0)), (0, aR (74)), (1, aI (v1)), (2, aI (v2)), (3, aI (v3))]) rfl (by decide) dX12_centre_36 ?_
        exact G_pick [2, 3, 4, 5, 1, 0] rfl (h hv1 hv2 hv3 (rL 0 rfl) (rL 0 rfl) o14)
      · have h := h.2 ((bI_0 _).mp c21)
        refine G_goto (tgt := 114) dX12_centre_29 (by decide) ?_
        refine G_iinc (lv' := [(3, aI ((v3 + 1))), (0, aR (74)), (1, aI (v1)), (2, aI (v2))]) (k := 3) rfl rfl (by decide) dX12_centre_114 ?_
        refine G_goto (tgt := 12) dX12_centre_117 (by decide) ?_
        obtain ⟨c22, h⟩ := h
        exact G_pick [1, 2, 3, 0] rfl (h hv1 hv2 c22 o14)
  · intro v1 v2 v3 v4 v5 σ h hv1 hv2 hv3 hv4 hv5 hO
    have h := h hv1 hv2 hv3 hv4 hv5 hO
    refine G_iload 5 rfl dX12_centre_38 ?_
    refine G_bipush (by decide) dX12_centre_40 ?_
    refine G_icmp_ge hv5 (rL 8 rfl) dX12_centre_42 (tgt := 100) (by decide) (fun c23 => ?_) (fun c23 => ?_)
    · have h := h.1 c23
      refine G_iload 4 rfl dX12_centre_100 ?_
      refine G_iload_n 2 rfl rfl dX12_centre_102 ?_
      refine G_icmp_lt hv4 hv2 dX12_centre_103 (tgt := 109) (by decide) (fun c24 => ?_) (fun c24 => ?_)
      · have h := h.1 c24
        refine G_iload 4 rfl dX12_centre_109 ?_
        refine G_istore_n (lv' := [(2, aI (v4)), (0, aR (74)), (1, aI (v1)), (3, aI (v3)), (4, aI (v4)), (5, aI (v5))]) rfl rfl (by decide) dX12_centre_111 ?_
        refine G_iload_n 3 rfl rfl dX12_centre_112 ?_
        refine G_istore_n (lv' := [(1, aI (v3)), (2, aI (v4)), (0, aR (74)), (3, aI (v3)), (4, aI (v4)), (5, aI (v5))]) rfl rfl (by decide) dX12_centre_113 ?_
        refine G_iinc (lv' := [(3, aI ((v3 + 1))), (1, aI (v3)), (2, aI (v4)), (0, aR (74)), (4, aI (v4)), (5, aI (v5))]) (k := 3) rfl rfl (by decide) dX12_centre_114 ?_
        refine G_goto (tgt := 12) dX12_centre_117 (by decide) ?_
        obtain ⟨c25, h⟩ := h
        exact G_pick [3, 1, 2, 0] rfl (h hv3 hv4 c25 hO)
      · have h := h.2 c24
        refine G_goto (tgt := 114) dX12_centre_106 (by decide) ?_
        refine G_iinc (lv' := [(3, aI ((v3 + 1))), (0, aR (74)), (1, aI (v1)), (2, aI (v2)), (4, aI (v4)), (5, aI (v5))]) (k := 3) rfl rfl (by decide) dX12_centre_114 ?_
        refine G_goto (tgt := 12) dX12_centre_117 (by decide) ?_
        obtain ⟨c26, h⟩ := h
        exact G_pick [1, 2, 3, 0] rfl (h hv1 hv2 c26 hO)
    · have h := h.2 c23
      refine G_aload_n 0 rfl rfl dX12_centre_45 ?_
      refine G_get (k := 28) (kd := (2, 86)) (v := aR 86) gf_X12_56 rfl rfl rfl rfl dX12_centre_46 ?_
      refine G_bipush (by decide) dX12_centre_49 ?_
      refine G_iload_n 3 rfl rfl dX12_centre_51 ?_
      refine G_imul dX12_centre_52 ?_
      refine G_iload 5 rfl dX12_centre_53 ?_
      refine G_iadd dX12_centre_55 ?_
      obtain ⟨c27, h⟩ := h
      refine G_iald (n := 64) rfl c27.1 c27.2 dX12_centre_56 ?_
      refine G_ldcw (n := 1000000) rfl (by decide) kc_X12_412 dX12_centre_57 ?_
      refine G_icmp_eq (OKm.i hO 86 ((8 * v3) + v5) (isLg_row (show shp 86 = (1, 64, []) from rfl) _)) (rL 1000000 rfl) dX12_centre_60 (tgt := 94) (by decide) (fun c28 => ?_) (fun c28 => ?_)
      · have h := h.1 c28
        refine G_iinc (lv' := [(5, aI ((v5 + 1))), (0, aR (74)), (1, aI (v1)), (2, aI (v2)), (3, aI (v3)), (4, aI (v4))]) (k := 5) rfl rfl (by decide) dX12_centre_94 ?_
        refine G_goto (tgt := 38) dX12_centre_97 (by decide) ?_
        obtain ⟨c29, h⟩ := h
        exact G_pick [1, 2, 3, 4, 5, 0] rfl (h hv1 hv2 hv3 hv4 c29 hO)
      · have h := h.2 c28
        refine G_aload_n 0 rfl rfl dX12_centre_63 ?_
        refine G_get (k := 28) (kd := (2, 86)) (v := aR 86) gf_X12_56 rfl rfl rfl rfl dX12_centre_64 ?_
        refine G_bipush (by decide) dX12_centre_67 ?_
        refine G_iload_n 3 rfl rfl dX12_centre_69 ?_
        refine G_imul dX12_centre_70 ?_
        refine G_iload 5 rfl dX12_centre_71 ?_
        refine G_iadd dX12_centre_73 ?_
        obtain ⟨c30, h⟩ := h
        refine G_iald (n := 64) rfl c30.1 c30.2 dX12_centre_74 ?_
        refine G_iload 4 rfl dX12_centre_75 ?_
        refine G_icmp_le (OKm.i hO 86 ((8 * v3) + v5) (isLg_row (show shp 86 = (1, 64, []) from rfl) _)) hv4 dX12_centre_77 (tgt := 94) (by decide) (fun c31 => ?_) (fun c31 => ?_)
        · have h := h.1 c31
          refine G_iinc (lv' := [(5, aI ((v5 + 1))), (0, aR (74)), (1, aI (v1)), (2, aI (v2)), (3, aI (v3)), (4, aI (v4))]) (k := 5) rfl rfl (by decide) dX12_centre_94 ?_
          refine G_goto (tgt := 38) dX12_centre_97 (by decide) ?_
          obtain ⟨c32, h⟩ := h
          exact G_pick [1, 2, 3, 4, 5, 0] rfl (h hv1 hv2 hv3 hv4 c32 hO)
        · have h := h.2 c31
          refine G_aload_n 0 rfl rfl dX12_centre_80 ?_
          refine G_get (k := 28) (kd := (2, 86)) (v := aR 86) gf_X12_56 rfl rfl rfl rfl dX12_centre_81 ?_
          refine G_bipush (by decide) dX12_centre_84 ?_
          refine G_iload_n 3 rfl rfl dX12_centre_86 ?_
          refine G_imul dX12_centre_87 ?_
          refine G_iload 5 rfl dX12_centre_88 ?_
          refine G_iadd dX12_centre_90 ?_
          obtain ⟨c33, h⟩ := h
          refine G_iald (n := 64) rfl c33.1 c33.2 dX12_centre_91 ?_
          refine G_istore (lv' := [(4, aI ((σ 86 ((8 * v3) + v5)))), (0, aR (74)), (1, aI (v1)), (2, aI (v2)), (3, aI (v3)), (5, aI (v5))]) rfl (by decide) dX12_centre_92 ?_
          refine G_iinc (lv' := [(5, aI ((v5 + 1))), (4, aI ((σ 86 ((8 * v3) + v5)))), (0, aR (74)), (1, aI (v1)), (2, aI (v2)), (3, aI (v3))]) (k := 5) rfl rfl (by decide) dX12_centre_94 ?_
          refine G_goto (tgt := 38) dX12_centre_97 (by decide) ?_
          obtain ⟨c34, h⟩ := h
          exact G_pick [2, 3, 4, 5, 1, 0] rfl (h hv1 hv2 hv3 (OKm.i hO 86 ((8 * v3) + v5) (isLg_row (show shp 86 = (1, 64, []) from rfl) _)) c34 hO)

theorem sp_X12_centre (d : Nat) (hd : 3 ≤ d) (σ : Mem) (hO : OKm σ) (A : Mem) (tx : Nat → Txt) (hpre : vwM σ A tx) : Mt yX12_centre cX12_centre 6 (some .int) d [aR (74)] σ (QI (fun v σ' => v = (cenN A 8).1 ∧ vwM σ' A tx ∧ Fr F86 σ σ')) := mt_X12_centre hd  hO (by
  unfold wp_X12_centre
  intro P12 P38 h12 h38
  have hV := hpre
  have hI := hV.2.2.1
  have hc := hI.1
  have e0 : σ 75 0 = A 10 0 := hV.1.1.1
  have e1 : σ 75 1 = A 10 1 := hV.1.1.2.1
  refine ⟨A, tx, hV, ?_⟩
  intro σ6 o6 ⟨q6, hV6, f6⟩
  have hF : Fr F86 σ σ6 := f6.wk (by simp)
  have H12 : ∀ (n k : Nat), k + n = 8 → P12 (cenN A k).1 (cenN A k).2 (k : Int) σ6 := by
    intro n
    induction n with
    | zero =>
      intro k hk
      have hk2 : k = 8 := by omega
      subst hk2
      exact h12 _ _ _ _ (fun _ _ _ _ => ⟨fun _ => ⟨rfl, hV6, hF⟩, fun h => absurd h (by omega)⟩)
    | succ n ih =>
      intro k hk
      have ih1 := ih (k + 1) (by omega)
      have no : ¬ (0 < degS A (k : Int) ∧ mostN A (k : Int) 8 < (cenN A k).2) → R32 ((k : Int) + 1) ∧ P12 (cenN A k).1 (cenN A k).2 ((k : Int) + 1) σ6 := fun h => by
        have e : cenN A (k + 1) = cenN A k := by show (if _ then _ else _) = _; rw [if_neg h]
        rw [e] at ih1
        exact ⟨by unfold R32; omega, ih1⟩
      refine h12 _ _ _ _ (fun _ _ _ _ => ⟨fun h => absurd h (by omega), fun _ => ⟨A, tx, hV6, ?_⟩⟩)
      intro u σ1 hu hO1 ⟨eu, e1⟩
      subst e1
      have hb : 0 ≤ u ∧ u < 256 := by rw [eu]; exact b8 _
      have hbit : u.toNat.testBit ((k : Nat) : Int).toNat = ntB A (k : Int) := by
        rw [eu]
        have := tb8 (f := fun t => ntB A (t : Int)) (t := (k : Int)) (by omega) (by omega)
        rw [show ((((k : Nat) : Int).toNat : Nat) : Int) = (k : Int) by omega] at this
        exact this
      rw [hbit]
      refine ⟨by omega, fun h => ?_, fun h => no (fun q => h (decide_eq_true q.1))⟩
      have hdeg : 0 < degS A (k : Int) := of_decide_eq_true h
      have H38 : ∀ (m j : Nat), j + m = 8 → P38 (cenN A k).1 (cenN A k).2 (k : Int) (mostN A (k : Int) j) (j : Int) σ1 := by
        intro m
        induction m with
        | zero =>
          intro j hj
          have hj2 : j = 8 := by omega
          subst hj2
          refine h38 _ _ _ _ _ _ (fun _ _ _ _ _ _ => ⟨fun _ => ⟨fun h2 => ⟨by unfold R32; omega, ?_⟩, fun h2 => no (fun q => by omega)⟩, fun h => absurd h (by omega)⟩)
          have e : cenN A (k + 1) = ((k : Int), mostN A (k : Int) 8) := by show (if _ then _ else _) = _; rw [if_pos ⟨hdeg, h2⟩]
          rw [e] at ih1; exact ih1
        | succ m ihm =>
          intro j hj
          have ij := ihm (j + 1) (by omega)
          have em := q6 (k : Int) (j : Int) (by omega) (by omega) (by omega) (by omega)
          have hd := dst_r (th := 1) (wo := -1) (a := (k : Int)) (b := (j : Int)) hI
          refine h38 _ _ _ _ _ _ (fun _ _ _ _ _ _ => ⟨fun h => absurd h (by omega), fun _ => ?_⟩)
          rw [em]
          have esame : (dst A 1 (-1) (k : Int) (j : Int) = 1000000 ∨ dst A 1 (-1) (k : Int) (j : Int) ≤ mostN A (k : Int) j) → R32 ((j : Int) + 1) ∧ P38 (cenN A k).1 (cenN A k).2 (k : Int) (mostN A (k : Int) j) ((j : Int) + 1) σ1 := fun hq => by
            have e : mostN A (k : Int) (j + 1) = mostN A (k : Int) j := by
              show (if dst A 1 (-1) (k : Int) (j : Int) < 1000000 then max (mostN A (k : Int) j) (dst A 1 (-1) (k : Int) (j : Int)) else mostN A (k : Int) j) = _
              rcases hq with hq | hq
              · rw [if_neg (by omega)]
              · split
                · omega
                · rfl
            rw [e] at ij
            exact ⟨by unfold R32; omega, ij⟩
          refine ⟨by omega, fun h => esame (Or.inl h), fun h => ⟨by omega, fun h2 => esame (Or.inr h2), fun h2 => ⟨by omega, by unfold R32; omega, ?_⟩⟩⟩
          have e : mostN A (k : Int) (j + 1) = dst A 1 (-1) (k : Int) (j : Int) := by
            show (if _ then _ else _) = _
            rw [if_pos (by omega)]; omega
          rw [e] at ij; exact ij
      exact H38 8 0 (by omega)
  exact H12 8 0 (by omega))

def wp_X12_areTowns (x1 : Int) (x2 : Int) (σ : Mem) (Q : Int → Mem → Prop) : Prop :=
  ((¬ (0 ≤ x1 ∧ x1 ≤ 7)) →
    Q 0 σ) ∧
   ((0 ≤ x1 ∧ x1 ≤ 7) →
    ((¬ (0 ≤ x2 ∧ x2 ≤ 7)) →
     Q 0 σ) ∧
    ((0 ≤ x2 ∧ x2 ≤ 7) →
     ((x1 = x2) →
      Q 0 σ) ∧
     ((x1 ≠ x2) →
      Q 1 σ)))
theorem mt_X12_areTowns {d : Nat} (hd : 2 ≤ d) {x1 : Int} {x2 : Int} {σ : Mem} {Q : Int → Mem → Prop} (hx1 : R32 x1) (hx2 : R32 x2) (hO : OKm σ) (h : wp_X12_areTowns x1 x2 σ Q) : Mt yX12_areTowns cX12_areTowns 2 (some .boolean) d [aI (x1), aI (x2)] σ (QI Q) := by
  refine Mt.intro (by decide +kernel) (Nat.le_of_ble_eq_true rfl) [(0, aI (x1)), (1, aI (x2))] rfl ?_
  unfold wp_X12_areTowns at h
  refine G_iload_n 0 rfl rfl dX12_areTowns_0 ?_
  refine G_callS (as := [_]) cf_X12_89 rfl (sp_X12_isTown (d - 1) (by omega) _ hO _ hx1) (by omega) rfl rfl (Nat.le_of_ble_eq_true rfl) dX12_areTowns_1 ?_
  rintro _ _ ⟨_, rfl, rfl, rfl⟩ o2 r1
  refine G_if_eq (bI_R _) dX12_areTowns_4 (tgt := 23) (by decide) (fun c3 => ?_) (fun c3 => ?_)
  · have h := h.1 ((bI_0 _).mp c3)
    refine G_iconst dX12_areTowns_23 ?_
    exact G_zret rfl (by decide) dX12_areTowns_24 ⟨_, rfl, h⟩ hO
  · have h := h.2 (bI_ne c3)
    refine G_iload_n 1 rfl rfl dX12_areTowns_7 ?_
    refine G_callS (as := [_]) cf_X12_89 rfl (sp_X12_isTown (d - 1) (by omega) _ hO _ hx2) (by omega) rfl rfl (Nat.le_of_ble_eq_true rfl) dX12_areTowns_8 ?_
    rintro _ _ ⟨_, rfl, rfl, rfl⟩ o5 r4
    refine G_if_eq (bI_R _) dX12_areTowns_11 (tgt := 23) (by decide) (fun c6 => ?_) (fun c6 => ?_)
    · have h := h.1 ((bI_0 _).mp c6)
      refine G_iconst dX12_areTowns_23 ?_
      exact G_zret rfl (by decide) dX12_areTowns_24 ⟨_, rfl, h⟩ hO
    · have h := h.2 (bI_ne c6)
      refine G_iload_n 0 rfl rfl dX12_areTowns_14 ?_
      refine G_iload_n 1 rfl rfl dX12_areTowns_15 ?_
      refine G_icmp_eq hx1 hx2 dX12_areTowns_16 (tgt := 23) (by decide) (fun c7 => ?_) (fun c7 => ?_)
      · have h := h.1 c7
        refine G_iconst dX12_areTowns_23 ?_
        exact G_zret rfl (by decide) dX12_areTowns_24 ⟨_, rfl, h⟩ hO
      · have h := h.2 c7
        refine G_iconst dX12_areTowns_19 ?_
        refine G_goto (tgt := 24) dX12_areTowns_20 (by decide) ?_
        exact G_zret rfl (by decide) dX12_areTowns_24 ⟨_, rfl, h⟩ hO

theorem sp_X12_areTowns (d : Nat) (hd : 2 ≤ d) (σ : Mem) (hO : OKm σ) (x1 : Int) (hx1 : R32 x1) (x2 : Int) (hx2 : R32 x2) : Mt yX12_areTowns cX12_areTowns 2 (some .boolean) d [aI (x1), aI (x2)] σ (QI (fun v σ' => bI ((0 ≤ x1 ∧ x1 ≤ 7) ∧ (0 ≤ x2 ∧ x2 ≤ 7) ∧ x1 ≠ x2) = v ∧ σ = σ')) := mt_X12_areTowns hd hx1 hx2 hO (by
  unfold wp_X12_areTowns
  grind [bI])

/-! THE WIDEST WAY -/
def relW (A : Mem) (m : Int → Int) (r : Int) : Int → Int :=
  fup (fup m (A 11 r) (max (m (A 11 r)) (min (m (A 12 r)) (A 1 r)))) (A 12 r) (max (fup m (A 11 r) (max (m (A 11 r)) (min (m (A 12 r)) (A 1 r))) (A 12 r)) (min (fup m (A 11 r) (max (m (A 11 r)) (min (m (A 12 r)) (A 1 r))) (A 11 r)) (A 1 r)))
def rndW (A : Mem) (m : Int → Int) : Nat → (Int → Int)
  | 0 => m
  | n + 1 => relW A (rndW A m n) (n : Int)
def sprW (A : Mem) (a : Int) : Nat → (Int → Int)
  | 0 => fun t => if t = a then 99 else -1
  | k + 1 => rndW A (sprW A a k) (A 10 0).toNat
def okW (m : Int → Int) : Prop := ∀ t : Int, -1 ≤ m t ∧ m t ≤ 99
def sndW (A : Mem) (a : Int) (m : Int → Int) : Prop := ∀ t th : Int, 0 ≤ th → th ≤ m t → rch A (okR A th (-1)) a t
theorem okW_fup {m : Int → Int} {i v : Int} (h : okW m) (hv : -1 ≤ v ∧ v ≤ 99) : okW (fup m i v) := fun t => by
  unfold fup; split
  · exact hv
  · exact h t
theorem sndW_fup {A : Mem} {a : Int} {m : Int → Int} {r x y : Int} (h : sndW A a m) (hr : 0 ≤ r ∧ r < A 10 0) (hj : jnR A r x y) : sndW A a (fup m y (max (m y) (min (m x) (A 1 r)))) := fun t th h0 hle => by
  unfold fup at hle
  by_cases e : t = y
  · rw [if_pos e] at hle
    rw [e]
    rcases (show th ≤ m y ∨ (th ≤ m x ∧ th ≤ A 1 r) by omega) with q | q
    · exact h y th h0 q
    · exact (h x th h0 q.1).tr (rch.edge hr ((okR_1 hr.1).mpr q.2) hj)
  · rw [if_neg e] at hle; exact h t th h0 hle
theorem fup_ge {m : Int → Int} {i v : Int} (h : m i ≤ v) (t : Int) : m t ≤ fup m i v t := by
  unfold fup; split
  · rename_i e; rw [e]; exact h
  · exact Int.le_refl _
theorem relW_ok {A : Mem} {a : Int} {m : Int → Int} {r : Int} (hI : InvA A) (hr : 0 ≤ r ∧ r < A 10 0) (ho : okW m) : okW (relW A m r) ∧ (∀ t : Int, m t ≤ relW A m r t) ∧ (∀ x y th : Int, jnR A r x y → th ≤ m x → th ≤ A 1 r → th ≤ relW A m r y) ∧ (sndW A a m → sndW A a (relW A m r)) := by
  have k := hI.2.1 r hr.1 hr.2
  unfold relW
  have o1 := ho (A 11 r)
  have o2 := ho (A 12 r)
  have hu : okW (fup m (A 11 r) (max (m (A 11 r)) (min (m (A 12 r)) (A 1 r)))) := okW_fup ho (by omega)
  have u1 := hu (A 11 r)
  have u2 := hu (A 12 r)
  refine ⟨okW_fup hu (by omega), fun t => Int.le_trans (fup_ge (by omega) t) (fup_ge (by omega) t), fun x y th hj h1 h2 => ?_, fun h => sndW_fup (sndW_fup h hr (Or.inr ⟨rfl, rfl⟩)) hr (Or.inl ⟨rfl, rfl⟩)⟩
  rcases hj with ⟨rfl, rfl⟩ | ⟨rfl, rfl⟩
  · rw [fup_self, fup_self]; omega
  · refine Int.le_trans ?_ (fup_ge (by omega) _)
    rw [fup_self]; omega
theorem rndW_ok {A : Mem} {a : Int} (hI : InvA A) : ∀ n : Nat, (n : Int) ≤ A 10 0 → ∀ m : Int → Int, okW m → okW (rndW A m n) ∧ (∀ t : Int, m t ≤ rndW A m n t) ∧ (∀ r x y th : Int, 0 ≤ r → r < n → jnR A r x y → th ≤ m x → th ≤ A 1 r → th ≤ rndW A m n y) ∧ (sndW A a m → sndW A a (rndW A m n))
  | 0, _, m, ho => ⟨ho, fun _ => Int.le_refl _, fun r x y th h1 h2 => by omega, fun h => h⟩
  | n + 1, hn, m, ho => by
    obtain ⟨i0, i1, i2, i3⟩ := rndW_ok (a := a) hI n (by omega) m ho
    obtain ⟨j0, j1, j2, j3⟩ := relW_ok (a := a) (r := (n : Int)) hI (by omega) i0
    show okW (relW A (rndW A m n) (n : Int)) ∧ _
    refine ⟨j0, fun t => Int.le_trans (i1 t) (j1 t), fun r x y th h1 h2 h3 h4 h5 => ?_, fun h => j3 (i3 h)⟩
    show th ≤ relW A (rndW A m n) (n : Int) y
    by_cases e : r = n
    · subst e; exact j2 x y th h3 (Int.le_trans h4 (i1 x)) h5
    · exact Int.le_trans (i2 r x y th h1 (by omega) h3 h4 h5) (j1 y)
theorem sprW_ok {A : Mem} {a : Int} (hI : InvA A) : ∀ k : Nat, okW (sprW A a k) ∧ sndW A a (sprW A a k) ∧ ∀ (j : Nat) (t l th : Int), j ≤ k → th ≤ 99 → wlk A (okR A th (-1)) j a t l → th ≤ sprW A a k t
  | 0 => by
    refine ⟨fun t => ?_, fun t th h0 h => ?_, fun j t l th hj h9 h => ?_⟩
    · show -1 ≤ (if t = a then (99 : Int) else -1) ∧ (if t = a then (99 : Int) else -1) ≤ 99; split <;> omega
    · have h : th ≤ (if t = a then (99 : Int) else -1) := h
      by_cases e : t = a
      · rw [e]; exact rch.rf a
      · rw [if_neg e] at h; omega
    · have : j = 0 := by omega
      subst this
      show th ≤ (if t = a then (99 : Int) else -1)
      rw [if_pos h.1.symm]; exact h9
  | k + 1 => by
    obtain ⟨i0, i1, i2⟩ := sprW_ok (a := a) hI k
    have hc := hI.1
    obtain ⟨q0, q1, q2, q3⟩ := rndW_ok (a := a) hI (A 10 0).toNat (by omega) (sprW A a k) i0
    refine ⟨q0, q3 i1, fun j t l th hj h9 h => ?_⟩
    show th ≤ rndW A (sprW A a k) (A 10 0).toNat t
    by_cases e : j ≤ k
    · exact Int.le_trans (i2 j t l th e h9 h) (q1 t)
    · cases j with
      | zero => omega
      | succ j =>
        obtain ⟨r, c, h1, h2, h3, h4⟩ := h
        exact q2 r c t th h1.1 (by omega) h3 (i2 j c _ th (by omega) h9 h4) ((okR_1 h1.1).mp h2)
def widS (A : Mem) (a b : Int) : Int := if (0 ≤ a ∧ a ≤ 7) ∧ (0 ≤ b ∧ b ≤ 7) ∧ a ≠ b then sprW A a 7 b else -1
theorem wid_iff {A : Mem} {a b th : Int} (hI : InvA A) (ha : 0 ≤ a ∧ a ≤ 7) (h0 : 0 ≤ th ∧ th ≤ 99) : th ≤ sprW A a 7 b ↔ dst A th (-1) a b < 1000000 := by
  obtain ⟨i0, i1, i2⟩ := sprW_ok (a := a) hI 7
  rw [dst_rch hI ha]
  constructor
  · exact fun h => i1 b th h0.1 h
  · intro ⟨k, l, hk⟩
    obtain ⟨j, l', q1, q2, q3⟩ := wlk_short hI ha k k l (Nat.le_refl _) hk
    exact i2 j b l' th q1 h0.2 q3

def wp_X4_widthBetween (x1 : Int) (x2 : Int) (σ : Mem) (Q : Int → Mem → Prop) : Prop :=
 ∀ P18 : Int → Int → Mem → Prop,
 ∀ P27 : Int → Int → Int → Mem → Prop,
 (∀ (v2 : Int) (v3 : Int) (σ : Mem), (R32 v2 → R32 v3 → OKm σ →
   ((8 ≤ v3) →
     (0 ≤ v2 ∧ v2 < 8) ∧
     Q (σ 43 v2) σ) ∧
    ((v3 < 8) →
     P27 v2 v3 0 σ)) → P18 v2 v3 σ) →
 (∀ (v2 : Int) (v3 : Int) (v4 : Int) (σ : Mem), (R32 v2 → R32 v3 → R32 v4 → OKm σ →
   (((σ 1 8) ≤ v4) →
     R32 (v3 + 1) ∧ P18 v2 (v3 + 1) σ) ∧
    ((v4 < (σ 1 8)) →
     (0 ≤ v4 ∧ v4 < 16) ∧
     (0 ≤ v4 ∧ v4 < 16) ∧
     (0 ≤ (σ 2 v4) ∧ (σ 2 v4) < 8) ∧
     (0 ≤ (σ 3 v4) ∧ (σ 3 v4) < 8) ∧
     (0 ≤ v4 ∧ v4 < 16) ∧
     (0 ≤ (σ 2 v4) ∧ (σ 2 v4) < 8) ∧
     ∀ σ20 : Mem, σ20 = mset σ 43 (σ 2 v4) (max (σ 43 (σ 2 v4)) (min (σ 43 (σ 3 v4)) (σ 11 v4))) →
     (0 ≤ (σ 3 v4) ∧ (σ 3 v4) < 8) ∧
     (0 ≤ (σ 2 v4) ∧ (σ 2 v4) < 8) ∧
     (0 ≤ v4 ∧ v4 < 16) ∧
     (0 ≤ (σ 3 v4) ∧ (σ 3 v4) < 8) ∧
     ∀ σ27 : Mem, σ27 = mset σ20 43 (σ 3 v4) (max (σ20 43 (σ 3 v4)) (min (σ20 43 (σ 2 v4)) (σ20 11 v4))) →
     R32 (v4 + 1) ∧ P27 v2 v3 (v4 + 1) σ27)) → P27 v2 v3 v4 σ) →
  ∀ σ3 : Mem, OKm σ3 → ((∀ i : Int, 0 ≤ i → i < 8 → σ3 43 i = ((-1) : Int)) ∧ Fr [43] σ σ3) →
   (0 ≤ x1 ∧ x1 < 8) ∧
   ∀ σ7 : Mem, σ7 = mset σ3 43 x1 99 →
   P18 x2 1 σ7
theorem mt_X4_widthBetween {d : Nat} (hd : 1 ≤ d) {x1 : Int} {x2 : Int} {σ : Mem} {Q : Int → Mem → Prop} (hx1 : R32 x1) (hx2 : R32 x2) (hO : OKm σ) (h : wp_X4_widthBetween x1 x2 σ Q) : Mt yX4_widthBetween cX4_widthBetween 7 (some .int) d [aR (40), aI (x1), aI (x2)] σ (QI Q) := by
  refine Mt.intro (by decide +kernel) (Nat.le_of_ble_eq_true rfl) [(0, aR (40)), (1, aI (x1)), (2, aI (x2))] rfl ?_
  unfold wp_X4_widthBetween at h
  have h := h (fun (v2 : Int) (v3 : Int) (σ : Mem) => R32 v2 → R32 v3 → OKm σ → G yX4_widthBetween cX4_widthBetween 7 (some .int) d (QI Q) 18 [(0, aR (40)), (2, aI (v2)), (3, aI (v3))] [] σ)
    (fun (v2 : Int) (v3 : Int) (v4 : Int) (σ : Mem) => R32 v2 → R32 v3 → R32 v4 → OKm σ → G yX4_widthBetween cX4_widthBetween 7 (some .int) d (QI Q) 27 [(0, aR (40)), (2, aI (v2)), (3, aI (v3)), (4, aI (v4))] [] σ) ?_ ?_
  · refine G_aload_n 0 rfl rfl dX4_widthBetween_0 ?_
    refine G_get (k := 4) (kd := (3, 3)) (v := aR (43)) gf_X4_18 rfl rfl rfl rfl dX4_widthBetween_1 ?_
    refine G_iconst dX4_widthBetween_4 ?_
    refine G_callS (as := [_, _]) cf_X4_65 rfl (sp_J7_fill_53178_w (d - 1) (by omega) _ hO _ (rL (-1) rfl)) (by omega) rfl rfl (Nat.le_of_ble_eq_true rfl) dX4_widthBetween_5 ?_
    rintro _ σ3 ⟨rfl, z5⟩ o2 r1
    have h := h _ o2 z5
    refine G_aload_n 0 rfl rfl dX4_widthBetween_8 ?_
    refine G_get (k := 4) (kd := (3, 3)) (v := aR (43)) gf_X4_18 rfl rfl rfl rfl dX4_widthBetween_9 ?_
    refine G_iload_n 1 rfl rfl dX4_widthBetween_12 ?_
    refine G_bipush (by decide) dX4_widthBetween_13 ?_
    obtain ⟨c6, h⟩ := h
    obtain ⟨σ7, e9⟩ : ∃ τ : Mem, τ = mset σ3 43 x1 99 := ⟨_, rfl⟩
    have h := h σ7 e9
    have o8 : OKm σ7 := by rw [e9]; exact OKm.seti o2 _ _ _ (rL 99 rfl) (isLg_row (show shp 43 = (1, 8, []) from rfl) _)
    refine G_iast (n := 8) rfl c6.1 c6.2 dX4_widthBetween_15 ?_
    rw [← e9]
    refine G_iconst dX4_widthBetween_16 ?_
    refine G_istore_n (lv' := [(3, aI (1)), (0, aR (40)), (1, aI (x1)), (2, aI (x2))]) rfl rfl (by decide) dX4_widthBetween_17 ?_
    exact G_pick [1, 3, 0] rfl (h hx2 (rL 1 rfl) o8)
  · intro v2 v3 σ h hv2 hv3 hO
    have h := h hv2 hv3 hO
    refine G_iload_n 2 rfl rfl dX4_widthBetween_18 ?_
    refine G_bipush (by decide) dX4_widthBetween_19 ?_
    refine G_icmp_ge hv3 (rL 8 rfl) dX4_widthBetween_21 (tgt := 149) (by decide) (fun c10 => ?_) (fun c10 => ?_)
    · have h := h.1 c10
      refine G_aload_n 0 rfl rfl dX4_widthBetween_149 ?_
      refine G_get (k := 4) (kd := (3, 3)) (v := aR (43)) gf_X4_18 rfl rfl rfl rfl dX4_widthBetween_150 ?_
      refine G_iload_n 1 rfl rfl dX4_widthBetween_153 ?_
      obtain ⟨c11, h⟩ := h
      refine G_iald (n := 8) rfl c11.1 c11.2 dX4_widthBetween_154 ?_
      exact G_iret rfl (OKm.i hO 43 v2 (isLg_row (show shp 43 = (1, 8, []) from rfl) _)) dX4_widthBetween_155 ⟨_, rfl, h⟩ hO
    · have h := h.2 c10
      refine G_iconst dX4_widthBetween_24 ?_
      refine G_istore (lv' := [(4, aI (0)), (0, aR (40)), (2, aI (v2)), (3, aI (v3))]) rfl (by decide) dX4_widthBetween_25 ?_
      exact G_pick [1, 2, 3, 0] rfl (h hv2 hv3 (rL 0 rfl) hO)
  · intro v2 v3 v4 σ h hv2 hv3 hv4 hO
    have h := h hv2 hv3 hv4 hO
    refine G_iload 3 rfl dX4_widthBetween_27 ?_
    refine G_aload_n 0 rfl rfl dX4_widthBetween_29 ?_
    refine G_get (k := 0) (kd := (2, 1)) (v := aR 1) gf_X4_37 rfl rfl rfl rfl dX4_widthBetween_30 ?_
    refine G_get (k := 8) (kd := (0, 0)) (v := aI (σ 1 8)) gf_X4_50 rfl rfl rfl rfl dX4_widthBetween_33 ?_
    refine G_icmp_ge hv4 (OKm.i hO 1 8 rfl) dX4_widthBetween_36 (tgt := 143) (by decide) (fun c12 => ?_) (fun c12 => ?_)
    · have h := h.1 c12
      refine G_iinc (lv' := [(3, aI ((v3 + 1))), (0, aR (40)), (2, aI (v2)), (4, aI (v4))]) (k := 2) rfl rfl (by decide) dX4_widthBetween_143 ?_
      refine G_goto (tgt := 18) dX4_widthBetween_146 (by decide) ?_
      obtain ⟨c13, h⟩ := h
      exact G_pick [1, 2, 0] rfl (h hv2 c13 hO)
    · have h := h.2 c12
      refine G_aload_n 0 rfl rfl dX4_widthBetween_39 ?_
      refine G_get (k := 0) (kd := (2, 1)) (v := aR 1) gf_X4_37 rfl rfl rfl rfl dX4_widthBetween_40 ?_
      refine G_get (k := 0) (kd := (3, 1)) (v := aR (2)) gf_X4_71 rfl rfl rfl rfl dX4_widthBetween_43 ?_
      refine G_iload 3 rfl dX4_widthBetween_46 ?_
      obtain ⟨c14, h⟩ := h
      refine G_iald (n := 16) rfl c14.1 c14.2 dX4_widthBetween_48 ?_
      refine G_istore (lv' := [(5, aI ((σ 2 v4))), (0, aR (40)), (2, aI (v2)), (3, aI (v3)), (4, aI (v4))]) rfl (by decide) dX4_widthBetween_49 ?_
      refine G_aload_n 1 rfl rfl dX4_widthBetween_51 ?_
      refine G_get (k := 0) (kd := (2, 1)) (v := aR 1) gf_X4_37 rfl rfl rfl rfl dX4_widthBetween_52 ?_
      refine G_get (k := 1) (kd := (3, 2)) (v := aR (3)) gf_X4_74 rfl rfl rfl rfl dX4_widthBetween_55 ?_
      refine G_iload 4 rfl dX4_widthBetween_58 ?_
      obtain ⟨c15, h⟩ := h
      refine G_iald (n := 16) rfl c15.1 c15.2 dX4_widthBetween_60 ?_
      refine G_istore (lv' := [(6, aI ((σ 3 v4))), (5, aI ((σ 2 v4))), (0, aR (40)), (2, aI (v2)), (3, aI (v3)), (4, aI (v4))]) rfl (by decide) dX4_widthBetween_61 ?_
      refine G_aload_n 2 rfl rfl dX4_widthBetween_63 ?_
      refine G_get (k := 4) (kd := (3, 3)) (v := aR (43)) gf_X4_18 rfl rfl rfl rfl dX4_widthBetween_64 ?_
      refine G_iload 1 rfl dX4_widthBetween_67 ?_
      refine G_aload_n 2 rfl rfl dX4_widthBetween_69 ?_
      refine G_get (k := 4) (kd := (3, 3)) (v := aR (43)) gf_X4_18 rfl rfl rfl rfl dX4_widthBetween_70 ?_
      refine G_iload 1 rfl dX4_widthBetween_73 ?_
      obtain ⟨c16, h⟩ := h
      refine G_iald (n := 8) rfl c16.1 c16.2 dX4_widthBetween_75 ?_
      refine G_aload_n 2 rfl rfl dX4_widthBetween_76 ?_
      refine G_get (k := 4) (kd := (3, 3)) (v := aR (43)) gf_X4_18 rfl rfl rfl rfl dX4_widthBetween_77 ?_
      refine G_iload 0 rfl dX4_widthBetween_80 ?_
      obtain ⟨c17, h⟩ := h
      refine G_iald (n := 8) rfl c17.1 c17.2 dX4_widthBetween_82 ?_
      refine G_aload_n 2 rfl rfl dX4_widthBetween_83 ?_
      refine G_get (k := 1) (kd := (2, 10)) (v := aR 10) gf_X4_41 rfl rfl rfl rfl dX4_widthBetween_84 ?_
      refine G_get (k := 0) (kd := (3, 1)) (v := aR (11)) gf_X4_45 rfl rfl rfl rfl dX4_widthBetween_87 ?_
      refine G_iload 5 rfl dX4_widthBetween_90 ?_
      obtain ⟨c18, h⟩ := h
      refine G_iald (n := 16) rfl c18.1 c18.2 dX4_widthBetween_92 ?_
      refine G_mmin rfl (OKm.i hO 43 (σ 3 v4) (isLg_row (show shp 43 = (1, 8, []) from rfl) _)) (OKm.i hO 11 v4 (isLg_row (show shp 11 = (1, 16, []) from rfl) _)) (Nat.le_of_ble_eq_true rfl) sf_X4_80 dX4_widthBetween_93 ?_
      refine G_mmax rfl (OKm.i hO 43 (σ 2 v4) (isLg_row (show shp 43 = (1, 8, []) from rfl) _)) (r32_min (OKm.i hO 43 (σ 3 v4) (isLg_row (show shp 43 = (1, 8, []) from rfl) _)) (OKm.i hO 11 v4 (isLg_row (show shp 11 = (1, 16, []) from rfl) _))) (Nat.le_of_ble_eq_true rfl) sf_X4_96 dX4_widthBetween_96 ?_
      obtain ⟨c19, h⟩ := h
      obtain ⟨σ20, e22⟩ : ∃ τ : Mem, τ = mset σ 43 (σ 2 v4) (max (σ 43 (σ 2 v4)) (min (σ 43 (σ 3 v4)) (σ 11 v4))) := ⟨_, rfl⟩
      have h := h σ20 e22
      have o21 : OKm σ20 := by rw [e22]; exact OKm.seti hO _ _ _ (r32_max (OKm.i hO 43 (σ 2 v4) (isLg_row (show shp 43 = (1, 8, []) from rfl) _)) (r32_min (OKm.i hO 43 (σ 3 v4) (isLg_row (show shp 43 = (1, 8, []) from rfl) _)) (OKm.i hO 11 v4 (isLg_row (show shp 11 = (1, 16, []) from rfl) _)))) (isLg_row (show shp 43 = (1, 8, []) from rfl) _)
      refine G_iast (n := 8) rfl c19.1 c19.2 dX4_widthBetween_99 ?_
      rw [← e22]
      refine G_aload_n 2 rfl rfl dX4_widthBetween_100 ?_
      refine G_get (k := 4) (kd := (3, 3)) (v := aR (43)) gf_X4_18 rfl rfl rfl rfl dX4_widthBetween_101 ?_
      refine G_iload 0 rfl dX4_widthBetween_104 ?_
      refine G_aload_n 2 rfl rfl dX4_widthBetween_106 ?_
      refine G_get (k := 4) (kd := (3, 3)) (v := aR (43)) gf_X4_18 rfl rfl rfl rfl dX4_widthBetween_107 ?_
      refine G_iload 0 rfl dX4_widthBetween_110 ?_
      obtain ⟨c23, h⟩ := h
      refine G_iald (n := 8) rfl c23.1 c23.2 dX4_widthBetween_112 ?_
      refine G_aload_n 2 rfl rfl dX4_widthBetween_113 ?_
      refine G_get (k := 4) (kd := (3, 3)) (v := aR (43)) gf_X4_18 rfl rfl rfl rfl dX4_widthBetween_114 ?_
      refine G_iload 1 rfl dX4_widthBetween_117 ?_
      obtain ⟨c24, h⟩ := h
      refine G_iald (n := 8) rfl c24.1 c24.2 dX4_widthBetween_119 ?_
      refine G_aload_n 2 rfl rfl dX4_widthBetween_120 ?_
      refine G_get (k := 1) (kd := (2, 10)) (v := aR 10) gf_X4_41 rfl rfl rfl rfl dX4_widthBetween_121 ?_
      refine G_get (k := 0) (kd := (3, 1)) (v := aR (11)) gf_X4_45 rfl rfl rfl rfl dX4_widthBetween_124 ?_
      refine G_iload 5 rfl dX4_widthBetween_127 ?_
      obtain ⟨c25, h⟩ := h
      refine G_iald (n := 16) rfl c25.1 c25.2 dX4_widthBetween_129 ?_
      refine G_mmin rfl (OKm.i o21 43 (σ 2 v4) (isLg_row (show shp 43 = (1, 8, []) from rfl) _)) (OKm.i o21 11 v4 (isLg_row (show shp 11 = (1, 16, []) from rfl) _)) (Nat.le_of_ble_eq_true rfl) sf_X4_80 dX4_widthBetween_130 ?_
      refine G_mmax rfl (OKm.i o21 43 (σ 3 v4) (isLg_row (show shp 43 = (1, 8, []) from rfl) _)) (r32_min (OKm.i o21 43 (σ 2 v4) (isLg_row (show shp 43 = (1, 8, []) from rfl) _)) (OKm.i o21 11 v4 (isLg_row (show shp 11 = (1, 16, []) from rfl) _))) (Nat.le_of_ble_eq_true rfl) sf_X4_96 dX4_widthBetween_133 ?_
      obtain ⟨c26, h⟩ := h
      obtain ⟨σ27, e29⟩ : ∃ τ : Mem, τ = mset σ20 43 (σ 3 v4) (max (σ20 43 (σ 3 v4)) (min (σ20 43 (σ 2 v4)) (σ20 11 v4))) := ⟨_, rfl⟩
      have h := h σ27 e29
      have o28 : OKm σ27 := by rw [e29]; exact OKm.seti o21 _ _ _ (r32_max (OKm.i o21 43 (σ 3 v4) (isLg_row (show shp 43 = (1, 8, []) from rfl) _)) (r32_min (OKm.i o21 43 (σ 2 v4) (isLg_row (show shp 43 = (1, 8, []) from rfl) _)) (OKm.i o21 11 v4 (isLg_row (show shp 11 = (1, 16, []) from rfl) _)))) (isLg_row (show shp 43 = (1, 8, []) from rfl) _)
      refine G_iast (n := 8) rfl c26.1 c26.2 dX4_widthBetween_136 ?_
      rw [← e29]
      refine G_iinc (lv' := [(4, aI ((v4 + 1))), (6, aI ((σ 3 v4))), (5, aI ((σ 2 v4))), (0, aR (40)), (2, aI (v2)), (3, aI (v3))]) (k := 5) rfl rfl (by decide) dX4_widthBetween_137 ?_
      refine G_goto (tgt := 27) dX4_widthBetween_140 (by decide) ?_
      obtain ⟨c30, h⟩ := h
      exact G_pick [3, 4, 5, 0] rfl (h hv2 hv3 c30 o28)

theorem sp_X4_widthBetween (d : Nat) (hd : 1 ≤ d) (σ : Mem) (hO : OKm σ) (x1 : Int) (hx1 : R32 x1) (x2 : Int) (hx2 : R32 x2) (A : Mem) (tx : Nat → Txt) (hpre : vwC σ A tx ∧ (0 ≤ x1 ∧ x1 ≤ 7) ∧ (0 ≤ x2 ∧ x2 ≤ 7)) : Mt yX4_widthBetween cX4_widthBetween 7 (some .int) d [aR (40), aI (x1), aI (x2)] σ (QI (fun v σ' => v = sprW A x1 7 x2 ∧ Fr [43] σ σ')) := mt_X4_widthBetween hd hx1 hx2 hO (by
  unfold wp_X4_widthBetween
  intro P18 P27 h18 h27
  obtain ⟨hV, h1, h2⟩ := hpre
  have hI := hV.2.2.1
  have hc := hI.1
  have key : ∀ τ : Mem, Fr [43] σ τ → vwC τ A tx := fun τ hf => hV.fr (hf.wk (by simp))
  have H27 : ∀ (j : Nat), j < 7 → (∀ τ : Mem, inF τ 43 (sprW A x1 (j + 1)) → Fr [43] σ τ → R32 ((j : Int) + 1 + 1) ∧ P18 x2 ((j : Int) + 1 + 1) τ) → ∀ (n k : Nat) (τ : Mem), k + n = (A 10 0).toNat → inF τ 43 (rndW A (sprW A x1 j) k) → Fr [43] σ τ → P27 x2 ((j : Int) + 1) (k : Int) τ := by
    intro j hj hnext n
    induction n with
    | zero =>
      intro k τ hk hm hF
      have hk2 : k = (A 10 0).toNat := by omega
      subst hk2
      have e8 : τ 1 8 = A 10 0 := (key τ hF).1.1.1
      exact h27 _ _ _ _ (fun _ _ _ _ => ⟨fun _ => hnext τ hm hF, fun h => absurd h (by omega)⟩)
    | succ n ih =>
      intro k τ hk hm hF
      have hVt := key τ hF
      have e8 : τ 1 8 = A 10 0 := hVt.1.1.1
      have t1 := hVt.1.2.1 (k : Int) (by omega) (by omega)
      have n1 := hVt.2.1.2.1 (k : Int) (by omega) (by omega)
      have s2 : τ 2 (k : Int) = A 11 (k : Int) := t1.1
      have s3 : τ 3 (k : Int) = A 12 (k : Int) := t1.2.1
      have k1 := hI.2.1 (k : Int) (by omega) (by omega)
      refine h27 _ _ _ _ (fun _ _ _ _ => ⟨fun h => absurd h (by omega), fun _ => ?_⟩)
      rw [s2, s3, n1, hm _ (by omega) (by omega), hm _ (by omega) (by omega)]
      refine ⟨by omega, by omega, by omega, by omega, by omega, by omega, fun σ20 e20 => ?_⟩
      have f20 : σ20 11 (k : Int) = A 1 (k : Int) := by rw [e20, mset_off (by omega)]; exact n1
      generalize hmm : rndW A (sprW A x1 j) k = m at *
      have hm20 : inF σ20 43 (fup m (A 11 (k : Int)) (max (m (A 11 (k : Int))) (min (m (A 12 (k : Int))) (A 1 (k : Int))))) := by rw [e20]; exact inF_fup hm
      rw [f20, hm20 _ (by omega) (by omega), hm20 _ (by omega) (by omega)]
      refine ⟨by omega, by omega, by omega, by omega, fun σ27 e27 => ⟨by unfold R32; omega, ih (k + 1) σ27 (by omega) ?_ (by rw [e27, e20]; exact (hF.set (by simp)).set (by simp))⟩⟩
      show inF σ27 43 (relW A (rndW A (sprW A x1 j) k) (k : Int))
      rw [hmm, e27]
      exact inF_fup hm20
  have H18 : ∀ (n j : Nat) (τ : Mem), j + n = 7 → inF τ 43 (sprW A x1 j) → Fr [43] σ τ → P18 x2 ((j : Int) + 1) τ := by
    intro n
    induction n with
    | zero =>
      intro j τ hj hm hF
      have hj2 : j = 7 := by omega
      subst hj2
      exact h18 _ _ _ (fun _ _ _ => ⟨fun _ => ⟨by omega, hm x2 h2.1 (by omega), hF⟩, fun h => absurd h (by omega)⟩)
    | succ n ih =>
      intro j τ hj hm hF
      refine h18 _ _ _ (fun _ _ _ => ⟨fun h => absurd h (by omega), fun _ => ?_⟩)
      exact H27 j (by omega) (fun τ' hm' hF' => ⟨by unfold R32; omega, by have := ih (j + 1) τ' (by omega) hm' hF'; rw [show ((j + 1 : Nat) : Int) = (j : Int) + 1 by omega] at this; exact this⟩) _ 0 τ (Nat.zero_add _) hm hF
  intro σ3 o3 ⟨q3, f3⟩
  refine ⟨by omega, fun σ7 e7 => ?_⟩
  refine H18 7 0 σ7 (by omega) (fun t h1 h2 => ?_) (by rw [e7]; exact f3.set (by simp))
  show σ7 43 t = (if t = x1 then 99 else -1)
  rw [e7, mset_same]
  split
  · rfl
  · exact q3 t h1 h2)

def wp_X11_widest (x1 : Int) (x2 : Int) (σ : Mem) (Q : Int → Mem → Prop) : Prop :=
  ((¬ ((0 ≤ x1 ∧ x1 ≤ 7) ∧ (0 ≤ x2 ∧ x2 ≤ 7) ∧ x1 ≠ x2)) →
    Q (-1) σ) ∧
   (((0 ≤ x1 ∧ x1 ≤ 7) ∧ (0 ≤ x2 ∧ x2 ≤ 7) ∧ x1 ≠ x2) →
    ∃ g4 : Mem, ∃ g5 : Nat → Txt, (vwC σ g4 g5 ∧ (0 ≤ x1 ∧ x1 ≤ 7) ∧ (0 ≤ x2 ∧ x2 ≤ 7)) ∧
    ∀ (u10 : Int) (σ9 : Mem), R32 u10 → OKm σ9 → (u10 = sprW g4 x1 7 x2 ∧ Fr [43] σ σ9) →
    Q u10 σ9)
theorem mt_X11_widest {d : Nat} (hd : 3 ≤ d) {x1 : Int} {x2 : Int} {σ : Mem} {Q : Int → Mem → Prop} (hx1 : R32 x1) (hx2 : R32 x2) (hO : OKm σ) (h : wp_X11_widest x1 x2 σ Q) : Mt yX11_widest cX11_widest 3 (some .int) d [aR (0), aI (x1), aI (x2)] σ (QI Q) := by
  refine Mt.intro (by decide +kernel) (Nat.le_of_ble_eq_true rfl) [(0, aR (0)), (1, aI (x1)), (2, aI (x2))] rfl ?_
  unfold wp_X11_widest at h
  refine G_iload_n 1 rfl rfl dX11_widest_0 ?_
  refine G_iload_n 2 rfl rfl dX11_widest_1 ?_
  refine G_callS (as := [_, _]) cf_X11_258 rfl (sp_X11_areUnlikeTowns (d - 1) (by omega) _ hO _ hx1 _ hx2) (by omega) rfl rfl (Nat.le_of_ble_eq_true rfl) dX11_widest_2 ?_
  rintro _ _ ⟨_, rfl, rfl, rfl⟩ o2 r1
  refine G_if_eq (bI_R _) dX11_widest_5 (tgt := 20) (by decide) (fun c3 => ?_) (fun c3 => ?_)
  · have h := h.1 ((bI_0 _).mp c3)
    refine G_iconst dX11_widest_20 ?_
    exact G_iret rfl (rL (-1) rfl) dX11_widest_21 ⟨_, rfl, h⟩ hO
  · have h := h.2 (bI_ne c3)
    refine G_aload_n 0 rfl rfl dX11_widest_8 ?_
    refine G_get (k := 11) (kd := (2, 40)) (v := aR 40) gf_X11_85 rfl rfl rfl rfl dX11_widest_9 ?_
    refine G_iload_n 1 rfl rfl dX11_widest_12 ?_
    refine G_iload_n 2 rfl rfl dX11_widest_13 ?_
    obtain ⟨g4, g5, c6, h⟩ := h
    refine G_callV (as := [_, _]) cf_X11_261 rfl rfl rfl (sp_X4_widthBetween (d - 1) (by omega) _ hO _ hx1 _ hx2 g4 g5 c6) (by omega) rfl rfl (Nat.le_of_ble_eq_true rfl) dX11_widest_14 ?_
    rintro _ σ9 ⟨u10, rfl, z11⟩ o8 r7
    have h := h _ _ (r7 _ rfl) o8 z11
    refine G_goto (tgt := 21) dX11_widest_17 (by decide) ?_
    exact G_iret rfl (r7 _ rfl) dX11_widest_21 ⟨_, rfl, h⟩ o8

theorem sp_X11_widest (d : Nat) (hd : 3 ≤ d) (σ : Mem) (hO : OKm σ) (x1 : Int) (hx1 : R32 x1) (x2 : Int) (hx2 : R32 x2) (A : Mem) (tx : Nat → Txt) (hpre : vwC σ A tx) : Mt yX11_widest cX11_widest 3 (some .int) d [aR (0), aI (x1), aI (x2)] σ (QI (fun v σ' => v = widS A x1 x2 ∧ Fr ScrC σ σ')) := mt_X11_widest hd hx1 hx2 hO (by
  unfold wp_X11_widest
  unfold widS
  refine ⟨fun h => ⟨by rw [if_neg h], Fr.rf _ _⟩, fun h => ⟨A, tx, ⟨hpre, h.1, h.2.1⟩, ?_⟩⟩
  intro u σ1 hu hO1 ⟨eu, hF⟩
  exact ⟨by rw [if_pos h]; exact eu, hF.wk (by simp)⟩)

def wp_X12_widest (x1 : Int) (x2 : Int) (σ : Mem) (Q : Int → Mem → Prop) : Prop :=
 ∀ P13 : Int → Int → Int → Mem → Prop,
 (∀ (v1 : Int) (v2 : Int) (v3 : Int) (σ : Mem), (R32 v1 → R32 v2 → R32 v3 → OKm σ →
   ((v3 < 0) →
     Q v3 σ) ∧
    ((0 ≤ v3) →
     ∃ g5 : Mem, ∃ g6 : Nat → Txt, (vwM σ g5 g6 ∧ (0 ≤ v1 ∧ v1 ≤ 7) ∧ (0 ≤ v2 ∧ v2 ≤ 7)) ∧
     ∀ (u11 : Int) (σ10 : Mem), R32 u11 → OKm σ10 → (u11 = dst g5 v3 (-1) v1 v2 ∧ vwM σ10 g5 g6 ∧ Fr [84] σ σ10) →
     ((u11 ≠ 1000000) →
      Q v3 σ10) ∧
     ((u11 = 1000000) →
      R32 (v3 + (-1)) ∧ P13 v1 v2 (v3 + (-1)) σ10))) → P13 v1 v2 v3 σ) →
  (((0 ≤ x1 ∧ x1 ≤ 7) ∧ (0 ≤ x2 ∧ x2 ≤ 7) ∧ x1 ≠ x2) →
    P13 x1 x2 99 σ) ∧
   ((¬ ((0 ≤ x1 ∧ x1 ≤ 7) ∧ (0 ≤ x2 ∧ x2 ≤ 7) ∧ x1 ≠ x2)) →
    Q (-1) σ)
theorem mt_X12_widest {d : Nat} (hd : 3 ≤ d) {x1 : Int} {x2 : Int} {σ : Mem} {Q : Int → Mem → Prop} (hx1 : R32 x1) (hx2 : R32 x2) (hO : OKm σ) (h : wp_X12_widest x1 x2 σ Q) : Mt yX12_widest cX12_widest 4 (some .int) d [aR (74), aI (x1), aI (x2)] σ (QI Q) := by
  refine Mt.intro (by decide +kernel) (Nat.le_of_ble_eq_true rfl) [(0, aR (74)), (1, aI (x1)), (2, aI (x2))] rfl ?_
  unfold wp_X12_widest at h
  have h := h (fun (v1 : Int) (v2 : Int) (v3 : Int) (σ : Mem) => R32 v1 → R32 v2 → R32 v3 → OKm σ → G yX12_widest cX12_widest 4 (some .int) d (QI Q) 13 [(0, aR (74)), (1, aI (v1)), (2, aI (v2)), (3, aI (v3))] [] σ) ?_
  · refine G_iload_n 1 rfl rfl dX12_widest_0 ?_
    refine G_iload_n 2 rfl rfl dX12_widest_1 ?_
    refine G_callS (as := [_, _]) cf_X12_422 rfl (sp_X12_areTowns (d - 1) (by omega) _ hO _ hx1 _ hx2) (by omega) rfl rfl (Nat.le_of_ble_eq_true rfl) dX12_widest_2 ?_
    rintro _ _ ⟨_, rfl, rfl, rfl⟩ o2 r1
    refine G_if_ne (bI_R _) dX12_widest_5 (tgt := 10) (by decide) (fun c3 => ?_) (fun c3 => ?_)
    · have h := h.1 (bI_ne c3)
      refine G_bipush (by decide) dX12_widest_10 ?_
      refine G_istore_n (lv' := [(3, aI (99)), (0, aR (74)), (1, aI (x1)), (2, aI (x2))]) rfl rfl (by decide) dX12_widest_12 ?_
      exact G_pick [1, 2, 3, 0] rfl (h hx1 hx2 (rL 99 rfl) hO)
    · have h := h.2 ((bI_0 _).mp c3)
      refine G_iconst dX12_widest_8 ?_
      exact G_iret rfl (rL (-1) rfl) dX12_widest_9 ⟨_, rfl, h⟩ hO
  · intro v1 v2 v3 σ h hv1 hv2 hv3 hO
    have h := h hv1 hv2 hv3 hO
    refine G_iload_n 3 rfl rfl dX12_widest_13 ?_
    refine G_if_lt hv3 dX12_widest_14 (tgt := 36) (by decide) (fun c4 => ?_) (fun c4 => ?_)
    · have h := h.1 c4
      refine G_iload_n 3 rfl rfl dX12_widest_36 ?_
      exact G_iret rfl hv3 dX12_widest_37 ⟨_, rfl, h⟩ hO
    · have h := h.2 c4
      refine G_aload_n 0 rfl rfl dX12_widest_17 ?_
      refine G_iload_n 1 rfl rfl dX12_widest_18 ?_
      refine G_iload_n 2 rfl rfl dX12_widest_19 ?_
      refine G_iload_n 3 rfl rfl dX12_widest_20 ?_
      obtain ⟨g5, g6, c7, h⟩ := h
      refine G_callV (as := [_, _, _]) cf_X12_416 rfl rfl rfl (sp_X12_milesOf (d - 1) (by omega) _ hO _ hv1 _ hv2 _ hv3 g5 g6 c7) (by omega) rfl rfl (Nat.le_of_ble_eq_true rfl) dX12_widest_21 ?_
      rintro _ σ10 ⟨u11, rfl, z12⟩ o9 r8
      have h := h _ _ (r8 _ rfl) o9 z12
      refine G_ldcw (n := 1000000) rfl (by decide) kc_X12_412 dX12_widest_24 ?_
      refine G_icmp_ne (r8 _ rfl) (rL 1000000 rfl) dX12_widest_27 (tgt := 36) (by decide) (fun c13 => ?_) (fun c13 => ?_)
      · have h := h.1 c13
        refine G_iload_n 3 rfl rfl dX12_widest_36 ?_
        exact G_iret rfl hv3 dX12_widest_37 ⟨_, rfl, h⟩ o9
      · have h := h.2 c13
        refine G_iinc (lv' := [(3, aI ((v3 + (-1)))), (0, aR (74)), (1, aI (v1)), (2, aI (v2))]) (k := 3) rfl rfl (by decide) dX12_widest_30 ?_
        refine G_goto (tgt := 13) dX12_widest_33 (by decide) ?_
        obtain ⟨c14, h⟩ := h
        exact G_pick [1, 2, 3, 0] rfl (h hv1 hv2 c14 o9)

theorem sp_X12_widest (d : Nat) (hd : 3 ≤ d) (σ : Mem) (hO : OKm σ) (x1 : Int) (hx1 : R32 x1) (x2 : Int) (hx2 : R32 x2) (A : Mem) (tx : Nat → Txt) (hpre : vwM σ A tx) : Mt yX12_widest cX12_widest 4 (some .int) d [aR (74), aI (x1), aI (x2)] σ (QI (fun v σ' => v = widS A x1 x2 ∧ vwM σ' A tx ∧ Fr F84 σ σ')) := mt_X12_widest hd hx1 hx2 hO (by
  unfold wp_X12_widest
  intro P13 h13
  have hV := hpre
  have hI := hV.2.2.1
  refine ⟨fun hx => ?_, fun h => ⟨by unfold widS; rw [if_neg h], hV, Fr.rf _ _⟩⟩
  obtain ⟨i0, i1, i2⟩ := sprW_ok (a := x1) hI 7
  have hw := i0 x2
  have ew : widS A x1 x2 = sprW A x1 7 x2 := by unfold widS; rw [if_pos hx]
  rw [ew] at h13
  have H : ∀ (n : Nat) (k : Int) (τ : Mem), k = sprW A x1 7 x2 + n → k ≤ 99 → vwM τ A tx → Fr F84 σ τ → P13 x1 x2 k τ := by
    intro n
    induction n with
    | zero =>
      intro k τ hk h9 hVt hF
      have hk : k = sprW A x1 7 x2 := by omega
      refine h13 _ _ _ _ (fun _ _ _ _ => ⟨fun h => ⟨hk, hVt, hF⟩, fun h => ⟨A, tx, ⟨hVt, hx.1, hx.2.1⟩, ?_⟩⟩)
      intro u σ1 hu hO1 ⟨eu, hV1, hF1⟩
      have := (wid_iff (b := x2) hI hx.1 (th := k) (by omega)).mp (by omega)
      exact ⟨fun _ => ⟨hk, hV1, hF.tr (hF1.wk (by simp))⟩, fun h => absurd h (by omega)⟩
    | succ n ih =>
      intro k τ hk h9 hVt hF
      refine h13 _ _ _ _ (fun _ _ _ _ => ⟨fun h => absurd h (by omega), fun h => ⟨A, tx, ⟨hVt, hx.1, hx.2.1⟩, ?_⟩⟩)
      intro u σ1 hu hO1 ⟨eu, hV1, hF1⟩
      have hno : ¬ dst A k (-1) x1 x2 < 1000000 := fun q => by
        have := (wid_iff (b := x2) hI hx.1 (th := k) (by omega)).mpr q
        omega
      have hd := dst_r (th := k) (wo := -1) (a := x1) (b := x2) hI
      exact ⟨fun h2 => absurd (by omega) h2, fun _ => ⟨by unfold R32; omega, ih (k + (-1)) σ1 (by omega) (by omega) hV1 (hF.tr (hF1.wk (by simp)))⟩⟩
  exact H (99 - sprW A x1 7 x2).toNat 99 σ (by omega) (by omega) hV (Fr.rf _ _))
