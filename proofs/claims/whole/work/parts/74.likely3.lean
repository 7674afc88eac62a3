def wp_X12_roadsAt (x1 : Int) (σ : Mem) (Q : Int → Mem → Prop) : Prop :=
 ∀ P4 : Int → Int → Int → Mem → Prop,
 (∀ (v1 : Int) (v2 : Int) (v3 : Int) (σ : Mem), (R32 v1 → R32 v2 → R32 v3 → OKm σ →
   (((σ 75 0) ≤ v3) →
     Q v2 σ) ∧
    ((v3 < (σ 75 0)) →
     (0 ≤ v3 ∧ v3 < 16) ∧
     ((¬ (0 < σ 75 (11 + v3))) →
      R32 (v2 + 0) ∧ R32 (v3 + 1) ∧ P4 v1 (v2 + 0) (v3 + 1) σ) ∧
     ((0 < σ 75 (11 + v3)) →
      (0 ≤ v3 ∧ v3 < 16) ∧
      (((if σ 75 (39 + 4 * v3) = v1 then σ 75 (39 + 4 * v3 + 1) else if σ 75 (39 + 4 * v3 + 1) = v1 then σ 75 (39 + 4 * v3) else -1) = (-1)) →
       R32 (v2 + 0) ∧ R32 (v3 + 1) ∧ P4 v1 (v2 + 0) (v3 + 1) σ) ∧
      (((if σ 75 (39 + 4 * v3) = v1 then σ 75 (39 + 4 * v3 + 1) else if σ 75 (39 + 4 * v3 + 1) = v1 then σ 75 (39 + 4 * v3) else -1) ≠ (-1)) →
       R32 (v2 + 1) ∧ R32 (v3 + 1) ∧ P4 v1 (v2 + 1) (v3 + 1) σ)))) → P4 v1 v2 v3 σ) →
  P4 x1 0 0 σ
theorem mt_X12_roadsAt {d : Nat} (hd : 2 ≤ d) {x1 : Int} {σ : Mem} {Q : Int → Mem → Prop} (hx1 : R32 x1) (hO : OKm σ) (h : wp_X12_roadsAt x1 σ Q) : Mt yX12_roadsAt cX12_roadsAt 4 (some .int) d [aR (74), aI (x1)] σ (QI Q) := by
  refine Mt.intro (by decide +kernel) (Nat.le_of_ble_eq_true rfl) [(0, aR (74)), (1, aI (x1))] rfl ?_
  unfold wp_X12_roadsAt at h
  have h := h (fun (v1 : Int) (v2 : Int) (v3 : Int) (σ : Mem) => R32 v1 → R32 v2 → R32 v3 → OKm σ → G yX12_roadsAt cX12_roadsAt 4 (some .int) d (QI Q) 4 [(0, aR (74)), (1, aI (v1)), (2, aI (v2)), (3, aI (v3))] [] σ) ?_
  · refine G_iconst dX12_roadsAt_0 ?_
    refine G_istore_n (lv' := [(2, aI (0)), (0, aR (74)), (1, aI (x1))]) rfl rfl (by decide) dX12_roadsAt_1 ?_
    refine G_iconst dX12_roadsAt_2 ?_
    refine G_istore_n (lv' := [(3, aI (0)), (2, aI (0)), (0, aR (74)), (1, aI (x1))]) rfl rfl (by decide) dX12_roadsAt_3 ?_
    exact G_pick [2, 3, 1, 0] rfl (h hx1 (rL 0 rfl) (rL 0 rfl) hO)
  · intro v1 v2 v3 σ h hv1 hv2 hv3 hO
    have h := h hv1 hv2 hv3 hO
    refine G_iload_n 3 rfl rfl dX12_roadsAt_4 ?_
    refine G_aload_n 0 rfl rfl dX12_roadsAt_5 ?_
    refine G_get (k := 0) (kd := (2, 75)) (v := aR 75) gf_X12_7 rfl rfl rfl rfl dX12_roadsAt_6 ?_
    refine G_iconst dX12_roadsAt_9 ?_
    refine G_iald (n := 2119) rfl (by decide) (by decide) dX12_roadsAt_10 ?_
    refine G_icmp_ge hv3 (OKm.i hO 75 0 (isLg_row (show shp 75 = (1, 2119, []) from rfl) _)) dX12_roadsAt_11 (tgt := 46) (by decide) (fun c1 => ?_) (fun c1 => ?_)
    · have h := h.1 c1
      refine G_iload_n 2 rfl rfl dX12_roadsAt_46 ?_
      exact G_iret rfl hv2 dX12_roadsAt_47 ⟨_, rfl, h⟩ hO
    · have h := h.2 c1
      refine G_iload_n 2 rfl rfl dX12_roadsAt_14 ?_
      refine G_aload_n 0 rfl rfl dX12_roadsAt_15 ?_
      refine G_iload_n 3 rfl rfl dX12_roadsAt_16 ?_
      obtain ⟨c2, h⟩ := h
      refine G_callV (as := [_]) cf_X12_431 rfl rfl rfl (sp_X12_isNet (d - 1) (by omega) _ hO _ hv3 c2) (by omega) rfl rfl (Nat.le_of_ble_eq_true rfl) dX12_roadsAt_17 ?_
      rintro _ _ ⟨_, rfl, rfl, rfl⟩ o4 r3
      refine G_if_eq (bI_R _) dX12_roadsAt_20 (tgt := 37) (by decide) (fun c5 => ?_) (fun c5 => ?_)
      · have h := h.1 ((bI_0 _).mp c5)
        refine G_iconst dX12_roadsAt_37 ?_
        refine G_iadd dX12_roadsAt_38 ?_
        refine G_istore_n (lv' := [(2, aI ((v2 + 0))), (0, aR (74)), (1, aI (v1)), (3, aI (v3))]) rfl rfl (by decide) dX12_roadsAt_39 ?_
        refine G_iinc (lv' := [(3, aI ((v3 + 1))), (2, aI ((v2 + 0))), (0, aR (74)), (1, aI (v1))]) (k := 3) rfl rfl (by decide) dX12_roadsAt_40 ?_
        refine G_goto (tgt := 4) dX12_roadsAt_43 (by decide) ?_
        obtain ⟨c6, h⟩ := h
        obtain ⟨c7, h⟩ := h
        exact G_pick [2, 3, 1, 0] rfl (h hv1 c6 c7 hO)
      · have h := h.2 (bI_ne c5)
        refine G_aload_n 0 rfl rfl dX12_roadsAt_23 ?_
        refine G_iload_n 3 rfl rfl dX12_roadsAt_24 ?_
        refine G_iload_n 1 rfl rfl dX12_roadsAt_25 ?_
        obtain ⟨c8, h⟩ := h
        refine G_callV (as := [_, _]) cf_X12_339 rfl rfl rfl (sp_X12_other (d - 1) (by omega) _ hO _ hv3 _ hv1 c8) (by omega) rfl rfl (Nat.le_of_ble_eq_true rfl) dX12_roadsAt_26 ?_
        rintro _ _ ⟨_, rfl, rfl, rfl⟩ o10 r9
        refine G_iconst dX12_roadsAt_29 ?_
        refine G_icmp_eq (r9 _ rfl) (rL (-1) rfl) dX12_roadsAt_30 (tgt := 37) (by decide) (fun c11 => ?_) (fun c11 => ?_)
        · have h := h.1 c11
          refine G_iconst dX12_roadsAt_37 ?_
          refine G_iadd dX12_roadsAt_38 ?_
          refine G_istore_n (lv' := [(2, aI ((v2 + 0))), (0, aR (74)), (1, aI (v1)), (3, aI (v3))]) rfl rfl (by decide) dX12_roadsAt_39 ?_
          refine G_iinc (lv' := [(3, aI ((v3 + 1))), (2, aI ((v2 + 0))), (0, aR (74)), (1, aI (v1))]) (k := 3) rfl rfl (by decide) dX12_roadsAt_40 ?_
          refine G_goto (tgt := 4) dX12_roadsAt_43 (by decide) ?_
          obtain ⟨c12, h⟩ := h
          obtain ⟨c13, h⟩ := h
          exact G_pick [2, 3, 1, 0] rfl (h hv1 c12 c13 hO)
        · have h := h.2 c11
          refine G_iconst dX12_roadsAt_33 ?_
          refine G_goto (tgt := 38) dX12_roadsAt_34 (by decide) ?_
          refine G_iadd dX12_roadsAt_38 ?_
          refine G_istore_n (lv' := [(2, aI ((v2 + 1))), (0, aR (74)), (1, aI (v1)), (3, aI (v3))]) rfl rfl (by decide) dX12_roadsAt_39 ?_
          refine G_iinc (lv' := [(3, aI ((v3 + 1))), (2, aI ((v2 + 1))), (0, aR (74)), (1, aI (v1))]) (k := 3) rfl rfl (by decide) dX12_roadsAt_40 ?_
          refine G_goto (tgt := 4) dX12_roadsAt_43 (by decide) ?_
          obtain ⟨c14, h⟩ := h
          obtain ⟨c15, h⟩ := h
          exact G_pick [2, 3, 1, 0] rfl (h hv1 c14 c15 hO)

theorem sp_X12_roadsAt (d : Nat) (hd : 2 ≤ d) (σ : Mem) (hO : OKm σ) (x1 : Int) (hx1 : R32 x1) (A : Mem) (tx : Nat → Txt) (hpre : vwM σ A tx) : Mt yX12_roadsAt cX12_roadsAt 4 (some .int) d [aR (74), aI (x1)] σ (QI (fun v σ' => v = degS A x1 ∧ σ' = σ)) := mt_X12_roadsAt hd hx1 hO (by
  unfold wp_X12_roadsAt
  intro P4 h4
  have hV := hpre
  have hI := hV.2.2.1
  have hc := hI.1
  have e0 : σ 75 0 = A 10 0 := hV.1.1.1
  have e1 : σ 75 1 = A 10 1 := hV.1.1.2.1
  have H : ∀ (n k : Nat), k + n = (A 10 0).toNat → P4 x1 (degN A x1 k) (k : Int) σ := by
    intro n
    induction n with
    | zero =>
      intro k hk
      have hk2 : k = (A 10 0).toNat := by omega
      subst hk2
      exact h4 _ _ _ _ (fun _ _ _ _ => ⟨fun _ => ⟨rfl, rfl⟩, fun h => absurd h (by omega)⟩)
    | succ n ih =>
      intro k hk
      have ih1 := ih (k + 1) (by omega)
      have hr := degN_r A x1 k
      have t1 := hV.1.2.1 (k : Int) (by omega) (by omega)
      have n1 : σ 75 (11 + (k : Int)) = A 1 (k : Int) := hV.2.1.2.1 (k : Int) (by omega) (by omega)
      have s2 : σ 75 (39 + 4 * (k : Int)) = A 11 (k : Int) := t1.1
      have s3 : σ 75 (39 + 4 * (k : Int) + 1) = A 12 (k : Int) := t1.2.1
      have k1 := hI.2.1 (k : Int) (by omega) (by omega)
      have yes : netR A x1 (k : Int) = true → P4 x1 (degN A x1 k + 1) ((k : Int) + 1) σ := fun h => by
        have e : degN A x1 (k + 1) = degN A x1 k + 1 := by show _ + (if _ then _ else _) = _; rw [if_pos h]
        rw [e] at ih1; exact ih1
      have no : netR A x1 (k : Int) = false → P4 x1 (degN A x1 k + 0) ((k : Int) + 1) σ := fun h => by
        have e : degN A x1 (k + 1) = degN A x1 k + 0 := by show _ + (if _ then _ else _) = _; rw [h]; simp
        rw [e] at ih1; exact ih1
      refine h4 _ _ _ _ (fun _ _ _ _ => ⟨fun h => absurd h (by omega), fun _ => ?_⟩)
      rw [n1, s2, s3]
      refine ⟨by omega, fun h => ⟨by unfold R32; omega, by unfold R32; omega, no (decide_eq_false (fun q => h q.1))⟩, fun h => ⟨by omega, fun h2 => ⟨by unfold R32; omega, by unfold R32; omega, no (decide_eq_false (fun q => ?_))⟩, fun h2 => ⟨by unfold R32; omega, by unfold R32; omega, yes (decide_eq_true ⟨h, ?_⟩)⟩⟩⟩
      · by_cases q1 : A 11 (k : Int) = x1
        · rw [if_pos q1] at h2; omega
        · rw [if_neg q1, if_pos (by omega)] at h2; omega
      · by_cases q1 : A 11 (k : Int) = x1
        · exact .inl q1
        · rw [if_neg q1] at h2
          by_cases q2 : A 12 (k : Int) = x1
          · exact .inr q2
          · rw [if_neg q2] at h2; omega
  exact H _ 0 (Nat.zero_add _))

def chR (σ : Mem) (c : Int → Int) : Prop := ∃ p : Nat, isRow p ∧ σ 40 8 = (p : Int) ∧ ∀ t : Int, 0 ≤ t → t ≤ 7 → σ p t = c t
theorem netC.rows {σ : Mem} (h : netC σ) : ∃ p q : Nat, isRow p ∧ isRow q ∧ p ≠ q ∧ σ 40 8 = (p : Int) ∧ σ 40 9 = (q : Int) := by
  rcases h with h | h
  · exact ⟨47, 48, .inl rfl, .inr rfl, by omega, h.1, h.2⟩
  · exact ⟨48, 47, .inr rfl, .inl rfl, by omega, h.1, h.2⟩
theorem netC.of {σ : Mem} {p q : Nat} (hp : isRow p) (hq : isRow q) (hn : p ≠ q) (h8 : σ 40 8 = (p : Int)) (h9 : σ 40 9 = (q : Int)) : netC σ := by
  unfold netC; rw [h8, h9]; unfold isRow at hp hq; omega
theorem vwC.net {σ σ' : Mem} {A : Mem} {tx : Nat → Txt} (h : vwC σ A tx) (hf : Fr [40, 47, 48] σ σ') : vwC σ' A tx :=
  h.now (h.2.1.congr (fun q h1 h2 => hf q (by simp; omega))) h.2.2.1 (fun _ _ => rfl) (fun q hq => hf q (by simp; omega))

def wp_X4_wander (x1 : Int) (σ : Mem) (Q : Mem → Prop) : Prop :=
 ∀ P10 : Int → Int → Mem → Prop,
 ∀ P65 : Int → Int → Int → Int → Mem → Prop,
 (∀ (v1 : Int) (v3 : Int) (σ : Mem), (R64 v1 → R32 v3 → OKm σ →
   ((8 ≤ v3) →
     ∃ q10 : Nat, isRow q10 ∧ σ 40 8 = (q10 : Int) ∧
     ∃ q13 : Nat, isRow q13 ∧ σ 40 9 = (q13 : Int) ∧
     ∀ σ16 : Mem, σ16 = mset σ 40 8 (q13 : Int) →
     ∀ σ19 : Mem, σ19 = mset σ16 40 9 (q10 : Int) →
     Q σ19) ∧
    ((v3 < 8) →
     ∃ g22 : Mem, ∃ g23 : Nat → Txt, (vwC σ g22 g23) ∧
     ∀ (u28 : Int) (σ27 : Mem), R32 u28 → OKm σ27 → (u28 = degS g22 v3 ∧ σ27 = σ) →
     ((u28 ≠ 0) →
      ∃ q31 : Nat, isRow q31 ∧ σ27 40 8 = (q31 : Int) ∧
      (0 ≤ v3 ∧ v3 < 8) ∧
      (u28 ≠ 0) ∧
      R64 ((σ27 q31 v3) * (Int.tdiv v1 u28)) ∧
      ∀ y37 : Int, y37 = ((σ27 q31 v3) * (Int.tdiv v1 u28)) →
      P65 v1 v3 y37 0 σ27) ∧
     ((u28 = 0) →
      ∃ q38 : Nat, isRow q38 ∧ σ27 40 9 = (q38 : Int) ∧
      (0 ≤ v3 ∧ v3 < 8) ∧
      ∃ q42 : Nat, isRow q42 ∧ σ27 40 8 = (q42 : Int) ∧
      (0 ≤ v3 ∧ v3 < 8) ∧
      (0 ≤ v3 ∧ v3 < 8) ∧
      R64 ((σ27 q38 v3) + ((σ27 q42 v3) * v1)) ∧
      ∀ σ48 : Mem, σ48 = mset σ27 q38 v3 ((σ27 q38 v3) + ((σ27 q42 v3) * v1)) →
      R32 (v3 + 1) ∧ P10 v1 (v3 + 1) σ48))) → P10 v1 v3 σ) →
 (∀ (v1 : Int) (v3 : Int) (v5 : Int) (v7 : Int) (σ : Mem), (R64 v1 → R32 v3 → R64 v5 → R32 v7 → OKm σ →
   (((σ 1 8) ≤ v7) →
     R32 (v3 + 1) ∧ P10 v1 (v3 + 1) σ) ∧
    ((v7 < (σ 1 8)) →
     (0 ≤ v7 ∧ v7 < 16) ∧
     ((¬ (0 < σ 11 v7)) →
      R32 (v7 + 1) ∧ P65 v1 v3 v5 (v7 + 1) σ) ∧
     ((0 < σ 11 v7) →
      (0 ≤ v7 ∧ v7 < 16) ∧
      ((¬ (σ 2 v7 = v3 ∨ σ 3 v7 = v3)) →
       R32 (v7 + 1) ∧ P65 v1 v3 v5 (v7 + 1) σ) ∧
      ((σ 2 v7 = v3 ∨ σ 3 v7 = v3) →
       ∃ q64 : Nat, isRow q64 ∧ σ 40 9 = (q64 : Int) ∧
       (0 ≤ v7 ∧ v7 < 16) ∧
       (0 ≤ (if σ 2 v7 = v3 then σ 3 v7 else σ 2 v7) ∧ (if σ 2 v7 = v3 then σ 3 v7 else σ 2 v7) < 8) ∧
       (0 ≤ (if σ 2 v7 = v3 then σ 3 v7 else σ 2 v7) ∧ (if σ 2 v7 = v3 then σ 3 v7 else σ 2 v7) < 8) ∧
       R64 ((σ q64 (if σ 2 v7 = v3 then σ 3 v7 else σ 2 v7)) + v5) ∧
       ∀ σ73 : Mem, σ73 = mset σ q64 (if σ 2 v7 = v3 then σ 3 v7 else σ 2 v7) ((σ q64 (if σ 2 v7 = v3 then σ 3 v7 else σ 2 v7)) + v5) →
       R32 (v7 + 1) ∧ P65 v1 v3 v5 (v7 + 1) σ73)))) → P65 v1 v3 v5 v7 σ) →
  ∃ q1 : Nat, isRow q1 ∧ σ 40 9 = (q1 : Int) ∧
   ∀ σ6 : Mem, OKm σ6 → ((∀ i : Int, 0 ≤ i → i < 8 → σ6 q1 i = (0 : Int)) ∧ Fr [q1] σ σ6) →
   P10 x1 0 σ6
theorem mt_X4_wander {d : Nat} (hd : 2 ≤ d) {x1 : Int} {σ : Mem} {Q : Mem → Prop} (hx1 : R64 x1) (hO : OKm σ) (h : wp_X4_wander x1 σ Q) : Mt yX4_wander cX4_wander 8 none d [aR (40), aL (x1)] σ (QV Q) := by
  refine Mt.intro (by decide +kernel) (Nat.le_of_ble_eq_true rfl) [(0, aR (40)), (1, aL (x1))] rfl ?_
  unfold wp_X4_wander at h
  have h := h (fun (v1 : Int) (v3 : Int) (σ : Mem) => R64 v1 → R32 v3 → OKm σ → G yX4_wander cX4_wander 8 none d (QV Q) 10 [(0, aR (40)), (1, aL (v1)), (3, aI (v3))] [] σ)
    (fun (v1 : Int) (v3 : Int) (v5 : Int) (v7 : Int) (σ : Mem) => R64 v1 → R32 v3 → R64 v5 → R32 v7 → OKm σ → G yX4_wander cX4_wander 8 none d (QV Q) 65 [(0, aR (40)), (1, aL (v1)), (3, aI (v3)), (5, aL (v5)), (7, aI (v7))] [] σ) ?_ ?_
  · refine G_aload_n 0 rfl rfl dX4_wander_0 ?_
    obtain ⟨q1, c2, c3, h⟩ := h
    refine G_get (k := 9) (kd := (4, 0)) (v := aR q1) gf_X4_34 rfl rfl rfl (fa_row c2 c3) dX4_wander_1 ?_
    refine G_lconst (n := 0) (by decide) dX4_wander_4 ?_
    refine G_callS (as := [_, _]) cf_X4_153 rfl (sp_J7_fill_d0a16_r (d - 1) (by omega) _ hO _ c2 _ (rLL 0 rfl)) (by omega) rfl rfl (Nat.le_of_ble_eq_true rfl) dX4_wander_5 ?_
    rintro _ σ6 ⟨rfl, z8⟩ o5 r4
    have h := h _ o5 z8
    refine G_iconst dX4_wander_8 ?_
    refine G_istore_n (lv' := [(3, aI (0)), (0, aR (40)), (1, aL (x1))]) rfl rfl (by decide) dX4_wander_9 ?_
    exact G_pick [1, 2, 0] rfl (h hx1 (rL 0 rfl) o5)
  · intro v1 v3 σ h hv1 hv3 hO
    have h := h hv1 hv3 hO
    refine G_iload_n 2 rfl rfl dX4_wander_10 ?_
    refine G_bipush (by decide) dX4_wander_11 ?_
    refine G_icmp_ge hv3 (rL 8 rfl) dX4_wander_13 (tgt := 131) (by decide) (fun c9 => ?_) (fun c9 => ?_)
    · have h := h.1 c9
      refine G_aload_n 0 rfl rfl dX4_wander_131 ?_
      obtain ⟨q10, c11, c12, h⟩ := h
      refine G_get (k := 8) (kd := (4, 0)) (v := aR q10) gf_X4_30 rfl rfl rfl (fa_row c11 c12) dX4_wander_132 ?_
      refine G_astore_n (lv' := [(3, aR (q10)), (0, aR (40)), (1, aL (v1))]) rfl rfl (by decide) dX4_wander_135 ?_
      refine G_aload_n 1 rfl rfl dX4_wander_136 ?_
      refine G_aload_n 1 rfl rfl dX4_wander_137 ?_
      obtain ⟨q13, c14, c15, h⟩ := h
      refine G_get (k := 9) (kd := (4, 0)) (v := aR q13) gf_X4_34 rfl rfl rfl (fa_row c14 c15) dX4_wander_138 ?_
      obtain ⟨σ16, e18⟩ : ∃ τ : Mem, τ = mset σ 40 8 (q13 : Int) := ⟨_, rfl⟩
      have h := h σ16 e18
      have o17 : OKm σ16 := by rw [e18]; exact OKm.seti hO _ _ _ (rRow c14) rfl
      refine G_put (k := 8) (ki := 8) (kd := (4, 0)) (x := _) pf_X4_30 rfl rfl rfl rfl (fa_r (posRow c14)) (fun _ => rfl) (fun _ => rfl) dX4_wander_141 ?_
      rw [← e18]
      refine G_aload_n 1 rfl rfl dX4_wander_144 ?_
      refine G_aload_n 0 rfl rfl dX4_wander_145 ?_
      obtain ⟨σ19, e21⟩ : ∃ τ : Mem, τ = mset σ16 40 9 (q10 : Int) := ⟨_, rfl⟩
      have h := h σ19 e21
      have o20 : OKm σ19 := by rw [e21]; exact OKm.seti o17 _ _ _ (rRow c11) rfl
      refine G_put (k := 9) (ki := 9) (kd := (4, 0)) (x := _) pf_X4_34 rfl rfl rfl rfl (fa_r (posRow c11)) (fun _ => rfl) (fun _ => rfl) dX4_wander_146 ?_
      rw [← e21]
      exact G_vret rfl dX4_wander_149 ⟨rfl, h⟩ o20
    · have h := h.2 c9
      refine G_aload_n 0 rfl rfl dX4_wander_16 ?_
      refine G_iload_n 2 rfl rfl dX4_wander_17 ?_
      obtain ⟨g22, g23, c24, h⟩ := h
      refine G_callV (as := [_]) cf_X4_106 rfl rfl rfl (sp_X4_roadsAt (d - 1) (by omega) _ hO _ hv3 g22 g23 c24) (by omega) rfl rfl (Nat.le_of_ble_eq_true rfl) dX4_wander_18 ?_
      rintro _ σ27 ⟨u28, rfl, z29⟩ o26 r25
      have h := h _ _ (r25 _ rfl) o26 z29
      refine G_istore (lv' := [(4, aI (u28)), (0, aR (40)), (1, aL (v1)), (3, aI (v3))]) rfl (by decide) dX4_wander_21 ?_
      refine G_iload 0 rfl dX4_wander_23 ?_
      refine G_if_ne (r25 _ rfl) dX4_wander_25 (tgt := 48) (by decide) (fun c30 => ?_) (fun c30 => ?_)
      · have h := h.1 c30
        refine G_aload_n 1 rfl rfl dX4_wander_48 ?_
        obtain ⟨q31, c32, c33, h⟩ := h
        refine G_get (k := 8) (kd := (4, 0)) (v := aR q31) gf_X4_30 rfl rfl rfl (fa_row c32 c33) dX4_wander_49 ?_
        refine G_iload_n 3 rfl rfl dX4_wander_52 ?_
        obtain ⟨c34, h⟩ := h
        refine G_lald (n := 8) (shRow c32) c34.1 c34.2 dX4_wander_53 ?_
        refine G_lload_n 2 rfl rfl dX4_wander_54 ?_
        refine G_iload 0 rfl dX4_wander_55 ?_
        refine G_i2l (r25 _ rfl) dX4_wander_57 ?_
        obtain ⟨c35, h⟩ := h
        refine G_ldiv hv1 (r32_64 (r25 _ rfl)) c35 dX4_wander_58 ?_
        refine G_lmul dX4_wander_59 ?_
        obtain ⟨c36, h⟩ := h
        have h := h _ rfl
        refine G_lstore (lv' := [(5, aL ((((σ27 q31 v3) * (Int.tdiv v1 u28))))), (4, aI (u28)), (0, aR (40)), (1, aL (v1)), (3, aI (v3))]) rfl (by decide) dX4_wander_60 ?_
        refine G_iconst dX4_wander_62 ?_
        refine G_istore (lv' := [(7, aI (0)), (5, aL ((((σ27 q31 v3) * (Int.tdiv v1 u28))))), (4, aI (u28)), (0, aR (40)), (1, aL (v1)), (3, aI (v3))]) rfl (by decide) dX4_wander_63 ?_
        exact G_pick [3, 4, 5, 1, 0] rfl (h hv1 hv3 c36 (rL 0 rfl) o26)
      · have h := h.2 c30
        refine G_aload_n 1 rfl rfl dX4_wander_28 ?_
        obtain ⟨q38, c39, c40, h⟩ := h
        refine G_get (k := 9) (kd := (4, 0)) (v := aR q38) gf_X4_34 rfl rfl rfl (fa_row c39 c40) dX4_wander_29 ?_
        refine G_iload_n 3 rfl rfl dX4_wander_32 ?_
        refine G_dup2 rfl rfl dX4_wander_33 ?_
        obtain ⟨c41, h⟩ := h
        refine G_lald (n := 8) (shRow c39) c41.1 c41.2 dX4_wander_34 ?_
        refine G_aload_n 1 rfl rfl dX4_wander_35 ?_
        obtain ⟨q42, c43, c44, h⟩ := h
        refine G_get (k := 8) (kd := (4, 0)) (v := aR q42) gf_X4_30 rfl rfl rfl (fa_row c43 c44) dX4_wander_36 ?_
        refine G_iload_n 3 rfl rfl dX4_wander_39 ?_
        obtain ⟨c45, h⟩ := h
        refine G_lald (n := 8) (shRow c43) c45.1 c45.2 dX4_wander_40 ?_
        refine G_lload_n 2 rfl rfl dX4_wander_41 ?_
        refine G_lmul dX4_wander_42 ?_
        refine G_ladd dX4_wander_43 ?_
        obtain ⟨c46, h⟩ := h
        obtain ⟨c47, h⟩ := h
        obtain ⟨σ48, e50⟩ : ∃ τ : Mem, τ = mset σ27 q38 v3 ((σ27 q38 v3) + ((σ27 q42 v3) * v1)) := ⟨_, rfl⟩
        have h := h σ48 e50
        have o49 : OKm σ48 := by rw [e50]; exact OKm.setl o26 _ _ _ c47 (isLg_rowL (shRow c39) _)
        refine G_last (n := 8) (shRow c39) c46.1 c46.2 dX4_wander_44 ?_
        rw [← e50]
        refine G_goto (tgt := 125) dX4_wander_45 (by decide) ?_
        refine G_iinc (lv' := [(3, aI ((v3 + 1))), (4, aI (u28)), (0, aR (40)), (1, aL (v1))]) (k := 3) rfl rfl (by decide) dX4_wander_125 ?_
        refine G_goto (tgt := 10) dX4_wander_128 (by decide) ?_
        obtain ⟨c51, h⟩ := h
        exact G_pick [2, 3, 0] rfl (h hv1 c51 o49)
  · intro v1 v3 v5 v7 σ h hv1 hv3 hv5 hv7 hO
    have h := h hv1 hv3 hv5 hv7 hO
    refine G_iload 4 rfl dX4_wander_65 ?_
    refine G_aload_n 0 rfl rfl dX4_wander_67 ?_
    refine G_get (k := 0) (kd := (2, 1)) (v := aR 1) gf_X4_37 rfl rfl rfl rfl dX4_wander_68 ?_
    refine G_get (k := 8) (kd := (0, 0)) (v := aI (σ 1 8)) gf_X4_50 rfl rfl rfl rfl dX4_wander_71 ?_
    refine G_icmp_ge hv7 (OKm.i hO 1 8 rfl) dX4_wander_74 (tgt := 125) (by decide) (fun c52 => ?_) (fun c52 => ?_)
    · have h := h.1 c52
      refine G_iinc (lv' := [(3, aI ((v3 + 1))), (0, aR (40)), (1, aL (v1)), (5, aL (v5)), (7, aI (v7))]) (k := 2) rfl rfl (by decide) dX4_wander_125 ?_
      refine G_goto (tgt := 10) dX4_wander_128 (by decide) ?_
      obtain ⟨c53, h⟩ := h
      exact G_pick [1, 2, 0] rfl (h hv1 c53 hO)
    · have h := h.2 c52
      refine G_aload_n 0 rfl rfl dX4_wander_77 ?_
      refine G_iload 4 rfl dX4_wander_78 ?_
      obtain ⟨c54, h⟩ := h
      refine G_callV (as := [_]) cf_X4_56 rfl rfl rfl (sp_X4_holds (d - 1) (by omega) _ hO _ hv7 c54) (by omega) rfl rfl (Nat.le_of_ble_eq_true rfl) dX4_wander_80 ?_
      rintro _ _ ⟨_, rfl, rfl, rfl⟩ o56 r55
      refine G_if_eq (bI_R _) dX4_wander_83 (tgt := 119) (by decide) (fun c57 => ?_) (fun c57 => ?_)
      · have h := h.1 ((bI_0 _).mp c57)
        refine G_iinc (lv' := [(7, aI ((v7 + 1))), (0, aR (40)), (1, aL (v1)), (3, aI (v3)), (5, aL (v5))]) (k := 4) rfl rfl (by decide) dX4_wander_119 ?_
        refine G_goto (tgt := 65) dX4_wander_122 (by decide) ?_
        obtain ⟨c58, h⟩ := h
        exact G_pick [1, 2, 3, 4, 0] rfl (h hv1 hv3 hv5 c58 hO)
      · have h := h.2 (bI_ne c57)
        refine G_aload_n 0 rfl rfl dX4_wander_86 ?_
        refine G_get (k := 0) (kd := (2, 1)) (v := aR 1) gf_X4_37 rfl rfl rfl rfl dX4_wander_87 ?_
        refine G_iload 4 rfl dX4_wander_90 ?_
        refine G_iload_n 2 rfl rfl dX4_wander_92 ?_
        obtain ⟨c59, h⟩ := h
        refine G_callV (as := [_, _]) cf_X4_60 rfl rfl rfl (sp_X10_touches (d - 1) (by omega) _ hO _ hv7 _ hv3 c59) (by omega) rfl rfl (Nat.le_of_ble_eq_true rfl) dX4_wander_93 ?_
        rintro _ _ ⟨_, rfl, rfl, rfl⟩ o61 r60
        refine G_if_eq (bI_R _) dX4_wander_96 (tgt := 119) (by decide) (fun c62 => ?_) (fun c62 => ?_)
        · have h := h.1 ((bI_0 _).mp c62)
          refine G_iinc (lv' := [(7, aI ((v7 + 1))), (0, aR (40)), (1, aL (v1)), (3, aI (v3)), (5, aL (v5))]) (k := 4) rfl rfl (by decide) dX4_wander_119 ?_
          refine G_goto (tgt := 65) dX4_wander_122 (by decide) ?_
          obtain ⟨c63, h⟩ := h
          exact G_pick [1, 2, 3, 4, 0] rfl (h hv1 hv3 hv5 c63 hO)
        · have h := h.2 (bI_ne c62)
          refine G_aload_n 0 rfl rfl dX4_wander_99 ?_
          obtain ⟨q64, c65, c66, h⟩ := h
          refine G_get (k := 9) (kd := (4, 0)) (v := aR q64) gf_X4_34 rfl rfl rfl (fa_row c65 c66) dX4_wander_100 ?_
          refine G_aload_n 0 rfl rfl dX4_wander_103 ?_
          refine G_get (k := 0) (kd := (2, 1)) (v := aR 1) gf_X4_37 rfl rfl rfl rfl dX4_wander_104 ?_
          refine G_iload 4 rfl dX4_wander_107 ?_
          refine G_iload_n 2 rfl rfl dX4_wander_109 ?_
          obtain ⟨c67, h⟩ := h
          refine G_callV (as := [_, _]) cf_X4_93 rfl rfl rfl (sp_X10_across (d - 1) (by omega) _ hO _ hv7 _ hv3 c67) (by omega) rfl rfl (Nat.le_of_ble_eq_true rfl) dX4_wander_110 ?_
          rintro _ _ ⟨_, rfl, rfl, rfl⟩ o69 r68
          refine G_dup2 rfl rfl dX4_wander_113 ?_
          obtain ⟨c70, h⟩ := h
          refine G_lald (n := 8) (shRow c65) c70.1 c70.2 dX4_wander_114 ?_
          refine G_lload 3 rfl dX4_wander_115 ?_
          refine G_ladd dX4_wander_117 ?_
          obtain ⟨c71, h⟩ := h
          obtain ⟨c72, h⟩ := h
          obtain ⟨σ73, e75⟩ : ∃ τ : Mem, τ = mset σ q64 (if σ 2 v7 = v3 then σ 3 v7 else σ 2 v7) ((σ q64 (if σ 2 v7 = v3 then σ 3 v7 else σ 2 v7)) + v5) := ⟨_, rfl⟩
          have h := h σ73 e75
          have o74 : OKm σ73 := by rw [e75]; exact OKm.setl hO _ _ _ c72 (isLg_rowL (shRow c65) _)
          refine G_last (n := 8) (shRow c65) c71.1 c71.2 dX4_wander_118 ?_
          rw [← e75]
          refine G_iinc (lv' := [(7, aI ((v7 + 1))), (0, aR (40)), (1, aL (v1)), (3, aI (v3)), (5, aL (v5))]) (k := 4) rfl rfl (by decide) dX4_wander_119 ?_
          refine G_goto (tgt := 65) dX4_wander_122 (by decide) ?_
          obtain ⟨c76, h⟩ := h
          exact G_pick [1, 2, 3, 4, 0] rfl (h hv1 hv3 hv5 c76 o74)

theorem sp_X4_wander (d : Nat) (hd : 2 ≤ d) (σ : Mem) (hO : OKm σ) (x1 : Int) (hx1 : R64 x1) (A : Mem) (tx : Nat → Txt) (c : Int → Int) (hpre : vwC σ A tx ∧ netC σ ∧ chR σ c ∧ (0 < x1) ∧ dvA A x1 ∧ (∀ t, 0 ≤ c t) ∧ sm8 c * x1 ≤ 4611686018427387904) : Mt yX4_wander cX4_wander 8 none d [aR (40), aL (x1)] σ (QV (fun σ' => vwC σ' A tx ∧ netC σ' ∧ chR σ' (wkN A x1 c 8) ∧ (∀ j : Int, j ≠ 8 → j ≠ 9 → σ' 40 j = σ 40 j) ∧ Fr [40, 47, 48] σ σ')) := mt_X4_wander hd hx1 hO (by
  unfold wp_X4_wander
  intro P10 P65 h10 h65
  obtain ⟨hV, hn, hch, hx, hM, hc0, hB⟩ := hpre
  have hI := hV.2.2.1
  have hc := hI.1
  obtain ⟨p, q, hp, hq, hpq, h8, h9⟩ := hn.rows
  have hch : ∀ t : Int, 0 ≤ t → t ≤ 7 → σ p t = c t := by
    obtain ⟨p', hp', h8', h'⟩ := hch
    have : p' = p := by omega
    subst this; exact h'
  have hqn : q = 47 ∨ q = 48 := hq
  have hpn : p = 47 ∨ p = 48 := hp
  have hx0 : (0 : Int) ≤ x1 := by omega
  have vq : ∀ τ : Mem, Fr [q] σ τ → vwC τ A tx := fun τ h => hV.net (h.wk (by rcases hqn with rfl | rfl <;> simp))
  have t9 : ∀ τ : Mem, Fr [q] σ τ → τ 40 = σ 40 := fun τ h => h 40 (by simp; omega)
  have tp : ∀ τ : Mem, Fr [q] σ τ → τ p = σ p := fun τ h => h p (by simp; exact hpq)
  have uq : ∀ p' : Nat, (p' : Int) = (q : Int) → p' = q := fun p' h => by omega
  have wn := fun n u => wkN_nn (A := A) hc0 hx0 n u
  have H10 : ∀ (n k : Nat) (τ : Mem), k + n = 8 → Fr [q] σ τ → (∀ u : Int, 0 ≤ u → u ≤ 7 → τ q u = wkN A x1 c k u) → P10 x1 (k : Int) τ := by
    intro n
    induction n with
    | zero =>
      intro k τ hk hF hw
      have hk8 : k = 8 := by omega
      subst hk8
      refine h10 _ _ _ (fun _ _ _ => ⟨fun _ => ⟨p, hp, by rw [t9 τ hF]; exact h8, q, hq, by rw [t9 τ hF]; exact h9, fun σ16 e16 σ19 e19 => ?_⟩, fun h => absurd h (by omega)⟩)
      have hF19 : Fr [40, 47, 48] σ σ19 := by
        rw [e19, e16]; exact ((hF.wk (by rcases hqn with rfl | rfl <;> simp)).set (by simp)).set (by simp)
      have g8 : σ19 40 8 = (q : Int) := by rw [e19, e16, mset_miss (by omega), mset_hit rfl]
      have g9 : σ19 40 9 = (p : Int) := by rw [e19, mset_hit rfl]
      refine ⟨hV.net hF19, netC.of hq hp (Ne.symm hpq) g8 g9, ⟨q, hq, g8, fun t h1 h2 => ?_⟩, fun j hj8 hj9 => ?_, hF19⟩
      · rw [e19, e16, mset_ne (by omega), mset_ne (by omega)]; exact hw t h1 h2
      · rw [e19, e16, mset_miss hj9, mset_miss hj8, t9 τ hF]
    | succ n ih =>
      intro k τ hk hF hw
      refine h10 _ _ _ (fun _ _ _ => ⟨fun h => absurd h (by omega), fun _ => ⟨A, tx, vq τ hF, ?_⟩⟩)
      intro u28 σ27 hu28 hO27 ⟨eu, e27⟩
      have e27 := e27.symm
      subst e27 eu
      have dn := deg_nn A (k : Int)
      refine ⟨fun hd => ?_, fun hd => ?_⟩
      · refine ⟨p, hp, by rw [t9 τ hF]; exact h8, by omega, hd, ?_⟩
        rw [tp τ hF, hch (k : Int) (by omega) (by omega), Int.tdiv_eq_ediv_of_nonneg hx0]
        have hs := shr_nn (A := A) (t := (k : Int)) hc0 hx0
        have hsb : c (k : Int) * (x1 / degS A (k : Int)) ≤ sm8 c * x1 := by
          have h1 := Int.mul_le_mul (le_sm8 hc0 (u := (k : Int)) (by omega)) (Int.ediv_le_self (degS A (k : Int)) hx0) (Int.ediv_nonneg hx0 dn) (by have := le_sm8 hc0 (u := 0) (by omega); have := hc0 0; omega)
          exact h1
        refine ⟨by unfold R64; omega, fun y37 e37 => ?_⟩
        rw [e37]
        have H65 : ∀ (m j : Nat) (ρ : Mem), j + m = (A 10 0).toNat → Fr [q] σ ρ → (∀ u : Int, 0 ≤ u → u ≤ 7 → ρ q u = spr A (k : Int) (c (k : Int) * (x1 / degS A (k : Int))) j (wkN A x1 c k) u) → P65 x1 (k : Int) (c (k : Int) * (x1 / degS A (k : Int))) (j : Int) ρ := by
          intro m
          induction m with
          | zero =>
            intro j ρ hj hFr hs2
            have hVr := vq ρ hFr
            have f8 : ρ 1 8 = A 10 0 := hVr.1.1.1
            refine h65 _ _ _ _ _ (fun _ _ _ _ _ => ⟨fun _ => ⟨by unfold R32; omega, ?_⟩, fun h => absurd h (by omega)⟩)
            refine ih (k + 1) ρ (by omega) hFr (fun u h1 h2 => ?_)
            rw [hs2 u h1 h2]
            show _ = twn A x1 c (k : Int) (wkN A x1 c k) u
            unfold twn; rw [if_neg hd, ← hj]; rfl
          | succ m ihm =>
            intro j ρ hj hFr hs2
            have hVr := vq ρ hFr
            have f8 : ρ 1 8 = A 10 0 := hVr.1.1.1
            have t1 := hVr.1.2.1 (j : Int) (by omega) (by omega)
            have n1 : ρ 11 (j : Int) = A 1 (j : Int) := hVr.2.1.2.1 (j : Int) (by omega) (by omega)
            have s2 : ρ 2 (j : Int) = A 11 (j : Int) := t1.1
            have s3 : ρ 3 (j : Int) = A 12 (j : Int) := t1.2.1
            have ha := acrS_r (t := (k : Int)) hI (r := (j : Int)) ⟨by omega, by omega⟩
            have no : netR A (k : Int) (j : Int) = false → R32 ((j : Int) + 1) ∧ P65 x1 (k : Int) (c (k : Int) * (x1 / degS A (k : Int))) ((j : Int) + 1) ρ := fun h => by
              refine ⟨by unfold R32; omega, ihm (j + 1) ρ (by omega) hFr (fun u h1 h2 => ?_)⟩
              rw [hs2 u h1 h2]
              show _ = (if netR A (k : Int) (j : Int) = true then _ else _ : Int → Int) u
              rw [h]; rfl
            refine h65 _ _ _ _ _ (fun _ _ _ _ _ => ⟨fun h => absurd h (by omega), fun _ => ?_⟩)
            rw [n1, s2, s3]
            refine ⟨by omega, fun h => no (decide_eq_false (fun q => h q.1)), fun h => ⟨by omega, fun h2 => no (decide_eq_false (fun q => h2 q.2)), fun h2 => ?_⟩⟩
            have hnr : netR A (k : Int) (j : Int) = true := decide_eq_true ⟨h, h2⟩
            refine ⟨q, hq, by rw [t9 ρ hFr]; exact h9, by omega, ?_⟩
            show (0 ≤ acrS A (j : Int) (k : Int) ∧ acrS A (j : Int) (k : Int) < 8) ∧ (0 ≤ acrS A (j : Int) (k : Int) ∧ acrS A (j : Int) (k : Int) < 8) ∧ R64 (ρ q (acrS A (j : Int) (k : Int)) + c (k : Int) * (x1 / degS A (k : Int))) ∧ ∀ σ73 : Mem, σ73 = mset ρ q (acrS A (j : Int) (k : Int)) (ρ q (acrS A (j : Int) (k : Int)) + c (k : Int) * (x1 / degS A (k : Int))) → R32 ((j : Int) + 1) ∧ P65 x1 (k : Int) (c (k : Int) * (x1 / degS A (k : Int))) ((j : Int) + 1) σ73
            have hle := spr_le hI hM hc0 hx0 (n := k) (k := j + 1) (by omega) (by omega) hd ha
            have e1 : spr A (k : Int) (c (k : Int) * (x1 / degS A (k : Int))) (j + 1) (wkN A x1 c k) = fup (spr A (k : Int) (c (k : Int) * (x1 / degS A (k : Int))) j (wkN A x1 c k)) (acrS A (j : Int) (k : Int)) (spr A (k : Int) (c (k : Int) * (x1 / degS A (k : Int))) j (wkN A x1 c k) (acrS A (j : Int) (k : Int)) + c (k : Int) * (x1 / degS A (k : Int))) := by
              show (if netR A (k : Int) (j : Int) = true then _ else _ : Int → Int) = _
              rw [if_pos hnr]
            have hnn := spr_nn (A := A) (t := (k : Int)) hs (wn k) j (acrS A (j : Int) (k : Int))
            rw [e1, fup_self] at hle
            rw [hs2 _ ha.1 ha.2]
            refine ⟨by omega, by omega, by unfold R64; omega, fun σ73 e73 => ⟨by unfold R32; omega, ihm (j + 1) σ73 (by omega) (by rw [e73]; exact hFr.set (by simp)) (fun u h1 h2 => ?_)⟩⟩
            rw [e1, e73]
            by_cases eu : u = acrS A (j : Int) (k : Int)
            · subst eu; rw [mset_hit rfl, fup_self]
            · rw [mset_miss eu, fup_ne eu]; exact hs2 u h1 h2
        exact H65 _ 0 τ (Nat.zero_add _) hF hw
      · refine ⟨q, hq, by rw [t9 τ hF]; exact h9, by omega, p, hp, by rw [t9 τ hF]; exact h8, by omega, by omega, ?_⟩
        have e1 : wkN A x1 c (k + 1) = fup (wkN A x1 c k) (k : Int) (wkN A x1 c k (k : Int) + c (k : Int) * x1) := by
          show twn A x1 c (k : Int) (wkN A x1 c k) = _
          unfold twn; rw [if_pos hd]
        have hle := wkN_le hI hM hc0 hx0 (n := k + 1) (by omega) (u := (k : Int)) (by omega)
        rw [e1, fup_self] at hle
        have hnn := wn k (k : Int)
        have hpr : 0 ≤ c (k : Int) * x1 := Int.mul_nonneg (hc0 _) hx0
        rw [tp τ hF, hch (k : Int) (by omega) (by omega), hw (k : Int) (by omega) (by omega)]
        refine ⟨by unfold R64; omega, fun σ48 e48 => ⟨by unfold R32; omega, ?_⟩⟩
        refine ih (k + 1) σ48 (by omega) (by rw [e48]; exact hF.set (by simp)) (fun u h1 h2 => ?_)
        rw [e1, e48]
        by_cases eu : u = (k : Int)
        · subst eu; rw [mset_hit rfl, fup_self]
        · rw [mset_miss eu, fup_ne eu]; exact hw u h1 h2
  refine ⟨q, hq, h9, fun σ6 hO6 ⟨hf, hF6⟩ => ?_⟩
  exact H10 8 0 σ6 (by omega) hF6 (fun u h1 h2 => hf u h1 (by omega)))
