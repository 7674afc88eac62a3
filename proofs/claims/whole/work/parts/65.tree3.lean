def wp_X4_treeRoads  (σ : Mem) (Q : Int → Mem → Prop) : Prop :=
 ∀ P2 : Int → Mem → Prop,
 ∀ P25 : Int → Int → Mem → Prop,
 ∀ P33 : Int → Int → Int → Mem → Prop,
 (∀ (v1 : Int) (σ : Mem), (R32 v1 → OKm σ →
   ((8 ≤ v1) →
     P25 0 1 σ) ∧
    ((v1 < 8) →
     (0 ≤ v1 ∧ v1 < 8) ∧
     ∀ σ3 : Mem, σ3 = mset σ 44 v1 v1 →
     R32 (v1 + 1) ∧ P2 (v1 + 1) σ3)) → P2 v1 σ) →
 (∀ (v1 : Int) (v2 : Int) (σ : Mem), (R32 v1 → R32 v2 → OKm σ →
   ((9 < v2) →
     Q v1 σ) ∧
    ((v2 ≤ 9) →
     P33 v1 v2 0 σ)) → P25 v1 v2 σ) →
 (∀ (v1 : Int) (v2 : Int) (v3 : Int) (σ : Mem), (R32 v1 → R32 v2 → R32 v3 → OKm σ →
   (((σ 1 8) ≤ v3) →
     R32 (v2 + 1) ∧ P25 v1 (v2 + 1) σ) ∧
    ((v3 < (σ 1 8)) →
     (0 ≤ v3 ∧ v3 < 16) ∧
     (((σ 4 v3) ≠ v2) →
      R32 (v3 + 1) ∧ P33 v1 v2 (v3 + 1) σ) ∧
     (((σ 4 v3) = v2) →
      (0 ≤ v3 ∧ v3 < 16) ∧
      ((¬ (0 < σ 11 v3)) →
       R32 (v3 + 1) ∧ P33 v1 v2 (v3 + 1) σ) ∧
      ((0 < σ 11 v3) →
       ∃ g18 : Mem, ∃ g19 : Nat → Txt, ∃ g20 : Int, (vwC σ g18 g19 ∧ grp σ g18 g20 ∧ (0 ≤ g20 ∧ g20 < 65536) ∧ (0 ≤ v3 ∧ v3 < g18 10 0)) ∧
       ∀ (u25 : Int) (σ24 : Mem), R32 u25 → OKm σ24 → (u25 = (if rchB g18 (tbt g20) (g18 11 v3) (g18 12 v3) = true then 0 else 1) ∧ grp σ24 g18 (if rchB g18 (tbt g20) (g18 11 v3) (g18 12 v3) = true then g20 else bOr g20 (bShl 1 v3)) ∧ Fr [44] σ σ24) →
       ((u25 = 0) →
        R32 (v3 + 1) ∧ P33 v1 v2 (v3 + 1) σ24) ∧
       ((u25 ≠ 0) →
        R32 (v3 + 1) ∧ P33 (bOr v1 (bShl 1 v3)) v2 (v3 + 1) σ24))))) → P33 v1 v2 v3 σ) →
  P2 0 σ
theorem mt_X4_treeRoads {d : Nat} (hd : 1 ≤ d)  {σ : Mem} {Q : Int → Mem → Prop}  (hO : OKm σ) (h : wp_X4_treeRoads  σ Q) : Mt yX4_treeRoads cX4_treeRoads 4 (some .int) d [aR (40)] σ (QI Q) := by
  refine Mt.intro (by decide +kernel) (Nat.le_of_ble_eq_true rfl) [(0, aR (40))] rfl ?_
  unfold wp_X4_treeRoads at h
  have h := h (fun (v1 : Int) (σ : Mem) => R32 v1 → OKm σ → G yX4_treeRoads cX4_treeRoads 4 (some .int) d (QI Q) 2 [(0, aR (40)), (1, aI (v1))] [] σ)
    (fun (v1 : Int) (v2 : Int) (σ : Mem) => R32 v1 → R32 v2 → OKm σ → G yX4_treeRoads cX4_treeRoads 4 (some .int) d (QI Q) 25 [(0, aR (40)), (1, aI (v1)), (2, aI (v2))] [] σ)
    (fun (v1 : Int) (v2 : Int) (v3 : Int) (σ : Mem) => R32 v1 → R32 v2 → R32 v3 → OKm σ → G yX4_treeRoads cX4_treeRoads 4 (some .int) d (QI Q) 33 [(0, aR (40)), (1, aI (v1)), (2, aI (v2)), (3, aI (v3))] [] σ) ?_ ?_ ?_
  · refine G_iconst dX4_treeRoads_0 ?_
    refine G_istore_n (lv' := [(1, aI (0)), (0, aR (40))]) rfl rfl (by decide) dX4_treeRoads_1 ?_
    exact G_pick [1, 0] rfl (h (rL 0 rfl) hO)
  · intro v1 σ h hv1 hO
    have h := h hv1 hO
    refine G_iload_n 1 rfl rfl dX4_treeRoads_2 ?_
    refine G_bipush (by decide) dX4_treeRoads_3 ?_
    refine G_icmp_ge hv1 (rL 8 rfl) dX4_treeRoads_5 (tgt := 21) (by decide) (fun c1 => ?_) (fun c1 => ?_)
    · have h := h.1 c1
      refine G_iconst dX4_treeRoads_21 ?_
      refine G_istore_n (lv' := [(1, aI (0)), (0, aR (40))]) rfl rfl (by decide) dX4_treeRoads_22 ?_
      refine G_iconst dX4_treeRoads_23 ?_
      refine G_istore_n (lv' := [(2, aI (1)), (1, aI (0)), (0, aR (40))]) rfl rfl (by decide) dX4_treeRoads_24 ?_
      exact G_pick [2, 1, 0] rfl (h (rL 0 rfl) (rL 1 rfl) hO)
    · have h := h.2 c1
      refine G_aload_n 0 rfl rfl dX4_treeRoads_8 ?_
      refine G_get (k := 5) (kd := (3, 4)) (v := aR (44)) gf_X4_21 rfl rfl rfl rfl dX4_treeRoads_9 ?_
      refine G_iload_n 1 rfl rfl dX4_treeRoads_12 ?_
      refine G_iload_n 1 rfl rfl dX4_treeRoads_13 ?_
      obtain ⟨c2, h⟩ := h
      obtain ⟨σ3, e5⟩ : ∃ τ : Mem, τ = mset σ 44 v1 v1 := ⟨_, rfl⟩
      have h := h σ3 e5
      have o4 : OKm σ3 := by rw [e5]; exact OKm.seti hO _ _ _ hv1 (isLg_row (show shp 44 = (1, 8, []) from rfl) _)
      refine G_iast (n := 8) rfl c2.1 c2.2 dX4_treeRoads_14 ?_
      rw [← e5]
      refine G_iinc (lv' := [(1, aI ((v1 + 1))), (0, aR (40))]) (k := 1) rfl rfl (by decide) dX4_treeRoads_15 ?_
      refine G_goto (tgt := 2) dX4_treeRoads_18 (by decide) ?_
      obtain ⟨c6, h⟩ := h
      exact G_pick [1, 0] rfl (h c6 o4)
  · intro v1 v2 σ h hv1 hv2 hO
    have h := h hv1 hv2 hO
    refine G_iload_n 2 rfl rfl dX4_treeRoads_25 ?_
    refine G_bipush (by decide) dX4_treeRoads_26 ?_
    refine G_icmp_gt hv2 (rL 9 rfl) dX4_treeRoads_28 (tgt := 91) (by decide) (fun c7 => ?_) (fun c7 => ?_)
    · have h := h.1 c7
      refine G_iload_n 1 rfl rfl dX4_treeRoads_91 ?_
      exact G_iret rfl hv1 dX4_treeRoads_92 ⟨_, rfl, h⟩ hO
    · have h := h.2 c7
      refine G_iconst dX4_treeRoads_31 ?_
      refine G_istore_n (lv' := [(3, aI (0)), (0, aR (40)), (1, aI (v1)), (2, aI (v2))]) rfl rfl (by decide) dX4_treeRoads_32 ?_
      exact G_pick [1, 2, 3, 0] rfl (h hv1 hv2 (rL 0 rfl) hO)
  · intro v1 v2 v3 σ h hv1 hv2 hv3 hO
    have h := h hv1 hv2 hv3 hO
    refine G_iload_n 3 rfl rfl dX4_treeRoads_33 ?_
    refine G_aload_n 0 rfl rfl dX4_treeRoads_34 ?_
    refine G_get (k := 0) (kd := (2, 1)) (v := aR 1) gf_X4_37 rfl rfl rfl rfl dX4_treeRoads_35 ?_
    refine G_get (k := 8) (kd := (0, 0)) (v := aI (σ 1 8)) gf_X4_50 rfl rfl rfl rfl dX4_treeRoads_38 ?_
    refine G_icmp_ge hv3 (OKm.i hO 1 8 rfl) dX4_treeRoads_41 (tgt := 85) (by decide) (fun c8 => ?_) (fun c8 => ?_)
    · have h := h.1 c8
      refine G_iinc (lv' := [(2, aI ((v2 + 1))), (0, aR (40)), (1, aI (v1)), (3, aI (v3))]) (k := 2) rfl rfl (by decide) dX4_treeRoads_85 ?_
      refine G_goto (tgt := 25) dX4_treeRoads_88 (by decide) ?_
      obtain ⟨c9, h⟩ := h
      exact G_pick [1, 2, 0] rfl (h hv1 c9 hO)
    · have h := h.2 c8
      refine G_aload_n 0 rfl rfl dX4_treeRoads_44 ?_
      refine G_get (k := 0) (kd := (2, 1)) (v := aR 1) gf_X4_37 rfl rfl rfl rfl dX4_treeRoads_45 ?_
      refine G_get (k := 2) (kd := (3, 3)) (v := aR (4)) gf_X4_77 rfl rfl rfl rfl dX4_treeRoads_48 ?_
      refine G_iload_n 3 rfl rfl dX4_treeRoads_51 ?_
      obtain ⟨c10, h⟩ := h
      refine G_iald (n := 16) rfl c10.1 c10.2 dX4_treeRoads_52 ?_
      refine G_iload_n 2 rfl rfl dX4_treeRoads_53 ?_
      refine G_icmp_ne (OKm.i hO 4 v3 (isLg_row (show shp 4 = (1, 16, []) from rfl) _)) hv2 dX4_treeRoads_54 (tgt := 79) (by decide) (fun c11 => ?_) (fun c11 => ?_)
      · have h := h.1 c11
        refine G_iinc (lv' := [(3, aI ((v3 + 1))), (0, aR (40)), (1, aI (v1)), (2, aI (v2))]) (k := 3) rfl rfl (by decide) dX4_treeRoads_79 ?_
        refine G_goto (tgt := 33) dX4_treeRoads_82 (by decide) ?_
        obtain ⟨c12, h⟩ := h
        exact G_pick [1, 2, 3, 0] rfl (h hv1 hv2 c12 hO)
      · have h := h.2 c11
        refine G_aload_n 0 rfl rfl dX4_treeRoads_57 ?_
        refine G_iload_n 3 rfl rfl dX4_treeRoads_58 ?_
        obtain ⟨c13, h⟩ := h
        refine G_callV (as := [_]) cf_X4_56 rfl rfl rfl (sp_X4_holds (d - 1) (by omega) _ hO _ hv3 c13) (by omega) rfl rfl (Nat.le_of_ble_eq_true rfl) dX4_treeRoads_59 ?_
        rintro _ _ ⟨_, rfl, rfl, rfl⟩ o15 r14
        refine G_if_eq (bI_R _) dX4_treeRoads_62 (tgt := 79) (by decide) (fun c16 => ?_) (fun c16 => ?_)
        · have h := h.1 ((bI_0 _).mp c16)
          refine G_iinc (lv' := [(3, aI ((v3 + 1))), (0, aR (40)), (1, aI (v1)), (2, aI (v2))]) (k := 3) rfl rfl (by decide) dX4_treeRoads_79 ?_
          refine G_goto (tgt := 33) dX4_treeRoads_82 (by decide) ?_
          obtain ⟨c17, h⟩ := h
          exact G_pick [1, 2, 3, 0] rfl (h hv1 hv2 c17 hO)
        · have h := h.2 (bI_ne c16)
          refine G_aload_n 0 rfl rfl dX4_treeRoads_65 ?_
          refine G_iload_n 3 rfl rfl dX4_treeRoads_66 ?_
          obtain ⟨g18, g19, g20, c21, h⟩ := h
          refine G_callV (as := [_]) cf_X4_103 rfl rfl rfl (sp_X4_joins (d - 1) (by omega) _ hO _ hv3 g18 g19 g20 c21) (by omega) rfl rfl (Nat.le_of_ble_eq_true rfl) dX4_treeRoads_67 ?_
          rintro _ σ24 ⟨u25, rfl, z26⟩ o23 r22
          have h := h _ _ (r22 _ rfl) o23 z26
          refine G_if_eq (r22 _ rfl) dX4_treeRoads_70 (tgt := 79) (by decide) (fun c27 => ?_) (fun c27 => ?_)
          · have h := h.1 c27
            refine G_iinc (lv' := [(3, aI ((v3 + 1))), (0, aR (40)), (1, aI (v1)), (2, aI (v2))]) (k := 3) rfl rfl (by decide) dX4_treeRoads_79 ?_
            refine G_goto (tgt := 33) dX4_treeRoads_82 (by decide) ?_
            obtain ⟨c28, h⟩ := h
            exact G_pick [1, 2, 3, 0] rfl (h hv1 hv2 c28 o23)
          · have h := h.2 c27
            refine G_iload_n 1 rfl rfl dX4_treeRoads_73 ?_
            refine G_iconst dX4_treeRoads_74 ?_
            refine G_iload_n 3 rfl rfl dX4_treeRoads_75 ?_
            refine G_ishl dX4_treeRoads_76 ?_
            refine G_ior dX4_treeRoads_77 ?_
            refine G_istore_n (lv' := [(1, aI ((bOr v1 (bShl 1 v3)))), (0, aR (40)), (2, aI (v2)), (3, aI (v3))]) rfl rfl (by decide) dX4_treeRoads_78 ?_
            refine G_iinc (lv' := [(3, aI ((v3 + 1))), (1, aI ((bOr v1 (bShl 1 v3)))), (0, aR (40)), (2, aI (v2))]) (k := 3) rfl rfl (by decide) dX4_treeRoads_79 ?_
            refine G_goto (tgt := 33) dX4_treeRoads_82 (by decide) ?_
            obtain ⟨c29, h⟩ := h
            exact G_pick [2, 1, 3, 0] rfl (h (r32_of _) hv2 c29 o23)

theorem sp_X4_treeRoads (d : Nat) (hd : 1 ≤ d) (σ : Mem) (hO : OKm σ) (A : Mem) (tx : Nat → Txt) (hpre : vwC σ A tx) : Mt yX4_treeRoads cX4_treeRoads 4 (some .int) d [aR (40)] σ (QI (fun v σ' => v = treeS A ∧ Fr [44] σ σ')) := mt_X4_treeRoads hd  hO (by
  unfold wp_X4_treeRoads
  intro P2 P25 P33 h2 h25 h33
  have hV := hpre
  have hI := hV.2.2.1
  have hc := hI.1
  have key : ∀ τ : Mem, Fr [44] σ τ → vwC τ A tx := fun τ hf => hV.fr (hf.wk (by simp))
  have H33 : ∀ (j : Nat), j < 9 → (∀ τ : Mem, grp τ A (trL A (j + 1)) → Fr [44] σ τ → R32 ((j : Int) + 1 + 1) ∧ P25 (trL A (j + 1)) ((j : Int) + 1 + 1) τ) → ∀ (n k : Nat) (τ : Mem), k + n = (A 10 0).toNat → grp τ A (trR A ((j : Int) + 1) (trL A j) k) → Fr [44] σ τ → P33 (trR A ((j : Int) + 1) (trL A j) k) ((j : Int) + 1) (k : Int) τ := by
    intro j hj hnext n
    induction n with
    | zero =>
      intro k τ hk hg hF
      have hk2 : k = (A 10 0).toNat := by omega
      subst hk2
      have e8 : τ 1 8 = A 10 0 := (key τ hF).1.1.1
      exact h33 _ _ _ _ (fun _ _ _ _ => ⟨fun _ => hnext τ hg hF, fun h => absurd h (by omega)⟩)
    | succ n ih =>
      intro k τ hk hg hF
      have hVt := key τ hF
      have e8 : τ 1 8 = A 10 0 := hVt.1.1.1
      have t1 := hVt.1.2.1 (k : Int) (by omega) (by omega)
      have n1 := hVt.2.1.2.1 (k : Int) (by omega) (by omega)
      have s4 : τ 4 (k : Int) = A 13 (k : Int) := t1.2.2.1
      have hok := trR_ok (L := (j : Int) + 1) hI (trL_ok hI j) k (by omega)
      have hsucc : trR A ((j : Int) + 1) (trL A j) (k + 1) = trStep A (trR A ((j : Int) + 1) (trL A j) k) ((j : Int) + 1) (k : Int) := rfl
      generalize hT : trR A ((j : Int) + 1) (trL A j) k = T at *
      have nx : ∀ (τ' : Mem) (T' : Int), T' = trStep A T ((j : Int) + 1) (k : Int) → grp τ' A T' → Fr [44] σ τ' → R32 ((k : Int) + 1) ∧ P33 T' ((j : Int) + 1) ((k : Int) + 1) τ' := fun τ' T' hT' hg' hF' => by
        have ih1 := ih (k + 1) τ' (by omega)
        rw [hsucc, ← hT'] at ih1
        exact ⟨by unfold R32; omega, ih1 hg' hF'⟩
      refine h33 _ _ _ _ (fun _ _ _ _ => ⟨fun h => absurd h (by omega), fun _ => ?_⟩)
      rw [s4, n1]
      refine ⟨by omega, fun h => nx τ T ?_ hg hF, fun h1 => ⟨by omega, fun h => nx τ T ?_ hg hF, fun h2 => ⟨A, tx, T, ⟨hVt, hg, hok.1, by omega⟩, ?_⟩⟩⟩
      · unfold trStep; rw [decide_eq_false h]; simp
      · unfold trStep
        have : netB A (k : Int) = false := decide_eq_false h
        rw [this]; simp
      · intro u σ1 hu hO1 ⟨eu, hg1, hF1⟩
        have hnb : netB A (k : Int) = true := decide_eq_true h2
        cases hb : rchB A (tbt T) (A 11 (k : Int)) (A 12 (k : Int)) with
        | true =>
          rw [hb, if_pos rfl] at eu hg1
          refine ⟨fun _ => nx σ1 T ?_ hg1 (hF.tr hF1), fun h => absurd eu h⟩
          unfold trStep; rw [hb]; simp
        | false =>
          rw [hb, if_neg (by simp)] at eu hg1
          refine ⟨fun h => absurd h (by omega), fun _ => nx σ1 _ ?_ hg1 (hF.tr hF1)⟩
          unfold trStep
          rw [hnb, decide_eq_true h1, hb]; rfl
  have H25 : ∀ (n j : Nat) (τ : Mem), j + n = 9 → grp τ A (trL A j) → Fr [44] σ τ → P25 (trL A j) ((j : Int) + 1) τ := by
    intro n
    induction n with
    | zero =>
      intro j τ hj hg hF
      have : j = 9 := by omega
      subst this
      exact h25 _ _ _ (fun _ _ _ => ⟨fun _ => ⟨rfl, hF⟩, fun h => absurd h (by omega)⟩)
    | succ n ih =>
      intro j τ hj hg hF
      refine h25 _ _ _ (fun _ _ _ => ⟨fun h => absurd h (by omega), fun _ => ?_⟩)
      exact H33 j (by omega) (fun τ' hg' hF' => ⟨by unfold R32; omega, by have := ih (j + 1) τ' (by omega) hg' hF'; rw [show ((j + 1 : Nat) : Int) = (j : Int) + 1 by omega] at this; exact this⟩) _ 0 τ (Nat.zero_add _) hg hF
  have H2 : ∀ (n k : Nat) (τ : Mem), k + n = 8 → (∀ t : Int, 0 ≤ t → t < k → τ 44 t = t) → Fr [44] σ τ → P2 (k : Int) τ := by
    intro n
    induction n with
    | zero =>
      intro k τ hk ht hF
      refine h2 _ _ (fun _ _ => ⟨fun _ => H25 9 0 τ (by omega) (fun x y x0 x7 y0 y7 => ?_) hF, fun h => absurd h (by omega)⟩)
      rw [ht x x0 (by omega), ht y y0 (by omega)]
      constructor
      · intro h; rw [h]; exact rch.rf _
      · exact fun h => rch_0 h
    | succ n ih =>
      intro k τ hk ht hF
      refine h2 _ _ (fun _ _ => ⟨fun h => absurd h (by omega), fun _ => ⟨by omega, fun σ3 e3 => ⟨by unfold R32; omega, ih (k + 1) σ3 (by omega) (fun t t0 t1 => ?_) (by rw [e3]; exact hF.set (by simp))⟩⟩⟩)
      by_cases e : t = k
      · subst e; rw [e3, mset_hit rfl]
      · rw [e3, mset_miss e]; exact ht t t0 (by omega)
  exact H2 8 0 σ (by omega) (fun t t0 t1 => by omega) (Fr.rf _ _))

noncomputable def treeQ (A : Mem) (w : Int) : Int := if w = 0 then lenS A (treeS A) else treeS A

def wp_X11_tree (x1 : Int) (σ : Mem) (Q : Int → Mem → Prop) : Prop :=
  ∃ g1 : Mem, ∃ g2 : Nat → Txt, (vwC σ g1 g2) ∧
   ∀ (u7 : Int) (σ6 : Mem), R32 u7 → OKm σ6 → (u7 = treeS g1 ∧ Fr [44] σ σ6) →
   ((x1 = 0) →
    ∃ g10 : Mem, ∃ g11 : Nat → Txt, (vwC σ6 g10 g11 ∧ (0 ≤ u7 ∧ u7 < 65536)) ∧
    ∀ (u16 : Int) (σ15 : Mem), R32 u16 → OKm σ15 → (u16 = lenS g10 u7 ∧ σ15 = σ6) →
    Q u16 σ15) ∧
   ((x1 ≠ 0) →
    Q u7 σ6)
theorem mt_X11_tree {d : Nat} (hd : 2 ≤ d) {x1 : Int} {σ : Mem} {Q : Int → Mem → Prop} (hx1 : R32 x1) (hO : OKm σ) (h : wp_X11_tree x1 σ Q) : Mt yX11_tree cX11_tree 3 (some .int) d [aR (0), aI (x1)] σ (QI Q) := by
  refine Mt.intro (by decide +kernel) (Nat.le_of_ble_eq_true rfl) [(0, aR (0)), (1, aI (x1))] rfl ?_
  unfold wp_X11_tree at h
  refine G_aload_n 0 rfl rfl dX11_tree_0 ?_
  refine G_get (k := 11) (kd := (2, 40)) (v := aR 40) gf_X11_85 rfl rfl rfl rfl dX11_tree_1 ?_
  obtain ⟨g1, g2, c3, h⟩ := h
  refine G_callV (as := []) cf_X11_270 rfl rfl rfl (sp_X4_treeRoads (d - 1) (by omega) _ hO  g1 g2 c3) (by omega) rfl rfl (Nat.le_of_ble_eq_true rfl) dX11_tree_4 ?_
  rintro _ σ6 ⟨u7, rfl, z8⟩ o5 r4
  have h := h _ _ (r4 _ rfl) o5 z8
  refine G_istore_n (lv' := [(2, aI (u7)), (0, aR (0)), (1, aI (x1))]) rfl rfl (by decide) dX11_tree_7 ?_
  refine G_iload_n 2 rfl rfl dX11_tree_8 ?_
  refine G_if_eq hx1 dX11_tree_9 (tgt := 16) (by decide) (fun c9 => ?_) (fun c9 => ?_)
  · have h := h.1 c9
    refine G_aload_n 1 rfl rfl dX11_tree_16 ?_
    refine G_get (k := 11) (kd := (2, 40)) (v := aR 40) gf_X11_85 rfl rfl rfl rfl dX11_tree_17 ?_
    refine G_iload_n 0 rfl rfl dX11_tree_20 ?_
    obtain ⟨g10, g11, c12, h⟩ := h
    refine G_callV (as := [_]) cf_X11_273 rfl rfl rfl (sp_X4_lengthOf (d - 1) (by omega) _ o5 _ (r4 _ rfl) g10 g11 c12) (by omega) rfl rfl (Nat.le_of_ble_eq_true rfl) dX11_tree_21 ?_
    rintro _ σ15 ⟨u16, rfl, z17⟩ o14 r13
    have h := h _ _ (r13 _ rfl) o14 z17
    exact G_iret rfl (r13 _ rfl) dX11_tree_24 ⟨_, rfl, h⟩ o14
  · have h := h.2 c9
    refine G_iload_n 0 rfl rfl dX11_tree_12 ?_
    refine G_goto (tgt := 24) dX11_tree_13 (by decide) ?_
    exact G_iret rfl (r4 _ rfl) dX11_tree_24 ⟨_, rfl, h⟩ o5

theorem sp_X11_tree (d : Nat) (hd : 2 ≤ d) (σ : Mem) (hO : OKm σ) (x1 : Int) (hx1 : R32 x1) (A : Mem) (tx : Nat → Txt) (hpre : vwC σ A tx) : Mt yX11_tree cX11_tree 3 (some .int) d [aR (0), aI (x1)] σ (QI (fun v σ' => v = treeQ A x1 ∧ Fr ScrC σ σ')) := mt_X11_tree hd hx1 hO (by
  unfold wp_X11_tree
  have hV := hpre
  refine ⟨A, tx, hV, ?_⟩
  intro u σ1 hu hO1 ⟨eu, hF⟩
  have hV1 : vwC σ1 A tx := hV.fr (hF.wk (by simp))
  have hok := trL_ok hV.2.2.1 9
  unfold treeQ
  refine ⟨fun h => ⟨A, tx, ⟨hV1, by rw [eu]; exact hok.1⟩, ?_⟩, fun h => ⟨by rw [if_neg h]; exact eu, hF.wk (by simp)⟩⟩
  intro u2 σ2 hu2 hO2 ⟨eu2, e2⟩
  subst e2
  exact ⟨by rw [if_pos h, ← eu]; exact eu2, hF.wk (by simp)⟩)

def wp_X12_tree (x1 : Int) (σ : Mem) (Q : Int → Mem → Prop) : Prop :=
 ∀ P7 : Int → Int → Int → Int → Mem → Prop,
 ∀ P17 : Int → Int → Int → Int → Int → Mem → Prop,
 (∀ (v1 : Int) (v2 : Int) (v3 : Int) (v4 : Int) (σ : Mem), (R32 v1 → R32 v2 → R32 v3 → R32 v4 → OKm σ →
   ((10 ≤ v4) →
     ((v1 = 0) →
      Q v3 σ) ∧
     ((v1 ≠ 0) →
      Q v2 σ)) ∧
    ((v4 < 10) →
     P17 v1 v2 v3 v4 0 σ)) → P7 v1 v2 v3 v4 σ) →
 (∀ (v1 : Int) (v2 : Int) (v3 : Int) (v4 : Int) (v5 : Int) (σ : Mem), (R32 v1 → R32 v2 → R32 v3 → R32 v4 → R32 v5 → OKm σ →
   (((σ 75 0) ≤ v5) →
     R32 (v4 + 1) ∧ P7 v1 v2 v3 (v4 + 1) σ) ∧
    ((v5 < (σ 75 0)) →
     (0 ≤ v5 ∧ v5 < 16) ∧
     ((¬ (0 < σ 75 (11 + v5))) →
      R32 (v5 + 1) ∧ P17 v1 v2 v3 v4 (v5 + 1) σ) ∧
     ((0 < σ 75 (11 + v5)) →
      (0 ≤ v5 ∧ v5 < 16 ∧ 0 ≤ (2 : Int) ∧ (2 : Int) < 4) ∧
      (((σ 75 (39 + 4 * v5 + (2 : Int))) ≠ v4) →
       R32 (v5 + 1) ∧ P17 v1 v2 v3 v4 (v5 + 1) σ) ∧
      (((σ 75 (39 + 4 * v5 + (2 : Int))) = v4) →
       (0 ≤ v5 ∧ v5 < 16 ∧ 0 ≤ (0 : Int) ∧ (0 : Int) < 4) ∧
       ∃ g18 : Mem, ∃ g19 : Nat → Txt, (vwM σ g18 g19 ∧ (0 ≤ (σ 75 (39 + 4 * v5 + (0 : Int))) ∧ (σ 75 (39 + 4 * v5 + (0 : Int))) ≤ 7) ∧ (0 ≤ v2 ∧ v2 < 65536)) ∧
       ∀ (u24 : Int) (σ23 : Mem), R32 u24 → OKm σ23 → (u24 = comeS g18 (tbt v2) (σ 75 (39 + 4 * v5 + (0 : Int))) ∧ σ23 = σ) →
       (0 ≤ v5 ∧ v5 < 16 ∧ 0 ≤ (1 : Int) ∧ (1 : Int) < 4) ∧
       ((0 ≤ u24 ∧ u24 < 2147483648) ∧ (0 ≤ (σ23 75 (39 + 4 * v5 + (1 : Int))) ∧ (σ23 75 (39 + 4 * v5 + (1 : Int))) < 31)) ∧
       ((¬ ((u24).toNat.testBit ((σ23 75 (39 + 4 * v5 + (1 : Int)))).toNat = true)) →
        R32 (v3 + v4) ∧ R32 (v5 + 1) ∧ P17 v1 (bOr v2 (bShl 1 v5)) (v3 + v4) v4 (v5 + 1) σ23) ∧
       (((u24).toNat.testBit ((σ23 75 (39 + 4 * v5 + (1 : Int)))).toNat = true) →
        R32 (v5 + 1) ∧ P17 v1 v2 v3 v4 (v5 + 1) σ23))))) → P17 v1 v2 v3 v4 v5 σ) →
  P7 x1 0 0 1 σ
theorem mt_X12_tree {d : Nat} (hd : 2 ≤ d) {x1 : Int} {σ : Mem} {Q : Int → Mem → Prop} (hx1 : R32 x1) (hO : OKm σ) (h : wp_X12_tree x1 σ Q) : Mt yX12_tree cX12_tree 6 (some .int) d [aR (74), aI (x1)] σ (QI Q) := by
  refine Mt.intro (by decide +kernel) (Nat.le_of_ble_eq_true rfl) [(0, aR (74)), (1, aI (x1))] rfl ?_
  unfold wp_X12_tree at h
  have h := h (fun (v1 : Int) (v2 : Int) (v3 : Int) (v4 : Int) (σ : Mem) => R32 v1 → R32 v2 → R32 v3 → R32 v4 → OKm σ → G yX12_tree cX12_tree 6 (some .int) d (QI Q) 7 [(0, aR (74)), (1, aI (v1)), (2, aI (v2)), (3, aI (v3)), (4, aI (v4))] [] σ)
    (fun (v1 : Int) (v2 : Int) (v3 : Int) (v4 : Int) (v5 : Int) (σ : Mem) => R32 v1 → R32 v2 → R32 v3 → R32 v4 → R32 v5 → OKm σ → G yX12_tree cX12_tree 6 (some .int) d (QI Q) 17 [(0, aR (74)), (1, aI (v1)), (2, aI (v2)), (3, aI (v3)), (4, aI (v4)), (5, aI (v5))] [] σ) ?_ ?_
  · refine G_iconst dX12_tree_0 ?_
    refine G_istore_n (lv' := [(2, aI (0)), (0, aR (74)), (1, aI (x1))]) rfl rfl (by decide) dX12_tree_1 ?_
    refine G_iconst dX12_tree_2 ?_
    refine G_istore_n (lv' := [(3, aI (0)), (2, aI (0)), (0, aR (74)), (1, aI (x1))]) rfl rfl (by decide) dX12_tree_3 ?_
    refine G_iconst dX12_tree_4 ?_
    refine G_istore (lv' := [(4, aI (1)), (3, aI (0)), (2, aI (0)), (0, aR (74)), (1, aI (x1))]) rfl (by decide) dX12_tree_5 ?_
    exact G_pick [3, 4, 2, 1, 0] rfl (h hx1 (rL 0 rfl) (rL 0 rfl) (rL 1 rfl) hO)
  · intro v1 v2 v3 v4 σ h hv1 hv2 hv3 hv4 hO
    have h := h hv1 hv2 hv3 hv4 hO
    refine G_iload 4 rfl dX12_tree_7 ?_
    refine G_bipush (by decide) dX12_tree_9 ?_
    refine G_icmp_ge hv4 (rL 10 rfl) dX12_tree_11 (tgt := 101) (by decide) (fun c1 => ?_) (fun c1 => ?_)
    · have h := h.1 c1
      refine G_iload_n 1 rfl rfl dX12_tree_101 ?_
      refine G_if_eq hv1 dX12_tree_102 (tgt := 109) (by decide) (fun c2 => ?_) (fun c2 => ?_)
      · have h := h.1 c2
        refine G_iload_n 3 rfl rfl dX12_tree_109 ?_
        exact G_iret rfl hv3 dX12_tree_110 ⟨_, rfl, h⟩ hO
      · have h := h.2 c2
        refine G_iload_n 2 rfl rfl dX12_tree_105 ?_
        refine G_goto (tgt := 110) dX12_tree_106 (by decide) ?_
        exact G_iret rfl hv2 dX12_tree_110 ⟨_, rfl, h⟩ hO
    · have h := h.2 c1
      refine G_iconst dX12_tree_14 ?_
      refine G_istore (lv' := [(5, aI (0)), (0, aR (74)), (1, aI (v1)), (2, aI (v2)), (3, aI (v3)), (4, aI (v4))]) rfl (by decide) dX12_tree_15 ?_
      exact G_pick [1, 2, 3, 4, 5, 0] rfl (h hv1 hv2 hv3 hv4 (rL 0 rfl) hO)
  · intro v1 v2 v3 v4 v5 σ h hv1 hv2 hv3 hv4 hv5 hO
    have h := h hv1 hv2 hv3 hv4 hv5 hO
    refine G_iload 5 rfl dX12_tree_17 ?_
    refine G_aload_n 0 rfl rfl dX12_tree_19 ?_
    refine G_get (k := 0) (kd := (2, 75)) (v := aR 75) gf_X12_7 rfl rfl rfl rfl dX12_tree_20 ?_
    refine G_iconst dX12_tree_23 ?_
    refine G_iald (n := 2119) rfl (by decide) (by decide) dX12_tree_24 ?_
    refine G_icmp_ge hv5 (OKm.i hO 75 0 (isLg_row (show shp 75 = (1, 2119, []) from rfl) _)) dX12_tree_25 (tgt := 95) (by decide) (fun c3 => ?_) (fun c3 => ?_)
    · have h := h.1 c3
      refine G_iinc (lv' := [(4, aI ((v4 + 1))), (0, aR (74)), (1, aI (v1)), (2, aI (v2)), (3, aI (v3)), (5, aI (v5))]) (k := 4) rfl rfl (by decide) dX12_tree_95 ?_
      refine G_goto (tgt := 7) dX12_tree_98 (by decide) ?_
      obtain ⟨c4, h⟩ := h
      exact G_pick [1, 2, 3, 4, 0] rfl (h hv1 hv2 hv3 c4 hO)
    · have h := h.2 c3
      refine G_aload_n 0 rfl rfl dX12_tree_28 ?_
      refine G_iload 5 rfl dX12_tree_29 ?_
      obtain ⟨c5, h⟩ := h
      refine G_callV (as := [_]) cf_X12_431 rfl rfl rfl (sp_X12_isNet (d - 1) (by omega) _ hO _ hv5 c5) (by omega) rfl rfl (Nat.le_of_ble_eq_true rfl) dX12_tree_31 ?_
      rintro _ _ ⟨_, rfl, rfl, rfl⟩ o7 r6
      refine G_if_eq (bI_R _) dX12_tree_34 (tgt := 89) (by decide) (fun c8 => ?_) (fun c8 => ?_)
      · have h := h.1 ((bI_0 _).mp c8)
        refine G_iinc (lv' := [(5, aI ((v5 + 1))), (0, aR (74)), (1, aI (v1)), (2, aI (v2)), (3, aI (v3)), (4, aI (v4))]) (k := 5) rfl rfl (by decide) dX12_tree_89 ?_
        refine G_goto (tgt := 17) dX12_tree_92 (by decide) ?_
        obtain ⟨c9, h⟩ := h
        exact G_pick [1, 2, 3, 4, 5, 0] rfl (h hv1 hv2 hv3 hv4 c9 hO)
      · have h := h.2 (bI_ne c8)
        refine G_aload_n 0 rfl rfl dX12_tree_37 ?_
        refine G_iload 5 rfl dX12_tree_38 ?_
        refine G_iconst dX12_tree_40 ?_
        obtain ⟨c10, h⟩ := h
        refine G_callV (as := [_, _]) cf_X12_85 rfl rfl rfl (sp_X12_told (d - 1) (by omega) _ hO _ hv5 _ (rL 2 rfl) c10) (by omega) rfl rfl (Nat.le_of_ble_eq_true rfl) dX12_tree_41 ?_
        rintro _ _ ⟨_, rfl, rfl, rfl⟩ o12 r11
        refine G_iload 4 rfl dX12_tree_44 ?_
        refine G_icmp_ne (r11 _ rfl) hv4 dX12_tree_46 (tgt := 89) (by decide) (fun c13 => ?_) (fun c13 => ?_)
        · have h := h.1 c13
          refine G_iinc (lv' := [(5, aI ((v5 + 1))), (0, aR (74)), (1, aI (v1)), (2, aI (v2)), (3, aI (v3)), (4, aI (v4))]) (k := 5) rfl rfl (by decide) dX12_tree_89 ?_
          refine G_goto (tgt := 17) dX12_tree_92 (by decide) ?_
          obtain ⟨c14, h⟩ := h
          exact G_pick [1, 2, 3, 4, 5, 0] rfl (h hv1 hv2 hv3 hv4 c14 hO)
        · have h := h.2 c13
          refine G_aload_n 0 rfl rfl dX12_tree_49 ?_
          refine G_aload_n 0 rfl rfl dX12_tree_50 ?_
          refine G_iload 5 rfl dX12_tree_51 ?_
          refine G_iconst dX12_tree_53 ?_
          obtain ⟨c15, h⟩ := h
          refine G_callV (as := [_, _]) cf_X12_85 rfl rfl rfl (sp_X12_told (d - 1) (by omega) _ hO _ hv5 _ (rL 0 rfl) c15) (by omega) rfl rfl (Nat.le_of_ble_eq_true rfl) dX12_tree_54 ?_
          rintro _ _ ⟨_, rfl, rfl, rfl⟩ o17 r16
          refine G_iload_n 2 rfl rfl dX12_tree_57 ?_
          obtain ⟨g18, g19, c20, h⟩ := h
          refine G_callV (as := [_, _]) cf_X12_434 rfl rfl rfl (sp_X12_comeTo (d - 1) (by omega) _ hO _ (r16 _ rfl) _ hv2 g18 g19 c20) (by omega) rfl rfl (Nat.le_of_ble_eq_true rfl) dX12_tree_58 ?_
          rintro _ σ23 ⟨u24, rfl, z25⟩ o22 r21
          have h := h _ _ (r21 _ rfl) o22 z25
          refine G_aload_n 0 rfl rfl dX12_tree_61 ?_
          refine G_iload 5 rfl dX12_tree_62 ?_
          refine G_iconst dX12_tree_64 ?_
          obtain ⟨c26, h⟩ := h
          refine G_callV (as := [_, _]) cf_X12_85 rfl rfl rfl (sp_X12_told (d - 1) (by omega) _ o22 _ hv5 _ (rL 1 rfl) c26) (by omega) rfl rfl (Nat.le_of_ble_eq_true rfl) dX12_tree_65 ?_
          rintro _ _ ⟨_, rfl, rfl, rfl⟩ o28 r27
          obtain ⟨c29, h⟩ := h
          refine G_callS (as := [_, _]) cf_X12_258 rfl (sp_X12_has (d - 1) (by omega) _ o22 _ (r21 _ rfl) _ (r27 _ rfl) c29) (by omega) rfl rfl (Nat.le_of_ble_eq_true rfl) dX12_tree_68 ?_
          rintro _ _ ⟨_, rfl, rfl, rfl⟩ o31 r30
          refine G_if_eq (bI_R _) dX12_tree_71 (tgt := 77) (by decide) (fun c32 => ?_) (fun c32 => ?_)
          · have h := h.1 ((bI_0 _).mp c32)
            refine G_iload_n 2 rfl rfl dX12_tree_77 ?_
            refine G_iconst dX12_tree_78 ?_
            refine G_iload 5 rfl dX12_tree_79 ?_
            refine G_ishl dX12_tree_81 ?_
            refine G_ior dX12_tree_82 ?_
            refine G_istore_n (lv' := [(2, aI ((bOr v2 (bShl 1 v5)))), (0, aR (74)), (1, aI (v1)), (3, aI (v3)), (4, aI (v4)), (5, aI (v5))]) rfl rfl (by decide) dX12_tree_83 ?_
            refine G_iload_n 3 rfl rfl dX12_tree_84 ?_
            refine G_iload 4 rfl dX12_tree_85 ?_
            refine G_iadd dX12_tree_87 ?_
            refine G_istore_n (lv' := [(3, aI ((v3 + v4))), (2, aI ((bOr v2 (bShl 1 v5)))), (0, aR (74)), (1, aI (v1)), (4, aI (v4)), (5, aI (v5))]) rfl rfl (by decide) dX12_tree_88 ?_
            refine G_iinc (lv' := [(5, aI ((v5 + 1))), (3, aI ((v3 + v4))), (2, aI ((bOr v2 (bShl 1 v5)))), (0, aR (74)), (1, aI (v1)), (4, aI (v4))]) (k := 5) rfl rfl (by decide) dX12_tree_89 ?_
            refine G_goto (tgt := 17) dX12_tree_92 (by decide) ?_
            obtain ⟨c33, h⟩ := h
            obtain ⟨c34, h⟩ := h
            exact G_pick [3, 4, 2, 1, 5, 0] rfl (h hv1 (r32_of _) c33 hv4 c34 o22)
          · have h := h.2 (bI_ne c32)
            refine G_goto (tgt := 89) dX12_tree_74 (by decide) ?_
            refine G_iinc (lv' := [(5, aI ((v5 + 1))), (0, aR (74)), (1, aI (v1)), (2, aI (v2)), (3, aI (v3)), (4, aI (v4))]) (k := 5) rfl rfl (by decide) dX12_tree_89 ?_
            refine G_goto (tgt := 17) dX12_tree_92 (by decide) ?_
            obtain ⟨c35, h⟩ := h
            exact G_pick [1, 2, 3, 4, 5, 0] rfl (h hv1 hv2 hv3 hv4 c35 o22)

theorem sp_X12_tree (d : Nat) (hd : 2 ≤ d) (σ : Mem) (hO : OKm σ) (x1 : Int) (hx1 : R32 x1) (A : Mem) (tx : Nat → Txt) (hpre : vwM σ A tx) : Mt yX12_tree cX12_tree 6 (some .int) d [aR (74), aI (x1)] σ (QI (fun v σ' => v = treeQ A x1 ∧ σ' = σ)) := mt_X12_tree hd hx1 hO (by
  unfold wp_X12_tree
  intro P7 P17 h7 h17
  have hV := hpre
  have hI := hV.2.2.1
  have hc := hI.1
  have e0 : σ 75 0 = A 10 0 := hV.1.1.1
  have hlr : ∀ T : Int, 0 ≤ lenS A T ∧ lenS A T ≤ 144 := fun T => by have := lenN_r (T := T) hI (A 10 0).toNat (by omega); unfold lenS; omega
  have H17 : ∀ (j : Nat), j < 9 → (R32 ((j : Int) + 1 + 1) ∧ P7 x1 (trL A (j + 1)) (lenS A (trL A (j + 1))) ((j : Int) + 1 + 1) σ) → ∀ (n k : Nat), k + n = (A 10 0).toNat → P17 x1 (trR A ((j : Int) + 1) (trL A j) k) (lenS A (trR A ((j : Int) + 1) (trL A j) k)) ((j : Int) + 1) (k : Int) σ := by
    intro j hj hnext n
    induction n with
    | zero =>
      intro k hk
      have hk2 : k = (A 10 0).toNat := by omega
      subst hk2
      exact h17 _ _ _ _ _ _ (fun _ _ _ _ _ _ => ⟨fun _ => hnext, fun h => absurd h (by omega)⟩)
    | succ n ih =>
      intro k hk
      have ih1 := ih (k + 1) (by omega)
      have t1 := hV.1.2.1 (k : Int) (by omega) (by omega)
      have n1 := hV.2.1.2.1 (k : Int) (by omega) (by omega)
      have s0 : σ 75 (39 + 4 * (k : Int) + 0) = A 11 (k : Int) := by rw [Int.add_zero]; exact t1.1
      have s1 : σ 75 (39 + 4 * (k : Int) + 1) = A 12 (k : Int) := t1.2.1
      have s2 : σ 75 (39 + 4 * (k : Int) + 2) = A 13 (k : Int) := t1.2.2.1
      have hl := hI.2.1 (k : Int) (by omega) (by omega)
      have hok := trR_ok (L := (j : Int) + 1) hI (trL_ok hI j) k (by omega)
      have hsucc : trR A ((j : Int) + 1) (trL A j) (k + 1) = trStep A (trR A ((j : Int) + 1) (trL A j) k) ((j : Int) + 1) (k : Int) := rfl
      rw [hsucc] at ih1
      generalize hT : trR A ((j : Int) + 1) (trL A j) k = T at *
      have same : trStep A T ((j : Int) + 1) (k : Int) = T → R32 ((k : Int) + 1) ∧ P17 x1 T (lenS A T) ((j : Int) + 1) ((k : Int) + 1) σ := fun h => by
        rw [h] at ih1; exact ⟨by unfold R32; omega, ih1⟩
      refine h17 _ _ _ _ _ _ (fun _ _ _ _ _ _ => ⟨fun h => absurd h (by omega), fun _ => ?_⟩)
      rw [n1, s0, s2]
      refine ⟨by omega, fun h => same ?_, fun h2 => ⟨by omega, fun h => same ?_, fun h1 => ⟨by omega, A, tx, ⟨hV, by omega, hok.1⟩, ?_⟩⟩⟩
      · unfold trStep
        have : netB A (k : Int) = false := decide_eq_false h
        rw [this]; simp
      · unfold trStep; rw [decide_eq_false h]; simp
      · intro u24 σ23 hu24 hO23 ⟨eu24, e23⟩
        subst e23
        rw [s1]
        have hc8 : 0 ≤ u24 ∧ u24 < 256 := by rw [eu24]; exact b8 _
        have hbit : u24.toNat.testBit (A 12 (k : Int)).toNat = rchB A (tbt T) (A 11 (k : Int)) (A 12 (k : Int)) := by
          rw [eu24]; exact comeS_bit (by omega)
        have hnb : netB A (k : Int) = true := decide_eq_true h2
        rw [hbit]
        refine ⟨by omega, by omega, fun h => ?_, fun h => same ?_⟩
        · rw [Bool.not_eq_true] at h
          have est : trStep A T ((j : Int) + 1) (k : Int) = bOr T (bShl 1 (k : Int)) := by unfold trStep; rw [hnb, decide_eq_true h1, h]; rfl
          have hno := no_edge (A := A) (T := T) (r := (k : Int)) (by omega) h
          have el : lenS A (bOr T (bShl 1 (k : Int))) = lenS A T + ((j : Int) + 1) := by
            unfold lenS
            rw [lenN_add hok.1 (by omega) hno, if_pos (by omega), h1]
          rw [est, el] at ih1
          have := hlr T
          exact ⟨by unfold R32; omega, by unfold R32; omega, ih1⟩
        · unfold trStep; rw [h]; simp
  have H7 : ∀ (n j : Nat), j + n = 9 → P7 x1 (trL A j) (lenS A (trL A j)) ((j : Int) + 1) σ := by
    intro n
    induction n with
    | zero =>
      intro j hj
      have : j = 9 := by omega
      subst this
      unfold treeQ at h7
      exact h7 _ _ _ _ _ (fun _ _ _ _ _ => ⟨fun _ => ⟨fun h => ⟨by rw [if_pos h]; rfl, rfl⟩, fun h => ⟨by rw [if_neg h]; rfl, rfl⟩⟩, fun h => absurd h (by omega)⟩)
    | succ n ih =>
      intro j hj
      refine h7 _ _ _ _ _ (fun _ _ _ _ _ => ⟨fun h => absurd h (by omega), fun _ => ?_⟩)
      have := ih (j + 1) (by omega)
      rw [show ((j + 1 : Nat) : Int) = (j : Int) + 1 by omega] at this
      exact H17 j (by omega) ⟨by unfold R32; omega, this⟩ _ 0 (Nat.zero_add _)
  have l0 : lenS A 0 = 0 := by
    have : ∀ n : Nat, lenN A 0 n = 0 := by
      intro n
      induction n with
      | zero => rfl
      | succ n ih => unfold lenN; rw [ih]; unfold tbt; simp
    exact this _
  have := H7 9 0 (by omega)
  rw [show trL A 0 = 0 from rfl, l0] at this
  exact this)
