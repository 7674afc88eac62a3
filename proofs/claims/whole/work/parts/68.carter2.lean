theorem bAnd_1 {x : Int} (h : 0 ≤ x ∧ x < 65536) : bAnd x 1 = x % 2 := by
  have := bAnd_mod (x := x) 1 h.1 (by omega) (by omega)
  rw [show (2 : Int) ^ 1 - 1 = 1 from rfl, show (2 : Int) ^ 1 = 2 from rfl] at this
  exact this
theorem bShl_0 {k : Int} (hk : 0 ≤ k ∧ k < 31) : bShl 0 k = 0 := by
  have := bShl_i (x := 0) k.toNat (by omega) (by omega) (by omega)
  rw [show ((k.toNat : Nat) : Int) = k by omega] at this
  rw [this]; omega

def wp_X4_carterMiles (x1 : Int) (σ : Mem) (Q : Int → Mem → Prop) : Prop :=
 ∀ P22 : Int → Int → Mem → Prop,
 ∀ P68 : Int → Int → Int → Mem → Prop,
 (∀ (v2 : Int) (v3 : Int) (σ : Mem), (R32 v2 → R32 v3 → OKm σ →
   (((σ 1 8) ≤ v3) →
     P68 v2 0 0 σ) ∧
    ((v3 < (σ 1 8)) →
     (0 ≤ v3 ∧ v3 < 16) ∧
     ((¬ (0 < σ 11 v3)) →
      R32 (v2 + 0) ∧ R32 (v3 + 1) ∧ P22 (v2 + 0) (v3 + 1) σ) ∧
     ((0 < σ 11 v3) →
      (0 ≤ v3 ∧ v3 < 16) ∧
      R32 (v2 + (σ 4 v3)) ∧ R32 (v3 + 1) ∧ P22 (v2 + (σ 4 v3)) (v3 + 1) σ))) → P22 v2 v3 σ) →
 (∀ (v2 : Int) (v3 : Int) (v4 : Int) (σ : Mem), (R32 v2 → R32 v3 → R32 v4 → OKm σ →
   ((8 ≤ v4) →
     ∃ g30 : Mem, ∃ g31 : Nat → Txt, (vwC σ g30 g31 ∧ (0 ≤ v3 ∧ v3 < 256)) ∧
     ∀ (u36 : Int) (σ35 : Mem), R32 u36 → OKm σ35 → (u36 = prF g30 (v3).toNat ∧ Fr [41, 42, 46] σ σ35) →
     R32 (v2 + u36) ∧
     Q (v2 + u36) σ35) ∧
    ((v4 < 8) →
     ∃ g39 : Mem, ∃ g40 : Nat → Txt, (vwC σ g39 g40) ∧
     ∀ (u45 : Int) (σ44 : Mem), R32 u45 → OKm σ44 → (u45 = degS g39 v4 ∧ σ44 = σ) →
     ∀ y47 : Int, y47 = (bOr v3 (bShl (bAnd u45 1) v4)) →
     R32 (v4 + 1) ∧ P68 v2 y47 (v4 + 1) σ44)) → P68 v2 v3 v4 σ) →
  ∃ g1 : Mem, ∃ g2 : Nat → Txt, (vwC σ g1 g2) ∧
   ∀ (u7 : Int) (σ6 : Mem), R32 u7 → OKm σ6 → (u7 = degS g1 x1 ∧ σ6 = σ) →
   ((u7 = 0) →
    Q (-1) σ6) ∧
   ((u7 ≠ 0) →
    ∃ g10 : Mem, ∃ g11 : Nat → Txt, (vwC σ6 g10 g11) ∧
    ∀ (u16 : Int) (σ15 : Mem), R32 u16 → OKm σ15 → (u16 = pieS g10 ∧ Fr [44] σ6 σ15) →
    ((u16 = 1) →
     P22 0 0 σ15) ∧
    ((u16 ≠ 1) →
     Q (-1) σ15))
theorem mt_X4_carterMiles {d : Nat} (hd : 3 ≤ d) {x1 : Int} {σ : Mem} {Q : Int → Mem → Prop} (hx1 : R32 x1) (hO : OKm σ) (h : wp_X4_carterMiles x1 σ Q) : Mt yX4_carterMiles cX4_carterMiles 5 (some .int) d [aR (40), aI (x1)] σ (QI Q) := by
  refine Mt.intro (by decide +kernel) (Nat.le_of_ble_eq_true rfl) [(0, aR (40)), (1, aI (x1))] rfl ?_
  unfold wp_X4_carterMiles at h
  have h := h (fun (v2 : Int) (v3 : Int) (σ : Mem) => R32 v2 → R32 v3 → OKm σ → G yX4_carterMiles cX4_carterMiles 5 (some .int) d (QI Q) 22 [(0, aR (40)), (2, aI (v2)), (3, aI (v3))] [] σ)
    (fun (v2 : Int) (v3 : Int) (v4 : Int) (σ : Mem) => R32 v2 → R32 v3 → R32 v4 → OKm σ → G yX4_carterMiles cX4_carterMiles 5 (some .int) d (QI Q) 68 [(0, aR (40)), (2, aI (v2)), (3, aI (v3)), (4, aI (v4))] [] σ) ?_ ?_
  · refine G_aload_n 0 rfl rfl dX4_carterMiles_0 ?_
    refine G_iload_n 1 rfl rfl dX4_carterMiles_1 ?_
    obtain ⟨g1, g2, c3, h⟩ := h
    refine G_callV (as := [_]) cf_X4_106 rfl rfl rfl (sp_X4_roadsAt (d - 1) (by omega) _ hO _ hx1 g1 g2 c3) (by omega) rfl rfl (Nat.le_of_ble_eq_true rfl) dX4_carterMiles_2 ?_
    rintro _ σ6 ⟨u7, rfl, z8⟩ o5 r4
    have h := h _ _ (r4 _ rfl) o5 z8
    refine G_if_eq (r4 _ rfl) dX4_carterMiles_5 (tgt := 16) (by decide) (fun c9 => ?_) (fun c9 => ?_)
    · have h := h.1 c9
      refine G_iconst dX4_carterMiles_16 ?_
      exact G_iret rfl (rL (-1) rfl) dX4_carterMiles_17 ⟨_, rfl, h⟩ o5
    · have h := h.2 c9
      refine G_aload_n 0 rfl rfl dX4_carterMiles_8 ?_
      obtain ⟨g10, g11, c12, h⟩ := h
      refine G_callV (as := []) cf_X4_118 rfl rfl rfl (sp_X4_pieceCount (d - 1) (by omega) _ o5  g10 g11 c12) (by omega) rfl rfl (Nat.le_of_ble_eq_true rfl) dX4_carterMiles_9 ?_
      rintro _ σ15 ⟨u16, rfl, z17⟩ o14 r13
      have h := h _ _ (r13 _ rfl) o14 z17
      refine G_iconst dX4_carterMiles_12 ?_
      refine G_icmp_eq (r13 _ rfl) (rL 1 rfl) dX4_carterMiles_13 (tgt := 18) (by decide) (fun c18 => ?_) (fun c18 => ?_)
      · have h := h.1 c18
        refine G_iconst dX4_carterMiles_18 ?_
        refine G_istore_n (lv' := [(2, aI (0)), (0, aR (40)), (1, aI (x1))]) rfl rfl (by decide) dX4_carterMiles_19 ?_
        refine G_iconst dX4_carterMiles_20 ?_
        refine G_istore_n (lv' := [(3, aI (0)), (2, aI (0)), (0, aR (40)), (1, aI (x1))]) rfl rfl (by decide) dX4_carterMiles_21 ?_
        exact G_pick [2, 1, 0] rfl (h (rL 0 rfl) (rL 0 rfl) o14)
      · have h := h.2 c18
        refine G_iconst dX4_carterMiles_16 ?_
        exact G_iret rfl (rL (-1) rfl) dX4_carterMiles_17 ⟨_, rfl, h⟩ o14
  · intro v2 v3 σ h hv2 hv3 hO
    have h := h hv2 hv3 hO
    refine G_iload_n 2 rfl rfl dX4_carterMiles_22 ?_
    refine G_aload_n 0 rfl rfl dX4_carterMiles_23 ?_
    refine G_get (k := 0) (kd := (2, 1)) (v := aR 1) gf_X4_37 rfl rfl rfl rfl dX4_carterMiles_24 ?_
    refine G_get (k := 8) (kd := (0, 0)) (v := aI (σ 1 8)) gf_X4_50 rfl rfl rfl rfl dX4_carterMiles_27 ?_
    refine G_icmp_ge hv3 (OKm.i hO 1 8 rfl) dX4_carterMiles_30 (tgt := 63) (by decide) (fun c19 => ?_) (fun c19 => ?_)
    · have h := h.1 c19
      refine G_iconst dX4_carterMiles_63 ?_
      refine G_istore_n (lv' := [(3, aI (0)), (0, aR (40)), (2, aI (v2))]) rfl rfl (by decide) dX4_carterMiles_64 ?_
      refine G_iconst dX4_carterMiles_65 ?_
      refine G_istore (lv' := [(4, aI (0)), (3, aI (0)), (0, aR (40)), (2, aI (v2))]) rfl (by decide) dX4_carterMiles_66 ?_
      exact G_pick [2, 3, 1, 0] rfl (h hv2 (rL 0 rfl) (rL 0 rfl) hO)
    · have h := h.2 c19
      refine G_iload_n 1 rfl rfl dX4_carterMiles_33 ?_
      refine G_aload_n 0 rfl rfl dX4_carterMiles_34 ?_
      refine G_iload_n 2 rfl rfl dX4_carterMiles_35 ?_
      obtain ⟨c20, h⟩ := h
      refine G_callV (as := [_]) cf_X4_56 rfl rfl rfl (sp_X4_holds (d - 1) (by omega) _ hO _ hv3 c20) (by omega) rfl rfl (Nat.le_of_ble_eq_true rfl) dX4_carterMiles_36 ?_
      rintro _ _ ⟨_, rfl, rfl, rfl⟩ o22 r21
      refine G_if_eq (bI_R _) dX4_carterMiles_39 (tgt := 54) (by decide) (fun c23 => ?_) (fun c23 => ?_)
      · have h := h.1 ((bI_0 _).mp c23)
        refine G_iconst dX4_carterMiles_54 ?_
        refine G_iadd dX4_carterMiles_55 ?_
        refine G_istore_n (lv' := [(2, aI ((v2 + 0))), (0, aR (40)), (3, aI (v3))]) rfl rfl (by decide) dX4_carterMiles_56 ?_
        refine G_iinc (lv' := [(3, aI ((v3 + 1))), (2, aI ((v2 + 0))), (0, aR (40))]) (k := 2) rfl rfl (by decide) dX4_carterMiles_57 ?_
        refine G_goto (tgt := 22) dX4_carterMiles_60 (by decide) ?_
        obtain ⟨c24, h⟩ := h
        obtain ⟨c25, h⟩ := h
        exact G_pick [2, 1, 0] rfl (h c24 c25 hO)
      · have h := h.2 (bI_ne c23)
        refine G_aload_n 0 rfl rfl dX4_carterMiles_42 ?_
        refine G_get (k := 0) (kd := (2, 1)) (v := aR 1) gf_X4_37 rfl rfl rfl rfl dX4_carterMiles_43 ?_
        refine G_get (k := 2) (kd := (3, 3)) (v := aR (4)) gf_X4_77 rfl rfl rfl rfl dX4_carterMiles_46 ?_
        refine G_iload_n 2 rfl rfl dX4_carterMiles_49 ?_
        obtain ⟨c26, h⟩ := h
        refine G_iald (n := 16) rfl c26.1 c26.2 dX4_carterMiles_50 ?_
        refine G_goto (tgt := 55) dX4_carterMiles_51 (by decide) ?_
        refine G_iadd dX4_carterMiles_55 ?_
        refine G_istore_n (lv' := [(2, aI ((v2 + (σ 4 v3)))), (0, aR (40)), (3, aI (v3))]) rfl rfl (by decide) dX4_carterMiles_56 ?_
        refine G_iinc (lv' := [(3, aI ((v3 + 1))), (2, aI ((v2 + (σ 4 v3)))), (0, aR (40))]) (k := 2) rfl rfl (by decide) dX4_carterMiles_57 ?_
        refine G_goto (tgt := 22) dX4_carterMiles_60 (by decide) ?_
        obtain ⟨c27, h⟩ := h
        obtain ⟨c28, h⟩ := h
        exact G_pick [2, 1, 0] rfl (h c27 c28 hO)
  · intro v2 v3 v4 σ h hv2 hv3 hv4 hO
    have h := h hv2 hv3 hv4 hO
    refine G_iload 3 rfl dX4_carterMiles_68 ?_
    refine G_bipush (by decide) dX4_carterMiles_70 ?_
    refine G_icmp_ge hv4 (rL 8 rfl) dX4_carterMiles_72 (tgt := 95) (by decide) (fun c29 => ?_) (fun c29 => ?_)
    · have h := h.1 c29
      refine G_iload_n 1 rfl rfl dX4_carterMiles_95 ?_
      refine G_aload_n 0 rfl rfl dX4_carterMiles_96 ?_
      refine G_iload_n 2 rfl rfl dX4_carterMiles_97 ?_
      obtain ⟨g30, g31, c32, h⟩ := h
      refine G_callV (as := [_]) cf_X4_121 rfl rfl rfl (sp_X4_pairingMiles (d - 1) (by omega) _ hO _ hv3 g30 g31 c32) (by omega) rfl rfl (Nat.le_of_ble_eq_true rfl) dX4_carterMiles_98 ?_
      rintro _ σ35 ⟨u36, rfl, z37⟩ o34 r33
      have h := h _ _ (r33 _ rfl) o34 z37
      refine G_iadd dX4_carterMiles_101 ?_
      obtain ⟨c38, h⟩ := h
      exact G_iret rfl c38 dX4_carterMiles_102 ⟨_, rfl, h⟩ o34
    · have h := h.2 c29
      refine G_iload_n 2 rfl rfl dX4_carterMiles_75 ?_
      refine G_aload_n 0 rfl rfl dX4_carterMiles_76 ?_
      refine G_iload 3 rfl dX4_carterMiles_77 ?_
      obtain ⟨g39, g40, c41, h⟩ := h
      refine G_callV (as := [_]) cf_X4_106 rfl rfl rfl (sp_X4_roadsAt (d - 1) (by omega) _ hO _ hv4 g39 g40 c41) (by omega) rfl rfl (Nat.le_of_ble_eq_true rfl) dX4_carterMiles_79 ?_
      rintro _ σ44 ⟨u45, rfl, z46⟩ o43 r42
      have h := h _ _ (r42 _ rfl) o43 z46
      refine G_iconst dX4_carterMiles_82 ?_
      refine G_iand dX4_carterMiles_83 ?_
      refine G_iload 3 rfl dX4_carterMiles_84 ?_
      refine G_ishl dX4_carterMiles_86 ?_
      refine G_ior dX4_carterMiles_87 ?_
      have h := h _ rfl
      refine G_istore_n (lv' := [(3, aI (((bOr v3 (bShl (bAnd u45 1) v4))))), (0, aR (40)), (2, aI (v2)), (4, aI (v4))]) rfl rfl (by decide) dX4_carterMiles_88 ?_
      refine G_iinc (lv' := [(4, aI ((v4 + 1))), (3, aI (((bOr v3 (bShl (bAnd u45 1) v4))))), (0, aR (40)), (2, aI (v2))]) (k := 3) rfl rfl (by decide) dX4_carterMiles_89 ?_
      refine G_goto (tgt := 68) dX4_carterMiles_92 (by decide) ?_
      obtain ⟨c48, h⟩ := h
      exact G_pick [2, 3, 1, 0] rfl (h hv2 (r32_of _) c48 o43)

theorem sp_X4_carterMiles (d : Nat) (hd : 3 ≤ d) (σ : Mem) (hO : OKm σ) (x1 : Int) (hx1 : R32 x1) (A : Mem) (tx : Nat → Txt) (hpre : vwC σ A tx ∧ (0 ≤ x1 ∧ x1 ≤ 7)) : Mt yX4_carterMiles cX4_carterMiles 5 (some .int) d [aR (40), aI (x1)] σ (QI (fun v σ' => v = carS A x1 ∧ Fr [41, 42, 44, 46] σ σ')) := mt_X4_carterMiles hd hx1 hO (by
  unfold wp_X4_carterMiles
  intro P22 P68 h22 h68
  obtain ⟨hV, hx⟩ := hpre
  have hI := hV.2.2.1
  have hc := hI.1
  have hdeg : ∀ t : Int, 0 ≤ degS A t ∧ degS A t ≤ 16 := fun t => by have := degN_r A t (A 10 0).toNat; unfold degS; omega
  have no : ¬ (ntB A x1 = true ∧ pieS A = 1) → carS A x1 = -1 := fun h => by unfold carS; rw [if_neg (fun q => h q.2)]
  refine ⟨A, tx, hV, ?_⟩
  intro u7 σ6 hu7 hO6 ⟨eu7, e6⟩
  subst e6
  refine ⟨fun h => ⟨(no (fun q => by have := of_decide_eq_true q.1; omega)).symm, Fr.rf _ _⟩, fun h => ⟨A, tx, hV, ?_⟩⟩
  intro u16 σ15 hu16 hO15 ⟨eu16, hF15⟩
  refine ⟨fun h1 => ?_, fun h1 => ⟨(no (fun q => h1 (by rw [eu16]; exact q.2))).symm, hF15.wk (by simp)⟩⟩
  have hnt : ntB A x1 = true := decide_eq_true (by have := hdeg x1; omega)
  have ecar : carS A x1 = nlenN A (A 10 0).toNat + prF A (oddS A).toNat := by unfold carS; rw [if_pos ⟨hx, hnt, by rw [← eu16]; exact h1⟩]
  have hV15 : vwC σ15 A tx := hV.fr (hF15.wk (by simp))
  have e8 : σ15 1 8 = A 10 0 := hV15.1.1.1
  have hnl := nlenN_r hI (A 10 0).toNat (by omega)
  have H68 : ∀ (n k : Nat), k + n = 8 → P68 (nlenN A (A 10 0).toNat) (bitsN (fun t => decide (degS A (t : Int) % 2 = 1)) k) (k : Int) σ15 := by
    intro n
    induction n with
    | zero =>
      intro k hk
      have hk2 : k = 8 := by omega
      subst hk2
      have ho := odd_r A
      refine h68 _ _ _ _ (fun _ _ _ _ => ⟨fun _ => ⟨A, tx, ⟨hV15, ho⟩, ?_⟩, fun h => absurd h (by omega)⟩)
      intro u36 σ35 hu36 hO35 ⟨eu36, hF35⟩
      have eu36 : u36 = prF A (oddS A).toNat := eu36
      have hr := prF_r hI 65536 (oddS A).toNat (by omega) (by omega)
      exact ⟨by unfold R32; omega, by rw [ecar, eu36], (hF15.wk (by simp)).tr (hF35.wk (by simp))⟩
    | succ n ih =>
      intro k hk
      have ih1 := ih (k + 1) (by omega)
      refine h68 _ _ _ _ (fun _ _ _ _ => ⟨fun h => absurd h (by omega), fun _ => ⟨A, tx, hV15, ?_⟩⟩)
      intro u45 σ44 hu45 hO44 ⟨eu45, e44⟩
      subst e44
      have hd := hdeg (k : Int)
      refine fun y47 e47 => ⟨by unfold R32; omega, ?_⟩
      rw [eu45, bAnd_1 (by omega)] at e47
      rcases (show degS A (k : Int) % 2 = 0 ∨ degS A (k : Int) % 2 = 1 by omega) with h0 | h0
      · rw [h0, bShl_0 (by omega), bitsN_or0 (f := fun t => decide (degS A (t : Int) % 2 = 1)) (by omega) (decide_eq_false (by omega))] at e47
        rw [e47]; exact ih1
      · rw [h0, bitsN_or (f := fun t => decide (degS A (t : Int) % 2 = 1)) (by omega) (decide_eq_true h0)] at e47
        rw [e47]; exact ih1
  have H22 : ∀ (n k : Nat), k + n = (A 10 0).toNat → P22 (nlenN A k) (k : Int) σ15 := by
    intro n
    induction n with
    | zero =>
      intro k hk
      have hk2 : k = (A 10 0).toNat := by omega
      subst hk2
      exact h22 _ _ _ (fun _ _ _ => ⟨fun _ => H68 8 0 (by omega), fun h => absurd h (by omega)⟩)
    | succ n ih =>
      intro k hk
      have ih1 := ih (k + 1) (by omega)
      have t1 := hV15.1.2.1 (k : Int) (by omega) (by omega)
      have n1 := hV15.2.1.2.1 (k : Int) (by omega) (by omega)
      have s4 : σ15 4 (k : Int) = A 13 (k : Int) := t1.2.2.1
      have hl := hI.2.1 (k : Int) (by omega) (by omega)
      have hr := nlenN_r hI k (by omega)
      refine h22 _ _ _ (fun _ _ _ => ⟨fun h => absurd h (by omega), fun _ => ?_⟩)
      rw [n1, s4]
      refine ⟨by omega, fun h => ⟨by unfold R32; omega, by unfold R32; omega, ?_⟩, fun h => ⟨by omega, by unfold R32; omega, by unfold R32; omega, ?_⟩⟩
      · have e : nlenN A (k + 1) = nlenN A k + 0 := by show _ + (if _ then _ else _) = _; rw [show netB A (k : Int) = false from decide_eq_false h]; rfl
        rw [e] at ih1; exact ih1
      · have e : nlenN A (k + 1) = nlenN A k + A 13 (k : Int) := by show _ + (if _ then _ else _) = _; rw [show netB A (k : Int) = true from decide_eq_true h]; rfl
        rw [e] at ih1; exact ih1
  exact H22 _ 0 (Nat.zero_add _))

def wp_X11_carter (x1 : Int) (σ : Mem) (Q : Int → Mem → Prop) : Prop :=
  ((¬ (0 ≤ x1 ∧ x1 ≤ 7)) →
    Q (-1) σ) ∧
   ((0 ≤ x1 ∧ x1 ≤ 7) →
    ∃ g4 : Mem, ∃ g5 : Nat → Txt, (vwC σ g4 g5 ∧ (0 ≤ x1 ∧ x1 ≤ 7)) ∧
    ∀ (u10 : Int) (σ9 : Mem), R32 u10 → OKm σ9 → (u10 = carS g4 x1 ∧ Fr [41, 42, 44, 46] σ σ9) →
    Q u10 σ9)
theorem mt_X11_carter {d : Nat} (hd : 4 ≤ d) {x1 : Int} {σ : Mem} {Q : Int → Mem → Prop} (hx1 : R32 x1) (hO : OKm σ) (h : wp_X11_carter x1 σ Q) : Mt yX11_carter cX11_carter 2 (some .int) d [aR (0), aI (x1)] σ (QI Q) := by
  refine Mt.intro (by decide +kernel) (Nat.le_of_ble_eq_true rfl) [(0, aR (0)), (1, aI (x1))] rfl ?_
  unfold wp_X11_carter at h
  refine G_iload_n 1 rfl rfl dX11_carter_0 ?_
  refine G_callS (as := [_]) cf_X11_103 rfl (sp_X11_isTown (d - 1) (by omega) _ hO _ hx1) (by omega) rfl rfl (Nat.le_of_ble_eq_true rfl) dX11_carter_1 ?_
  rintro _ _ ⟨_, rfl, rfl, rfl⟩ o2 r1
  refine G_if_eq (bI_R _) dX11_carter_4 (tgt := 18) (by decide) (fun c3 => ?_) (fun c3 => ?_)
  · have h := h.1 ((bI_0 _).mp c3)
    refine G_iconst dX11_carter_18 ?_
    exact G_iret rfl (rL (-1) rfl) dX11_carter_19 ⟨_, rfl, h⟩ hO
  · have h := h.2 (bI_ne c3)
    refine G_aload_n 0 rfl rfl dX11_carter_7 ?_
    refine G_get (k := 11) (kd := (2, 40)) (v := aR 40) gf_X11_85 rfl rfl rfl rfl dX11_carter_8 ?_
    refine G_iload_n 1 rfl rfl dX11_carter_11 ?_
    obtain ⟨g4, g5, c6, h⟩ := h
    refine G_callV (as := [_]) cf_X11_279 rfl rfl rfl (sp_X4_carterMiles (d - 1) (by omega) _ hO _ hx1 g4 g5 c6) (by omega) rfl rfl (Nat.le_of_ble_eq_true rfl) dX11_carter_12 ?_
    rintro _ σ9 ⟨u10, rfl, z11⟩ o8 r7
    have h := h _ _ (r7 _ rfl) o8 z11
    refine G_goto (tgt := 19) dX11_carter_15 (by decide) ?_
    exact G_iret rfl (r7 _ rfl) dX11_carter_19 ⟨_, rfl, h⟩ o8

theorem sp_X11_carter (d : Nat) (hd : 4 ≤ d) (σ : Mem) (hO : OKm σ) (x1 : Int) (hx1 : R32 x1) (A : Mem) (tx : Nat → Txt) (hpre : vwC σ A tx) : Mt yX11_carter cX11_carter 2 (some .int) d [aR (0), aI (x1)] σ (QI (fun v σ' => v = carS A x1 ∧ Fr ScrC σ σ')) := mt_X11_carter hd hx1 hO (by
  unfold wp_X11_carter
  refine ⟨fun h => ⟨by unfold carS; rw [if_neg (fun q => h q.1)], Fr.rf _ _⟩, fun h => ⟨A, tx, ⟨hpre, h⟩, ?_⟩⟩
  intro u σ1 hu hO1 ⟨eu, hF⟩
  exact ⟨eu, hF.wk (by simp)⟩)

abbrev F856 : List Nat := [84, 85, 86]
theorem not_zero {s u : Int} (hs : 0 ≤ s ∧ s < 256) (hu : 0 ≤ u ∧ u < 256) : bAnd s (bXor u (-1)) = 0 ↔ ∀ t : Int, 0 ≤ t → t ≤ 7 → tbt s t = true → tbt u t = true := by
  have hb := fun t => tb_not (s := s) (u := u) (t := t) (by omega) (by omega)
  constructor
  · intro h t t0 t7 ht
    have := (hb t).2
    rw [h, ht] at this
    cases hut : tbt u t with
    | true => rfl
    | false => rw [hut] at this; unfold tbt at this; simp at this
  · intro h
    refine tb_ext (hb 0).1.1 (Int.le_refl 0) (fun t t0 => ?_)
    rw [(hb t).2]
    have e0 : tbt 0 t = false := by unfold tbt; simp
    rw [e0]
    by_cases t7 : t ≤ 7
    · cases hst : tbt s t with
      | false => rfl
      | true => rw [h t t0 t7 hst]; rfl
    · rw [hi8 hs (by omega)]; rfl

def wp_X12_carter (x1 : Int) (σ : Mem) (Q : Int → Mem → Prop) : Prop :=
 ∀ P46 : Int → Int → Int → Mem → Prop,
 ∀ P121 : Int → Int → Int → Mem → Prop,
 (∀ (v2 : Int) (v3 : Int) (v4 : Int) (σ : Mem), (R32 v2 → R32 v3 → R32 v4 → OKm σ →
   (((σ 75 0) ≤ v4) →
     ∃ g42 : Mem, ∃ g43 : Nat → Txt, (vwM σ g42 g43) ∧
     ∀ σ47 : Mem, OKm σ47 → (betw σ47 g42 8 ∧ vwM σ47 g42 g43 ∧ Fr [84, 86] σ σ47) →
     ∀ σ50 : Mem, σ50 = mset σ47 85 0 0 →
     P121 v2 v3 1 σ50) ∧
    ((v4 < (σ 75 0)) →
     (0 ≤ v4 ∧ v4 < 16) ∧
     ((0 < σ 75 (11 + v4)) →
      (0 ≤ v4 ∧ v4 < 16 ∧ 0 ≤ (0 : Int) ∧ (0 : Int) < 4) ∧
      (0 ≤ v4 ∧ v4 < 16 ∧ 0 ≤ (1 : Int) ∧ (1 : Int) < 4) ∧
      ∀ y63 : Int, y63 = (bXor v2 (bXor (bShl 1 (σ 75 (39 + 4 * v4 + (0 : Int)))) (bShl 1 (σ 75 (39 + 4 * v4 + (1 : Int)))))) →
      (0 ≤ v4 ∧ v4 < 16 ∧ 0 ≤ (2 : Int) ∧ (2 : Int) < 4) ∧
      R32 (v3 + (σ 75 (39 + 4 * v4 + (2 : Int)))) ∧
      ∀ y68 : Int, y68 = (v3 + (σ 75 (39 + 4 * v4 + (2 : Int)))) →
      R32 (v4 + 1) ∧ P46 y63 y68 (v4 + 1) σ) ∧
     ((¬ (0 < σ 75 (11 + v4))) →
      R32 (v4 + 1) ∧ P46 v2 v3 (v4 + 1) σ))) → P46 v2 v3 v4 σ) →
 (∀ (v2 : Int) (v3 : Int) (v4 : Int) (σ : Mem), (R32 v2 → R32 v3 → R32 v4 → OKm σ →
   ((v2 < v4) →
     (0 ≤ v2 ∧ v2 < 256) ∧
     R32 (v3 + (σ 85 v2)) ∧
     Q (v3 + (σ 85 v2)) σ) ∧
    ((v4 ≤ v2) →
     (((bAnd v4 (bXor v2 (-1))) ≠ 0) →
      R32 (v4 + 1) ∧ P121 v2 v3 (v4 + 1) σ) ∧
     (((bAnd v4 (bXor v2 (-1))) = 0) →
      ∃ g76 : Mem, (betw σ g76 8 ∧ (∀ x : Nat, x < (v4).toNat → subB x (v4).toNat = true → σ 85 (x : Int) = prF g76 x) ∧ InvA g76 ∧ (0 < v4 ∧ v4 < 256)) ∧
      ∀ (u81 : Int) (σ80 : Mem), R32 u81 → OKm σ80 → (u81 = prF g76 (v4).toNat ∧ σ80 = σ) →
      (0 ≤ v4 ∧ v4 < 256) ∧
      ∀ σ84 : Mem, σ84 = mset σ80 85 v4 u81 →
      R32 (v4 + 1) ∧ P121 v2 v3 (v4 + 1) σ84))) → P121 v2 v3 v4 σ) →
  ((¬ (0 ≤ x1 ∧ x1 ≤ 7)) →
    Q (-1) σ) ∧
   ((0 ≤ x1 ∧ x1 ≤ 7) →
    ∃ g4 : Mem, ∃ g5 : Nat → Txt, (vwM σ g4 g5) ∧
    ∀ (u10 : Int) (σ9 : Mem), R32 u10 → OKm σ9 → (u10 = ntS g4 ∧ σ9 = σ) →
    ((0 ≤ u10 ∧ u10 < 2147483648) ∧ (0 ≤ x1 ∧ x1 < 31)) ∧
    ((¬ ((u10).toNat.testBit (x1).toNat = true)) →
     Q (-1) σ9) ∧
    (((u10).toNat.testBit (x1).toNat = true) →
     ∃ g16 : Mem, ∃ g17 : Nat → Txt, (vwM σ9 g16 g17) ∧
     ∀ (u22 : Int) (σ21 : Mem), R32 u22 → OKm σ21 → (u22 = ntS g16 ∧ σ21 = σ9) →
     ∃ g24 : Mem, ∃ g25 : Nat → Txt, (vwM σ21 g24 g25) ∧
     ∀ (u30 : Int) (σ29 : Mem), R32 u30 → OKm σ29 → (u30 = netS g24 ∧ σ29 = σ21) →
     ∃ g32 : Mem, ∃ g33 : Nat → Txt, (vwM σ29 g32 g33 ∧ (0 ≤ x1 ∧ x1 ≤ 7) ∧ (0 ≤ u30 ∧ u30 < 65536)) ∧
     ∀ (u38 : Int) (σ37 : Mem), R32 u38 → OKm σ37 → (u38 = comeS g32 (tbt u30) x1 ∧ σ37 = σ29) →
     (((bAnd u22 (bXor u38 (-1))) = 0) →
      P46 0 0 0 σ37) ∧
     (((bAnd u22 (bXor u38 (-1))) ≠ 0) →
      Q (-1) σ37)))
theorem mt_X12_carter {d : Nat} (hd : 3 ≤ d) {x1 : Int} {σ : Mem} {Q : Int → Mem → Prop} (hx1 : R32 x1) (hO : OKm σ) (h : wp_X12_carter x1 σ Q) : Mt yX12_carter cX12_carter 5 (some .int) d [aR (74), aI (x1)] σ (QI Q) := by
  refine Mt.intro (by decide +kernel) (Nat.le_of_ble_eq_true rfl) [(0, aR (74)), (1, aI (x1))] rfl ?_
  unfold wp_X12_carter at h
  have h := h (fun (v2 : Int) (v3 : Int) (v4 : Int) (σ : Mem) => R32 v2 → R32 v3 → R32 v4 → OKm σ → G yX12_carter cX12_carter 5 (some .int) d (QI Q) 46 [(0, aR (74)), (2, aI (v2)), (3, aI (v3)), (4, aI (v4))] [] σ)
    (fun (v2 : Int) (v3 : Int) (v4 : Int) (σ : Mem) => R32 v2 → R32 v3 → R32 v4 → OKm σ → G yX12_carter cX12_carter 5 (some .int) d (QI Q) 121 [(0, aR (74)), (2, aI (v2)), (3, aI (v3)), (4, aI (v4))] [] σ) ?_ ?_
  · refine G_iload_n 1 rfl rfl dX12_carter_0 ?_
    refine G_callS (as := [_]) cf_X12_89 rfl (sp_X12_isTown (d - 1) (by omega) _ hO _ hx1) (by omega) rfl rfl (Nat.le_of_ble_eq_true rfl) dX12_carter_1 ?_
    rintro _ _ ⟨_, rfl, rfl, rfl⟩ o2 r1
    refine G_if_eq (bI_R _) dX12_carter_4 (tgt := 37) (by decide) (fun c3 => ?_) (fun c3 => ?_)
    · have h := h.1 ((bI_0 _).mp c3)
      refine G_iconst dX12_carter_37 ?_
      exact G_iret rfl (rL (-1) rfl) dX12_carter_38 ⟨_, rfl, h⟩ hO
    · have h := h.2 (bI_ne c3)
      refine G_aload_n 0 rfl rfl dX12_carter_7 ?_
      obtain ⟨g4, g5, c6, h⟩ := h
      refine G_callV (as := []) cf_X12_440 rfl rfl rfl (sp_X12_netTowns (d - 1) (by omega) _ hO  g4 g5 c6) (by omega) rfl rfl (Nat.le_of_ble_eq_true rfl) dX12_carter_8 ?_
      rintro _ σ9 ⟨u10, rfl, z11⟩ o8 r7
      have h := h _ _ (r7 _ rfl) o8 z11
      refine G_iload_n 1 rfl rfl dX12_carter_11 ?_
      obtain ⟨c12, h⟩ := h
      refine G_callS (as := [_, _]) cf_X12_258 rfl (sp_X12_has (d - 1) (by omega) _ o8 _ (r7 _ rfl) _ hx1 c12) (by omega) rfl rfl (Nat.le_of_ble_eq_true rfl) dX12_carter_12 ?_
      rintro _ _ ⟨_, rfl, rfl, rfl⟩ o14 r13
      refine G_if_eq (bI_R _) dX12_carter_15 (tgt := 37) (by decide) (fun c15 => ?_) (fun c15 => ?_)
      · have h := h.1 ((bI_0 _).mp c15)
        refine G_iconst dX12_carter_37 ?_
        exact G_iret rfl (rL (-1) rfl) dX12_carter_38 ⟨_, rfl, h⟩ o8
      · have h := h.2 (bI_ne c15)
        refine G_aload_n 0 rfl rfl dX12_carter_18 ?_
        obtain ⟨g16, g17, c18, h⟩ := h
        refine G_callV (as := []) cf_X12_440 rfl rfl rfl (sp_X12_netTowns (d - 1) (by omega) _ o8  g16 g17 c18) (by omega) rfl rfl (Nat.le_of_ble_eq_true rfl) dX12_carter_19 ?_
        rintro _ σ21 ⟨u22, rfl, z23⟩ o20 r19
        have h := h _ _ (r19 _ rfl) o20 z23
        refine G_aload_n 0 rfl rfl dX12_carter_22 ?_
        refine G_iload_n 1 rfl rfl dX12_carter_23 ?_
        refine G_aload_n 0 rfl rfl dX12_carter_24 ?_
        obtain ⟨g24, g25, c26, h⟩ := h
        refine G_callV (as := []) cf_X12_437 rfl rfl rfl (sp_X12_net (d - 1) (by omega) _ o20  g24 g25 c26) (by omega) rfl rfl (Nat.le_of_ble_eq_true rfl) dX12_carter_25 ?_
        rintro _ σ29 ⟨u30, rfl, z31⟩ o28 r27
        have h := h _ _ (r27 _ rfl) o28 z31
        obtain ⟨g32, g33, c34, h⟩ := h
        refine G_callV (as := [_, _]) cf_X12_434 rfl rfl rfl (sp_X12_comeTo (d - 1) (by omega) _ o28 _ hx1 _ (r27 _ rfl) g32 g33 c34) (by omega) rfl rfl (Nat.le_of_ble_eq_true rfl) dX12_carter_28 ?_
        rintro _ σ37 ⟨u38, rfl, z39⟩ o36 r35
        have h := h _ _ (r35 _ rfl) o36 z39
        refine G_iconst dX12_carter_31 ?_
        refine G_ixor dX12_carter_32 ?_
        refine G_iand dX12_carter_33 ?_
        refine G_if_eq (r32_of _) dX12_carter_34 (tgt := 39) (by decide) (fun c40 => ?_) (fun c40 => ?_)
        · have h := h.1 c40
          refine G_iconst dX12_carter_39 ?_
          refine G_istore_n (lv' := [(2, aI (0)), (0, aR (74)), (1, aI (x1))]) rfl rfl (by decide) dX12_carter_40 ?_
          refine G_iconst dX12_carter_41 ?_
          refine G_istore_n (lv' := [(3, aI (0)), (2, aI (0)), (0, aR (74)), (1, aI (x1))]) rfl rfl (by decide) dX12_carter_42 ?_
          refine G_iconst dX12_carter_43 ?_
          refine G_istore (lv' := [(4, aI (0)), (3, aI (0)), (2, aI (0)), (0, aR (74)), (1, aI (x1))]) rfl (by decide) dX12_carter_44 ?_
          exact G_pick [3, 2, 1, 0] rfl (h (rL 0 rfl) (rL 0 rfl) (rL 0 rfl) o36)
        · have h := h.2 c40
          refine G_iconst dX12_carter_37 ?_
          exact G_iret rfl (rL (-1) rfl) dX12_carter_38 ⟨_, rfl, h⟩ o36
  · intro v2 v3 v4 σ h hv2 hv3 hv4 hO
    have h := h hv2 hv3 hv4 hO
    refine G_iload 3 rfl dX12_carter_46 ?_
    refine G_aload_n 0 rfl rfl dX12_carter_48 ?_
    refine G_get (k := 0) (kd := (2, 75)) (v := aR 75) gf_X12_7 rfl rfl rfl rfl dX12_carter_49 ?_
    refine G_iconst dX12_carter_52 ?_
    refine G_iald (n := 2119) rfl (by decide) (by decide) dX12_carter_53 ?_
    refine G_icmp_ge hv4 (OKm.i hO 75 0 (isLg_row (show shp 75 = (1, 2119, []) from rfl) _)) dX12_carter_54 (tgt := 107) (by decide) (fun c41 => ?_) (fun c41 => ?_)
    · have h := h.1 c41
      refine G_aload_n 0 rfl rfl dX12_carter_107 ?_
      obtain ⟨g42, g43, c44, h⟩ := h
      refine G_callV (as := []) cf_X12_443 rfl rfl rfl (sp_X12_layBetween (d - 1) (by omega) _ hO  g42 g43 c44) (by omega) rfl rfl (Nat.le_of_ble_eq_true rfl) dX12_carter_108 ?_
      rintro _ σ47 ⟨rfl, z49⟩ o46 r45
      have h := h _ o46 z49
      refine G_aload_n 0 rfl rfl dX12_carter_111 ?_
      refine G_get (k := 27) (kd := (2, 85)) (v := aR 85) gf_X12_53 rfl rfl rfl rfl dX12_carter_112 ?_
      refine G_iconst dX12_carter_115 ?_
      refine G_iconst dX12_carter_116 ?_
      obtain ⟨σ50, e52⟩ : ∃ τ : Mem, τ = mset σ47 85 0 0 := ⟨_, rfl⟩
      have h := h σ50 e52
      have o51 : OKm σ50 := by rw [e52]; exact OKm.seti o46 _ _ _ (rL 0 rfl) (isLg_row (show shp 85 = (1, 256, []) from rfl) _)
      refine G_iast (n := 256) rfl (by decide) (by decide) dX12_carter_117 ?_
      rw [← e52]
      refine G_iconst dX12_carter_118 ?_
      refine G_istore (lv' := [(4, aI (1)), (0, aR (74)), (2, aI (v2)), (3, aI (v3))]) rfl (by decide) dX12_carter_119 ?_
      exact G_pick [1, 2, 3, 0] rfl (h hv2 hv3 (rL 1 rfl) o51)
    · have h := h.2 c41
      refine G_aload_n 0 rfl rfl dX12_carter_57 ?_
      refine G_iload 3 rfl dX12_carter_58 ?_
      obtain ⟨c53, h⟩ := h
      refine G_callV (as := [_]) cf_X12_431 rfl rfl rfl (sp_X12_isNet (d - 1) (by omega) _ hO _ hv4 c53) (by omega) rfl rfl (Nat.le_of_ble_eq_true rfl) dX12_carter_60 ?_
      rintro _ _ ⟨_, rfl, rfl, rfl⟩ o55 r54
      refine G_if_ne (bI_R _) dX12_carter_63 (tgt := 69) (by decide) (fun c56 => ?_) (fun c56 => ?_)
      · have h := h.1 (bI_ne c56)
        refine G_iload_n 1 rfl rfl dX12_carter_69 ?_
        refine G_iconst dX12_carter_70 ?_
        refine G_aload_n 0 rfl rfl dX12_carter_71 ?_
        refine G_iload 3 rfl dX12_carter_72 ?_
        refine G_iconst dX12_carter_74 ?_
        obtain ⟨c57, h⟩ := h
        refine G_callV (as := [_, _]) cf_X12_85 rfl rfl rfl (sp_X12_told (d - 1) (by omega) _ hO _ hv4 _ (rL 0 rfl) c57) (by omega) rfl rfl (Nat.le_of_ble_eq_true rfl) dX12_carter_75 ?_
        rintro _ _ ⟨_, rfl, rfl, rfl⟩ o59 r58
        refine G_ishl dX12_carter_78 ?_
        refine G_iconst dX12_carter_79 ?_
        refine G_aload_n 0 rfl rfl dX12_carter_80 ?_
        refine G_iload 3 rfl dX12_carter_81 ?_
        refine G_iconst dX12_carter_83 ?_
        obtain ⟨c60, h⟩ := h
        refine G_callV (as := [_, _]) cf_X12_85 rfl rfl rfl (sp_X12_told (d - 1) (by omega) _ hO _ hv4 _ (rL 1 rfl) c60) (by omega) rfl rfl (Nat.le_of_ble_eq_true rfl) dX12_carter_84 ?_
        rintro _ _ ⟨_, rfl, rfl, rfl⟩ o62 r61
        refine G_ishl dX12_carter_87 ?_
        refine G_ixor dX12_carter_88 ?_
        refine G_ixor dX12_carter_89 ?_
        have h := h _ rfl
        refine G_istore_n (lv' := [(2, aI (((bXor v2 (bXor (bShl 1 (σ 75 (39 + 4 * v4 + (0 : Int)))) (bShl 1 (σ 75 (39 + 4 * v4 + (1 : Int))))))))), (0, aR (74)), (3, aI (v3)), (4, aI (v4))]) rfl rfl (by decide) dX12_carter_90 ?_
        refine G_iload_n 2 rfl rfl dX12_carter_91 ?_
        refine G_aload_n 1 rfl rfl dX12_carter_92 ?_
        refine G_iload 3 rfl dX12_carter_93 ?_
        refine G_iconst dX12_carter_95 ?_
        obtain ⟨c64, h⟩ := h
        refine G_callV (as := [_, _]) cf_X12_85 rfl rfl rfl (sp_X12_told (d - 1) (by omega) _ hO _ hv4 _ (rL 2 rfl) c64) (by omega) rfl rfl (Nat.le_of_ble_eq_true rfl) dX12_carter_96 ?_
        rintro _ _ ⟨_, rfl, rfl, rfl⟩ o66 r65
        refine G_iadd dX12_carter_99 ?_
        obtain ⟨c67, h⟩ := h
        have h := h _ rfl
        refine G_istore_n (lv' := [(3, aI (((v3 + (σ 75 (39 + 4 * v4 + (2 : Int))))))), (2, aI (((bXor v2 (bXor (bShl 1 (σ 75 (39 + 4 * v4 + (0 : Int)))) (bShl 1 (σ 75 (39 + 4 * v4 + (1 : Int))))))))), (0, aR (74)), (4, aI (v4))]) rfl rfl (by decide) dX12_carter_100 ?_
        refine G_iinc (lv' := [(4, aI ((v4 + 1))), (3, aI (((v3 + (σ 75 (39 + 4 * v4 + (2 : Int))))))), (2, aI (((bXor v2 (bXor (bShl 1 (σ 75 (39 + 4 * v4 + (0 : Int)))) (bShl 1 (σ 75 (39 + 4 * v4 + (1 : Int))))))))), (0, aR (74))]) (k := 3) rfl rfl (by decide) dX12_carter_101 ?_
        refine G_goto (tgt := 46) dX12_carter_104 (by decide) ?_
        obtain ⟨c69, h⟩ := h
        exact G_pick [3, 2, 1, 0] rfl (h (r32_of _) c67 c69 hO)
      · have h := h.2 ((bI_0 _).mp c56)
        refine G_goto (tgt := 101) dX12_carter_66 (by decide) ?_
        refine G_iinc (lv' := [(4, aI ((v4 + 1))), (0, aR (74)), (2, aI (v2)), (3, aI (v3))]) (k := 3) rfl rfl (by decide) dX12_carter_101 ?_
        refine G_goto (tgt := 46) dX12_carter_104 (by decide) ?_
        obtain ⟨c70, h⟩ := h
        exact G_pick [1, 2, 3, 0] rfl (h hv2 hv3 c70 hO)
  · intro v2 v3 v4 σ h hv2 hv3 hv4 hO
    have h := h hv2 hv3 hv4 hO
    refine G_iload 3 rfl dX12_carter_121 ?_
    refine G_iload_n 1 rfl rfl dX12_carter_123 ?_
    refine G_icmp_gt hv4 hv2 dX12_carter_124 (tgt := 155) (by decide) (fun c71 => ?_) (fun c71 => ?_)
    · have h := h.1 c71
      refine G_iload_n 2 rfl rfl dX12_carter_155 ?_
      refine G_aload_n 0 rfl rfl dX12_carter_156 ?_
      refine G_get (k := 27) (kd := (2, 85)) (v := aR 85) gf_X12_53 rfl rfl rfl rfl dX12_carter_157 ?_
      refine G_iload_n 1 rfl rfl dX12_carter_160 ?_
      obtain ⟨c72, h⟩ := h
      refine G_iald (n := 256) rfl c72.1 c72.2 dX12_carter_161 ?_
      refine G_iadd dX12_carter_162 ?_
      obtain ⟨c73, h⟩ := h
      exact G_iret rfl c73 dX12_carter_163 ⟨_, rfl, h⟩ hO
    · have h := h.2 c71
      refine G_iload 3 rfl dX12_carter_127 ?_
      refine G_iload_n 1 rfl rfl dX12_carter_129 ?_
      refine G_iconst dX12_carter_130 ?_
      refine G_ixor dX12_carter_131 ?_
      refine G_iand dX12_carter_132 ?_
      refine G_if_ne (r32_of _) dX12_carter_133 (tgt := 149) (by decide) (fun c74 => ?_) (fun c74 => ?_)
      · have h := h.1 c74
        refine G_iinc (lv' := [(4, aI ((v4 + 1))), (0, aR (74)), (2, aI (v2)), (3, aI (v3))]) (k := 3) rfl rfl (by decide) dX12_carter_149 ?_
        refine G_goto (tgt := 121) dX12_carter_152 (by decide) ?_
        obtain ⟨c75, h⟩ := h
        exact G_pick [1, 2, 3, 0] rfl (h hv2 hv3 c75 hO)
      · have h := h.2 c74
        refine G_aload_n 0 rfl rfl dX12_carter_136 ?_
        refine G_get (k := 27) (kd := (2, 85)) (v := aR 85) gf_X12_53 rfl rfl rfl rfl dX12_carter_137 ?_
        refine G_iload 3 rfl dX12_carter_140 ?_
        refine G_aload_n 0 rfl rfl dX12_carter_142 ?_
        refine G_iload 3 rfl dX12_carter_143 ?_
        obtain ⟨g76, c77, h⟩ := h
        refine G_callV (as := [_]) cf_X12_446 rfl rfl rfl (sp_X12_pairedOf (d - 1) (by omega) _ hO _ hv4 g76 c77) (by omega) rfl rfl (Nat.le_of_ble_eq_true rfl) dX12_carter_145 ?_
        rintro _ σ80 ⟨u81, rfl, z82⟩ o79 r78
        have h := h _ _ (r78 _ rfl) o79 z82
        obtain ⟨c83, h⟩ := h
        obtain ⟨σ84, e86⟩ : ∃ τ : Mem, τ = mset σ80 85 v4 u81 := ⟨_, rfl⟩
        have h := h σ84 e86
        have o85 : OKm σ84 := by rw [e86]; exact OKm.seti o79 _ _ _ (r78 _ rfl) (isLg_row (show shp 85 = (1, 256, []) from rfl) _)
        refine G_iast (n := 256) rfl c83.1 c83.2 dX12_carter_148 ?_
        rw [← e86]
        refine G_iinc (lv' := [(4, aI ((v4 + 1))), (0, aR (74)), (2, aI (v2)), (3, aI (v3))]) (k := 3) rfl rfl (by decide) dX12_carter_149 ?_
        refine G_goto (tgt := 121) dX12_carter_152 (by decide) ?_
        obtain ⟨c87, h⟩ := h
        exact G_pick [1, 2, 3, 0] rfl (h hv2 hv3 c87 o85)

theorem sp_X12_carter (d : Nat) (hd : 3 ≤ d) (σ : Mem) (hO : OKm σ) (x1 : Int) (hx1 : R32 x1) (A : Mem) (tx : Nat → Txt) (hpre : vwM σ A tx) : Mt yX12_carter cX12_carter 5 (some .int) d [aR (74), aI (x1)] σ (QI (fun v σ' => v = carS A x1 ∧ vwM σ' A tx ∧ Fr F856 σ σ')) := mt_X12_carter hd hx1 hO (by
  unfold wp_X12_carter
  intro P46 P121 h46 h121
  have hV := hpre
  have hI := hV.2.2.1
  have hc := hI.1
  have no : ¬ ((0 ≤ x1 ∧ x1 ≤ 7) ∧ ntB A x1 = true ∧ pieS A = 1) → (-1 : Int) = carS A x1 ∧ vwM σ A tx ∧ Fr F856 σ σ := fun h => ⟨by unfold carS; rw [if_neg h], hV, Fr.rf _ _⟩
  refine ⟨fun h => no (fun q => h q.1), fun hx => ⟨A, tx, hV, ?_⟩⟩
  intro u10 σ9 hu10 hO9 ⟨eu10, e9⟩
  subst e9
  have hb10 : 0 ≤ u10 ∧ u10 < 256 := by rw [eu10]; exact b8 _
  have hntb : ∀ t : Int, 0 ≤ t → t ≤ 7 → tbt (ntS A) t = ntB A t := fun t t0 t7 => by
    unfold ntS; rw [tb8 t0 t7, show ((t.toNat : Nat) : Int) = t by omega]
  have hbit : u10.toNat.testBit x1.toNat = ntB A x1 := by rw [eu10]; exact hntb x1 hx.1 hx.2
  rw [hbit]
  refine ⟨by omega, fun h => no (fun q => h q.2.1), fun hnt => ⟨A, tx, hV, ?_⟩⟩
  intro u22 σ21 hu22 hO21 ⟨eu22, e21⟩
  subst e21
  refine ⟨A, tx, hV, ?_⟩
  intro u30 σ29 hu30 hO29 ⟨eu30, e29⟩
  subst e29
  have hn := netS_r hI
  rw [eu30]
  refine ⟨A, tx, ⟨hV, hx, hn⟩, ?_⟩
  intro u38 σ37 hu38 hO37 ⟨eu38, e37⟩
  subst e37
  have hb22 : 0 ≤ u22 ∧ u22 < 256 := by rw [eu22]; exact b8 _
  have hb38 : 0 ≤ u38 ∧ u38 < 256 := by rw [eu38]; exact b8 _
  have hpie : bAnd u22 (bXor u38 (-1)) = 0 ↔ pieS A = 1 := by
    rw [not_zero hb22 hb38, pie_one hI hx hnt]
    constructor
    · intro h t t0 t7 ht
      have := h t t0 t7 (by rw [eu22, hntb t t0 t7]; exact ht)
      rw [eu38, comeS_bit ⟨t0, t7⟩] at this
      exact (rch_ext (net_ext hI)).mp (rchB_t.mp this)
    · intro h t t0 t7 ht
      rw [eu22, hntb t t0 t7] at ht
      rw [eu38, comeS_bit ⟨t0, t7⟩]
      exact rchB_t.mpr ((rch_ext (net_ext hI)).mpr (h t t0 t7 ht))
  rw [hpie]
  refine ⟨fun h1 => ?_, fun h1 => no (fun q => h1 (hpie.mpr q.2.2))⟩
  have ecar : carS A x1 = nlenN A (A 10 0).toNat + prF A (oddS A).toNat := by unfold carS; rw [if_pos ⟨hx, hnt, h1⟩]
  have ho := odd_r A
  have hnl := nlenN_r hI (A 10 0).toNat (by omega)
  have e0 : σ37 75 0 = A 10 0 := hV.1.1.1
  have H121 : ∀ (ρ : Mem), betw ρ A 8 → vwM ρ A tx → Fr [84, 86] σ37 ρ → ∀ (n s : Nat) (τ : Mem), (s : Int) + n = oddS A + 1 → 0 < s → (∀ x : Nat, x < s → subB x (oddS A).toNat = true → τ 85 (x : Int) = prF A x) → Fr [85] ρ τ → P121 (oddS A) (nlenN A (A 10 0).toNat) (s : Int) τ := by
    intro ρ hbt hVρ hFρ n
    induction n with
    | zero =>
      intro s τ hs hs0 ht hF
      have e85 := ht (oddS A).toNat (by omega) (sub_of (fun i hi => hi))
      rw [show (((oddS A).toNat : Nat) : Int) = oddS A by omega] at e85
      have hr := prF_r hI 65536 (oddS A).toNat (by omega) (by omega)
      refine h121 _ _ _ _ (fun _ _ _ _ => ⟨fun _ => ?_, fun h => absurd h (by omega)⟩)
      rw [e85]
      exact ⟨by omega, by unfold R32; omega, ecar.symm, hVρ.fr (hF.wk (by simp)), (hFρ.wk (by simp)).tr (hF.wk (by simp))⟩
    | succ n ih =>
      intro s τ hs hs0 ht hF
      have hsub : bAnd (s : Int) (bXor (oddS A) (-1)) = 0 ↔ subB s (oddS A).toNat = true := by
        rw [not_zero (by omega) ho]
        constructor
        · intro h
          refine sub_of (fun i hi => ?_)
          by_cases h8 : (i : Int) ≤ 7
          · have := h (i : Int) (by omega) h8 (by unfold tbt; rw [Int.toNat_natCast, Int.toNat_natCast]; exact hi)
            unfold tbt at this; rw [Int.toNat_natCast] at this; exact this
          · have := hi8 (s := (s : Int)) (t := (i : Int)) (by omega) (by omega)
            unfold tbt at this; rw [Int.toNat_natCast, Int.toNat_natCast, hi] at this; cases this
        · intro h t t0 t7 hq
          unfold tbt at *
          rw [Int.toNat_natCast] at hq
          exact sub_bit h _ hq
      refine h121 _ _ _ _ (fun _ _ _ _ => ⟨fun h => absurd h (by omega), fun _ => ?_⟩)
      rw [hsub]
      refine ⟨fun h => ⟨by unfold R32; omega, ih (s + 1) τ (by omega) (by omega) (fun x hx2 hxs => ?_) hF⟩, fun h => ⟨A, ⟨?_, fun x hx2 hxs => ?_, hI, by omega⟩, ?_⟩⟩
      · by_cases e : x = s
        · subst e; exact absurd (hsub.mpr hxs) h
        · exact ht x (by omega) hxs
      · unfold betw; rw [hF 86 (by simp)]; exact hbt
      · rw [Int.toNat_natCast] at hx2 hxs
        exact ht x hx2 (sub_of (fun i hi => sub_bit h i (sub_bit hxs i hi)))
      · intro u81 σ80 hu81 hO80 ⟨eu81, e80⟩
        subst e80
        rw [Int.toNat_natCast] at eu81
        refine ⟨by omega, fun σ84 e84 => ⟨by unfold R32; omega, ih (s + 1) σ84 (by omega) (by omega) (fun x hx2 hxs => ?_) (by rw [e84]; exact hF.set (by simp))⟩⟩
        by_cases e : x = s
        · subst e; rw [e84, mset_hit rfl]; exact eu81
        · rw [e84, mset_miss (by omega)]; exact ht x (by omega) hxs
  have H46 : ∀ (n k : Nat) (s : Int), k + n = (A 10 0).toNat → (0 ≤ s ∧ s < 256) → (∀ t : Int, 0 ≤ t → t ≤ 7 → tbt s t = decide (degN A t k % 2 = 1)) → P46 s (nlenN A k) (k : Int) σ37 := by
    intro n
    induction n with
    | zero =>
      intro k s hk hs ht
      have hk2 : k = (A 10 0).toNat := by omega
      subst hk2
      have es : s = oddS A := set8 hs (fun t t0 t7 => by rw [ht t t0 t7, show ((t.toNat : Nat) : Int) = t by omega]; rfl)
      rw [es]
      refine h46 _ _ _ _ (fun _ _ _ _ => ⟨fun _ => ⟨A, tx, hV, ?_⟩, fun h => absurd h (by omega)⟩)
      intro σ47 o47 ⟨q47, hV47, f47⟩ σ50 e50
      have hF50 : Fr [85] σ47 σ50 := by rw [e50]; exact (Fr.rf _ _).set (by simp)
      refine H121 σ47 q47 hV47 f47 (oddS A).toNat 1 σ50 (by omega) (by omega) (fun x hx2 _ => ?_) hF50
      have : x = 0 := by omega
      subst this
      rw [e50, prF_eq A (by omega), if_pos rfl]; exact mset_hit rfl
    | succ n ih =>
      intro k s hk hs ht
      have t1 := hV.1.2.1 (k : Int) (by omega) (by omega)
      have n1 := hV.2.1.2.1 (k : Int) (by omega) (by omega)
      have s0 : σ37 75 (39 + 4 * (k : Int) + 0) = A 11 (k : Int) := by rw [Int.add_zero]; exact t1.1
      have s1 : σ37 75 (39 + 4 * (k : Int) + 1) = A 12 (k : Int) := t1.2.1
      have s2 : σ37 75 (39 + 4 * (k : Int) + 2) = A 13 (k : Int) := t1.2.2.1
      have hl := hI.2.1 (k : Int) (by omega) (by omega)
      have hr := nlenN_r hI k (by omega)
      refine h46 _ _ _ _ (fun _ _ _ _ => ⟨fun h => absurd h (by omega), fun _ => ?_⟩)
      rw [n1, s0, s1, s2]
      refine ⟨by omega, fun h => ⟨by omega, by omega, fun y63 e63 => ⟨by omega, by unfold R32; omega, fun y68 e68 => ⟨by unfold R32; omega, ?_⟩⟩⟩, fun h => ⟨by unfold R32; omega, ?_⟩⟩
      · have hnb : netB A (k : Int) = true := decide_eq_true h
        have e : nlenN A (k + 1) = y68 := by
          show _ + (if _ then _ else _) = _; rw [hnb, if_pos rfl, e68]
        have a1 := shl8 (a := A 11 (k : Int)) (by omega)
        have a2 := shl8 (a := A 12 (k : Int)) (by omega)
        have x1' := fun t => tb_xor (s := bShl 1 (A 11 (k : Int))) (u := bShl 1 (A 12 (k : Int))) (t := t) (by omega) (by omega)
        have x2' := fun t => tb_xor (s := s) (u := bXor (bShl 1 (A 11 (k : Int))) (bShl 1 (A 12 (k : Int)))) (t := t) (by omega) (x1' 0).1
        have htb : ∀ t : Int, 0 ≤ t → tbt y63 t = (tbt s t ^^ (decide (t = A 11 (k : Int)) ^^ decide (t = A 12 (k : Int)))) := fun t t0 => by
          rw [e63, (x2' t).2, (x1' t).2, (tb_shl (by omega) t0).2, (tb_shl (by omega) t0).2]
        have hy : 0 ≤ y63 := by rw [e63]; exact (x2' 0).1.1
        have := ih (k + 1) y63 (by omega) ⟨hy, low8 hy (fun t ht8 => by rw [htb t (by omega), hi8 hs ht8, decide_eq_false (by omega), decide_eq_false (by omega)]; rfl)⟩ (fun t t0 t7 => by
          rw [htb t t0, ht t t0 t7]
          show _ = decide ((degN A t k + (if netR A t (k : Int) = true then 1 else 0)) % 2 = 1)
          by_cases q1 : t = A 11 (k : Int)
          · have hnr : netR A t (k : Int) = true := decide_eq_true ⟨h, Or.inl q1.symm⟩
            rw [hnr, if_pos rfl, decide_eq_true q1, decide_eq_false (show ¬ t = A 12 (k : Int) by omega)]
            by_cases hd : degN A t k % 2 = 1
            · rw [decide_eq_true hd, decide_eq_false (by omega)]; rfl
            · rw [decide_eq_false hd, decide_eq_true (by omega)]; rfl
          · by_cases q2 : t = A 12 (k : Int)
            · have hnr : netR A t (k : Int) = true := decide_eq_true ⟨h, Or.inr q2.symm⟩
              rw [hnr, if_pos rfl, decide_eq_true q2, decide_eq_false q1]
              by_cases hd : degN A t k % 2 = 1
              · rw [decide_eq_true hd, decide_eq_false (by omega)]; rfl
              · rw [decide_eq_false hd, decide_eq_true (by omega)]; rfl
            · have hnr : netR A t (k : Int) = false := decide_eq_false (fun z => by omega)
              rw [hnr, decide_eq_false q1, decide_eq_false q2]
              simp)
        rw [e] at this; exact this
      · have hnb : netB A (k : Int) = false := decide_eq_false h
        have e : nlenN A (k + 1) = nlenN A k := by
          show _ + (if _ then _ else _) = _; rw [hnb]; simp
        have := ih (k + 1) s (by omega) hs (fun t t0 t7 => by
          rw [ht t t0 t7]
          have hnr : netR A t (k : Int) = false := decide_eq_false (fun z => h z.1)
          show _ = decide ((degN A t k + (if netR A t (k : Int) = true then 1 else 0)) % 2 = 1)
          rw [hnr]; simp)
        rw [e] at this; exact this
  exact H46 _ 0 0 (Nat.zero_add _) (by omega) (fun t t0 t7 => by unfold tbt; simp [degN]))
