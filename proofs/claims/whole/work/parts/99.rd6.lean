def wp_X5_takesAsk (nn : Nat) (x1 : Int) (σ : Mem) (Q : Int → Mem → Prop) : Prop :=
  (σ 30 5 ≤ 301) ∧
   (((if 0 ≤ σ 35 2 ∧ σ 35 2 < σ 30 5 then σ 32 (σ 35 2) else 43) ≠ 27) →
    ∃ g5 : Int → Int, ∃ g6 : Int, ∃ g7 : Nat, ∃ g8 : Nat, ∃ g9 : Nat, ∃ g10 : Int, ((rdC σ g5 g6 g7 g8 ∧ σ g7 2 ≤ (g8 : Int) ∧ σ 35 3 = g10) ∧ x1 = 8 - (g9 : Int) ∧ g9 ≤ 8 ∧ g9 ≤ nn) ∧
    ∀ (u15 : Int) (σ14 : Mem), R32 u15 → OKm σ14 → (ansR g5 g6 g7 g8 (3 + 5 * (g9 : Int)) σ σ14 u15 (pS (kd g5 g6) (nu g5 g6) g10 g9 g8)) →
    ((u15 ≠ 0) →
     (σ14 30 5 ≤ 301) ∧
     ∀ y21 : Int, y21 = (if 0 ≤ σ14 35 2 ∧ σ14 35 2 < σ14 30 5 then σ14 32 (σ14 35 2) else 43) →
     (((28 ≤ y21 ∧ y21 ≤ 31) ∨ (39 ≤ y21 ∧ y21 ≤ 40)) →
      R32 ((σ14 35 2) + 1) ∧
      ∀ σ25 : Mem, σ25 = mset σ14 35 2 ((σ14 35 2) + 1) →
      ∃ g29 : Int → Int, ∃ g30 : Int, ∃ g31 : Nat, ∃ g32 : Nat, ∃ g33 : Nat, ∃ g34 : Int, ((rdC σ25 g29 g30 g31 g32 ∧ σ25 g31 2 ≤ (g32 : Int) ∧ σ25 35 3 = g34) ∧ x1 = 8 - (g33 : Int) ∧ g33 ≤ 8 ∧ g33 ≤ nn) ∧
      ∀ (u39 : Int) (σ38 : Mem), R32 u39 → OKm σ38 → (ansR g29 g30 g31 g32 (3 + 5 * (g33 : Int)) σ25 σ38 u39 (pS (kd g29 g30) (nu g29 g30) g34 g33 g32)) →
      ((u39 = 0) →
       Q 0 σ38) ∧
      ((u39 ≠ 0) →
       ∃ g42 : Int → Int, ∃ g43 : Int, ∃ g44 : Nat, ∃ g45 : Nat, (rdC σ38 g42 g43 g44 g45 ∧ σ38 g44 2 < 300) ∧
       ∀ (u50 : Int) (σ49 : Mem), R32 u50 → OKm σ49 → (u50 = 1 ∧ σ49 = emS σ38 g44 y21 0) →
       ((u50 = 0) →
        Q 0 σ49) ∧
       ((u50 ≠ 0) →
        Q 1 σ49))) ∧
     ((¬ ((28 ≤ y21 ∧ y21 ≤ 31) ∨ (39 ≤ y21 ∧ y21 ≤ 40))) →
      ∃ g53 : Int → Int, ∃ g54 : Int, ∃ g55 : Nat, ∃ g56 : Nat, (rdC σ14 g53 g54 g55 g56) ∧
      ∀ (u61 : Int) (σ60 : Mem), R32 u61 → OKm σ60 → (u61 = 0 ∧ σ60 = mset (mset σ14 35 4 (1 : Int)) 35 5 (ps g53 g54 g56)) →
      (u61 = 0 ∨ u61 = 1) ∧
      Q u61 σ60)) ∧
    ((u15 = 0) →
     Q 0 σ14)) ∧
   (((if 0 ≤ σ 35 2 ∧ σ 35 2 < σ 30 5 then σ 32 (σ 35 2) else 43) = 27) →
    ((x1 < 8) →
     R32 ((σ 35 2) + 1) ∧
     ∀ σ65 : Mem, σ65 = mset σ 35 2 ((σ 35 2) + 1) →
     R32 (x1 + 1) ∧
     ∃ g70 : Int → Int, ∃ g71 : Int, ∃ g72 : Nat, ∃ g73 : Nat, ∃ g74 : Nat, ∃ g75 : Int, ((rdC σ65 g70 g71 g72 g73 ∧ σ65 g72 2 ≤ (g73 : Int) ∧ σ65 35 3 = g75) ∧ (x1 + 1) = 8 - (g74 : Int) ∧ g74 ≤ 8 ∧ g74 < nn) ∧
     ∀ (u80 : Int) (σ79 : Mem), R32 u80 → OKm σ79 → (ansR g70 g71 g72 g73 (4 + 5 * (g74 : Int)) σ65 σ79 u80 (pA (kd g70 g71) (nu g70 g71) g75 g74 g73)) →
     ((u80 = 0) →
      Q 0 σ79) ∧
     ((u80 ≠ 0) →
      ∃ g83 : Int → Int, ∃ g84 : Int, ∃ g85 : Nat, ∃ g86 : Nat, (rdC σ79 g83 g84 g85 g86 ∧ σ79 g85 2 < 300) ∧
      ∀ (u91 : Int) (σ90 : Mem), R32 u91 → OKm σ90 → (u91 = 1 ∧ σ90 = emS σ79 g85 (27 : Int) 0) →
      ((u91 = 0) →
       Q 0 σ90) ∧
      ((u91 ≠ 0) →
       Q 1 σ90))) ∧
    ((8 ≤ x1) →
     ∃ g94 : Int → Int, ∃ g95 : Int, ∃ g96 : Nat, ∃ g97 : Nat, (rdC σ g94 g95 g96 g97) ∧
     ∀ (u102 : Int) (σ101 : Mem), R32 u102 → OKm σ101 → (u102 = 0 ∧ σ101 = mset (mset σ 35 4 (3 : Int)) 35 5 (ps g94 g95 g97)) →
     (u102 = 0 ∨ u102 = 1) ∧
     Q u102 σ101))
theorem mt_X5_takesAsk (nn : Nat) (i1 : SpS nn) (i2 : SpO nn) (i3 : SpA nn) (i4 : SpC nn) {d : Nat} (hd : 8 * nn + 8 ≤ d) {x1 : Int} {σ : Mem} {Q : Int → Mem → Prop} (hx1 : R32 x1) (hO : OKm σ) (h : wp_X5_takesAsk nn x1 σ Q) : Mt yX5_takesAsk cX5_takesAsk 3 (some .boolean) d [aR (35), aI (x1)] σ (QI Q) := by
  refine Mt.intro (by decide +kernel) (Nat.le_of_ble_eq_true rfl) [(0, aR (35)), (1, aI (x1))] rfl ?_
  unfold wp_X5_takesAsk at h
  refine G_aload_n 0 rfl rfl dX5_takesAsk_0 ?_
  obtain ⟨c1, h⟩ := h
  refine G_callV (as := []) cf_X5_42 rfl rfl rfl (sp_X5_kind (d - 1) (by omega) _ hO  c1) (by omega) rfl rfl (Nat.le_of_ble_eq_true rfl) dX5_takesAsk_1 ?_
  rintro _ _ ⟨_, rfl, rfl, rfl⟩ o3 r2
  refine G_bipush (by decide) dX5_takesAsk_4 ?_
  refine G_icmp_ne (r2 _ rfl) (rL 27 rfl) dX5_takesAsk_6 (tgt := 56) (by decide) (fun c4 => ?_) (fun c4 => ?_)
  · have h := h.1 c4
    refine G_aload_n 0 rfl rfl dX5_takesAsk_56 ?_
    refine G_iload_n 1 rfl rfl dX5_takesAsk_57 ?_
    obtain ⟨g5, g6, g7, g8, g9, g10, c11, h⟩ := h
    refine G_callV (as := [_]) cf_X5_102 rfl rfl rfl (sp_X5_takesSum nn i1 i2 i3 i4 (d - 1) (by omega) _ hO _ hx1 g5 g6 g7 g8 g9 g10 c11) (by omega) rfl rfl (Nat.le_of_ble_eq_true rfl) dX5_takesAsk_58 ?_
    rintro _ σ14 ⟨u15, rfl, z16⟩ o13 r12
    have h := h _ _ (r12 _ rfl) o13 z16
    refine G_if_ne (r12 _ rfl) dX5_takesAsk_61 (tgt := 66) (by decide) (fun c17 => ?_) (fun c17 => ?_)
    · have h := h.1 c17
      refine G_aload_n 0 rfl rfl dX5_takesAsk_66 ?_
      obtain ⟨c18, h⟩ := h
      refine G_callV (as := []) cf_X5_42 rfl rfl rfl (sp_X5_kind (d - 1) (by omega) _ o13  c18) (by omega) rfl rfl (Nat.le_of_ble_eq_true rfl) dX5_takesAsk_67 ?_
      rintro _ _ ⟨_, rfl, rfl, rfl⟩ o20 r19
      have h := h _ rfl
      refine G_istore_n (lv' := [(2, aI (((if 0 ≤ σ14 35 2 ∧ σ14 35 2 < σ14 30 5 then σ14 32 (σ14 35 2) else 43)))), (0, aR (35)), (1, aI (x1))]) rfl rfl (by decide) dX5_takesAsk_70 ?_
      refine G_iload_n 0 rfl rfl dX5_takesAsk_71 ?_
      refine G_callS (as := [_]) cf_X5_153 rfl (sp_X1_isAsking (d - 1) (by omega) _ o13 _ (r19 _ rfl)) (by omega) rfl rfl (Nat.le_of_ble_eq_true rfl) dX5_takesAsk_72 ?_
      rintro _ _ ⟨_, rfl, rfl, rfl⟩ o23 r22
      refine G_if_ne (bI_R _) dX5_takesAsk_75 (tgt := 84) (by decide) (fun c24 => ?_) (fun c24 => ?_)
      · have h := h.1 (bI_ne c24)
        refine G_aload_n 1 rfl rfl dX5_takesAsk_84 ?_
        refine G_dup rfl dX5_takesAsk_85 ?_
        refine G_get (k := 2) (kd := (0, 0)) (v := aI (σ14 35 2)) gf_X5_15 rfl rfl rfl rfl dX5_takesAsk_86 ?_
        refine G_iconst dX5_takesAsk_89 ?_
        refine G_iadd dX5_takesAsk_90 ?_
        obtain ⟨c26, h⟩ := h
        obtain ⟨σ25, e28⟩ : ∃ τ : Mem, τ = mset σ14 35 2 ((σ14 35 2) + 1) := ⟨_, rfl⟩
        have h := h σ25 e28
        have o27 : OKm σ25 := by rw [e28]; exact OKm.seti o13 _ _ _ c26 rfl
        refine G_put (k := 2) (ki := 2) (kd := (0, 0)) (x := _) pf_X5_15 rfl rfl rfl rfl (fa_i (mset_self _ _ _ _)) (fun _ => rfl) (fun _ => rfl) dX5_takesAsk_91 ?_
        rw [← e28]
        refine G_aload_n 1 rfl rfl dX5_takesAsk_94 ?_
        refine G_iload_n 2 rfl rfl dX5_takesAsk_95 ?_
        obtain ⟨g29, g30, g31, g32, g33, g34, c35, h⟩ := h
        refine G_callV (as := [_]) cf_X5_102 rfl rfl rfl (sp_X5_takesSum nn i1 i2 i3 i4 (d - 1) (by omega) _ o27 _ hx1 g29 g30 g31 g32 g33 g34 c35) (by omega) rfl rfl (Nat.le_of_ble_eq_true rfl) dX5_takesAsk_96 ?_
        rintro _ σ38 ⟨u39, rfl, z40⟩ o37 r36
        have h := h _ _ (r36 _ rfl) o37 z40
        refine G_if_eq (r36 _ rfl) dX5_takesAsk_99 (tgt := 114) (by decide) (fun c41 => ?_) (fun c41 => ?_)
        · have h := h.1 c41
          refine G_iconst dX5_takesAsk_114 ?_
          exact G_zret rfl (by decide) dX5_takesAsk_115 ⟨_, rfl, h⟩ o37
        · have h := h.2 c41
          refine G_aload_n 1 rfl rfl dX5_takesAsk_102 ?_
          refine G_iload_n 0 rfl rfl dX5_takesAsk_103 ?_
          obtain ⟨g42, g43, g44, g45, c46, h⟩ := h
          refine G_callV (as := [_]) cf_X5_131 rfl rfl rfl (sp_X5_emits (d - 1) (by omega) _ o37 _ (r19 _ rfl) g42 g43 g44 g45 c46) (by omega) rfl rfl (Nat.le_of_ble_eq_true rfl) dX5_takesAsk_104 ?_
          rintro _ σ49 ⟨u50, rfl, z51⟩ o48 r47
          have h := h _ _ (r47 _ rfl) o48 z51
          refine G_if_eq (r47 _ rfl) dX5_takesAsk_107 (tgt := 114) (by decide) (fun c52 => ?_) (fun c52 => ?_)
          · have h := h.1 c52
            refine G_iconst dX5_takesAsk_114 ?_
            exact G_zret rfl (by decide) dX5_takesAsk_115 ⟨_, rfl, h⟩ o48
          · have h := h.2 c52
            refine G_iconst dX5_takesAsk_110 ?_
            refine G_goto (tgt := 115) dX5_takesAsk_111 (by decide) ?_
            exact G_zret rfl (by decide) dX5_takesAsk_115 ⟨_, rfl, h⟩ o48
      · have h := h.2 ((bI_0 _).mp c24)
        refine G_aload_n 1 rfl rfl dX5_takesAsk_78 ?_
        refine G_iconst dX5_takesAsk_79 ?_
        obtain ⟨g53, g54, g55, g56, c57, h⟩ := h
        refine G_callV (as := [_]) cf_X5_59 rfl rfl rfl (sp_X5_fails (d - 1) (by omega) _ o13 _ (rL 1 rfl) g53 g54 g55 g56 c57) (by omega) rfl rfl (Nat.le_of_ble_eq_true rfl) dX5_takesAsk_80 ?_
        rintro _ σ60 ⟨u61, rfl, z62⟩ o59 r58
        have h := h _ _ (r58 _ rfl) o59 z62
        obtain ⟨c63, h⟩ := h
        exact G_zret rfl c63 dX5_takesAsk_83 ⟨_, rfl, h⟩ o59
    · have h := h.2 c17
      refine G_iconst dX5_takesAsk_64 ?_
      exact G_zret rfl (by decide) dX5_takesAsk_65 ⟨_, rfl, h⟩ o13
  · have h := h.2 c4
    refine G_iload_n 1 rfl rfl dX5_takesAsk_9 ?_
    refine G_bipush (by decide) dX5_takesAsk_10 ?_
    refine G_icmp_lt hx1 (rL 8 rfl) dX5_takesAsk_12 (tgt := 21) (by decide) (fun c64 => ?_) (fun c64 => ?_)
    · have h := h.1 c64
      refine G_aload_n 0 rfl rfl dX5_takesAsk_21 ?_
      refine G_dup rfl dX5_takesAsk_22 ?_
      refine G_get (k := 2) (kd := (0, 0)) (v := aI (σ 35 2)) gf_X5_15 rfl rfl rfl rfl dX5_takesAsk_23 ?_
      refine G_iconst dX5_takesAsk_26 ?_
      refine G_iadd dX5_takesAsk_27 ?_
      obtain ⟨c66, h⟩ := h
      obtain ⟨σ65, e68⟩ : ∃ τ : Mem, τ = mset σ 35 2 ((σ 35 2) + 1) := ⟨_, rfl⟩
      have h := h σ65 e68
      have o67 : OKm σ65 := by rw [e68]; exact OKm.seti hO _ _ _ c66 rfl
      refine G_put (k := 2) (ki := 2) (kd := (0, 0)) (x := _) pf_X5_15 rfl rfl rfl rfl (fa_i (mset_self _ _ _ _)) (fun _ => rfl) (fun _ => rfl) dX5_takesAsk_28 ?_
      rw [← e68]
      refine G_aload_n 0 rfl rfl dX5_takesAsk_31 ?_
      refine G_iload_n 1 rfl rfl dX5_takesAsk_32 ?_
      refine G_iconst dX5_takesAsk_33 ?_
      refine G_iadd dX5_takesAsk_34 ?_
      obtain ⟨c69, h⟩ := h
      obtain ⟨g70, g71, g72, g73, g74, g75, c76, h⟩ := h
      refine G_callV (as := [_]) cf_X5_150 rfl rfl rfl (i3 (d - 1) (by omega) _ o67 _ c69 g70 g71 g72 g73 g74 g75 c76) (by omega) rfl rfl (Nat.le_of_ble_eq_true rfl) dX5_takesAsk_35 ?_
      rintro _ σ79 ⟨u80, rfl, z81⟩ o78 r77
      have h := h _ _ (r77 _ rfl) o78 z81
      refine G_if_eq (r77 _ rfl) dX5_takesAsk_38 (tgt := 54) (by decide) (fun c82 => ?_) (fun c82 => ?_)
      · have h := h.1 c82
        refine G_iconst dX5_takesAsk_54 ?_
        exact G_zret rfl (by decide) dX5_takesAsk_55 ⟨_, rfl, h⟩ o78
      · have h := h.2 c82
        refine G_aload_n 0 rfl rfl dX5_takesAsk_41 ?_
        refine G_bipush (by decide) dX5_takesAsk_42 ?_
        obtain ⟨g83, g84, g85, g86, c87, h⟩ := h
        refine G_callV (as := [_]) cf_X5_131 rfl rfl rfl (sp_X5_emits (d - 1) (by omega) _ o78 _ (rL 27 rfl) g83 g84 g85 g86 c87) (by omega) rfl rfl (Nat.le_of_ble_eq_true rfl) dX5_takesAsk_44 ?_
        rintro _ σ90 ⟨u91, rfl, z92⟩ o89 r88
        have h := h _ _ (r88 _ rfl) o89 z92
        refine G_if_eq (r88 _ rfl) dX5_takesAsk_47 (tgt := 54) (by decide) (fun c93 => ?_) (fun c93 => ?_)
        · have h := h.1 c93
          refine G_iconst dX5_takesAsk_54 ?_
          exact G_zret rfl (by decide) dX5_takesAsk_55 ⟨_, rfl, h⟩ o89
        · have h := h.2 c93
          refine G_iconst dX5_takesAsk_50 ?_
          refine G_goto (tgt := 55) dX5_takesAsk_51 (by decide) ?_
          exact G_zret rfl (by decide) dX5_takesAsk_55 ⟨_, rfl, h⟩ o89
    · have h := h.2 c64
      refine G_aload_n 0 rfl rfl dX5_takesAsk_15 ?_
      refine G_iconst dX5_takesAsk_16 ?_
      obtain ⟨g94, g95, g96, g97, c98, h⟩ := h
      refine G_callV (as := [_]) cf_X5_59 rfl rfl rfl (sp_X5_fails (d - 1) (by omega) _ hO _ (rL 3 rfl) g94 g95 g96 g97 c98) (by omega) rfl rfl (Nat.le_of_ble_eq_true rfl) dX5_takesAsk_17 ?_
      rintro _ σ101 ⟨u102, rfl, z103⟩ o100 r99
      have h := h _ _ (r99 _ rfl) o100 z103
      obtain ⟨c104, h⟩ := h
      exact G_zret rfl c104 dX5_takesAsk_20 ⟨_, rfl, h⟩ o100

theorem sp_X5_takesAsk (nn : Nat) (i1 : SpS nn) (i2 : SpO nn) (i3 : SpA nn) (i4 : SpC nn) (d : Nat) (hd : 8 * nn + 8 ≤ d) (σ : Mem) (hO : OKm σ) (x1 : Int) (hx1 : R32 x1) (b : Int → Int) (N : Int) (p : Nat) (i : Nat) (n : Nat) (lw : Int) (hpre : (rdC σ b N p i ∧ σ p 2 ≤ (i : Int) ∧ σ 35 3 = lw) ∧ x1 = 8 - (n : Int) ∧ n ≤ 8 ∧ n ≤ nn) : Mt yX5_takesAsk cX5_takesAsk 3 (some .boolean) d [aR (35), aI (x1)] σ (QI (fun v σ' => ansR b N p i (4 + 5 * (n : Int)) σ σ' v (pA (kd b N) (nu b N) lw n i))) := mt_X5_takesAsk nn i1 i2 i3 i4 hd hx1 hO (by
  unfold wp_X5_takesAsk
  obtain ⟨⟨hr, hz, hlw⟩, hx, hn8, hnn⟩ := hpre
  have hB := hr.1.1
  have hp := hr.1.2.2
  have hM := nu_nn hB
  have hlt : ∀ k, kd b N k ≠ 43 → k < 300 := fun k h => by have := (kd_lt hB h).1; omega
  have e35 := hr.2.2.1
  refine ⟨hr.1.2.1.1.2, ?_⟩
  rw [hr.kind, e35]
  refine ⟨fun hk => ?_, fun hk => ⟨fun h8 => ?_, fun h8 => ?_⟩⟩
  · have ep := pA_cmp (K := kd b N) (M := nu b N) (lw := lw) (n := n) (i := i) hk
    refine ⟨b, N, p, i, n, lw, ⟨⟨hr, hz, hlw⟩, hx, hn8, hnn⟩, fun u ρ _ _ h => ?_⟩
    cases hq : pS (kd b N) (nu b N) lw n i with
    | inl e =>
      obtain ⟨hv, he⟩ := h.E hq
      exact ⟨fun q => absurd hv q, fun _ => he.ans (by rw [ep, pB_er hq]) rfl⟩
    | inr q =>
      obtain ⟨f, j⟩ := q
      obtain ⟨hv, ho⟩ := h.O hq
      have hrj := ho.rd hr
      have gf := pS_g (lw := lw) hM n _ _ _ hq
      rw [pB_ok hq] at ep
      refine ⟨fun _ => ⟨hrj.1.2.1.1.2, fun y ey => ?_⟩, fun q => absurd q (by omega)⟩
      rw [hrj.kind] at ey
      subst ey
      rw [hrj.2.2.1]
      refine ⟨fun hy => ⟨by have := hrj.2.2.2.1; unfold R32; omega, fun σ25 e25 => ?_⟩, fun hy => ⟨b, N, p, j, hrj, fun u2 ρ2 _ _ ⟨e1, e2⟩ => ⟨.inl e1, ?_⟩⟩⟩
      · rw [if_pos hy] at ep
        have hj := hlt j (by omega)
        have ha : adv p j ρ σ25 := adv.mk hp ho.1.2.2.2 e25
        have hr2 := ha.rd hrj (by omega)
        refine ⟨b, N, p, j + 1, n, lw, ⟨⟨hr2, okQ.le2 ho ha hz, by rw [ha.lw, ho.lw]; exact hlw⟩, hx, hn8, hnn⟩, fun u3 ρ3 _ _ h3 => ?_⟩
        cases hq3 : pS (kd b N) (nu b N) lw n (j + 1) with
        | inl e =>
          obtain ⟨hv3, he3⟩ := h3.E hq3
          exact ⟨fun _ => (he3.pre (ho.1.tr ha.1)).ans (by rw [ep, pB_er hq3]) rfl, fun q => absurd hv3 q⟩
        | inr q =>
          obtain ⟨g, k⟩ := q
          obtain ⟨hv3, ho3⟩ := h3.O hq3
          have gg := pS_g (lw := lw) hM n _ _ _ hq3
          rw [pB_ok hq3] at ep
          have hfl := okQ.full2 ho ha ho3 hz
          refine ⟨fun q => absurd q (by omega), fun _ => ⟨b, N, p, k, ⟨ho3.rd hr2, hfl.1⟩, fun u4 ρ4 _ _ ⟨h4, e4⟩ => ⟨fun q => absurd q (by omega), fun _ => ?_⟩⟩⟩
          exact (okQ.join hp ho ha ho3 hz e4 (by omega) (gB.ask (lw := lw) hy gf.1 gg.1).1.1 (by omega) (by omega)).ans ep rfl
      · rw [if_neg hy] at ep
        exact ((erR.fail hrj e2).pre ho.1).ans ep e1
  · obtain ⟨m, rfl⟩ : ∃ m, n = m + 1 := ⟨n - 1, by omega⟩
    have hi : i < 300 := hlt i (by omega)
    have ep := pA_not (K := kd b N) (M := nu b N) (lw := lw) (n := m) (i := i) hk
    refine ⟨by unfold R32; omega, fun σ13 e13 => ?_⟩
    have ha : adv p i σ σ13 := adv.mk hp hr.2.2.2.2 e13
    have hr' := ha.rd hr (by omega)
    refine ⟨by unfold R32; omega, b, N, p, i + 1, m, lw, ⟨⟨hr', by rw [ha.2.2.1]; omega, by rw [ha.lw]; exact hlw⟩, by omega, by omega, by omega⟩, fun u ρ _ _ h => ?_⟩
    cases hq : pA (kd b N) (nu b N) lw m (i + 1) with
    | inl e =>
      obtain ⟨hv, he⟩ := h.E hq
      exact ⟨fun _ => (he.pre ha.1).ans (by rw [ep, pB_er hq]) rfl, fun q => absurd hv q⟩
    | inr q =>
      obtain ⟨f, j⟩ := q
      obtain ⟨hv, ho⟩ := h.O hq
      have gf := pA_g (lw := lw) hM m _ _ _ hq
      rw [pB_ok hq] at ep
      refine ⟨fun q => absurd q (by omega), fun _ => ⟨b, N, p, j, ⟨ho.rd hr', okQ.full ha ho hz⟩, fun u4 ρ4 _ _ ⟨h4, e4⟩ => ⟨fun q => absurd q (by omega), fun _ => ?_⟩⟩⟩
      exact ((okQ.alone hp ha ho hz e4 (.inr (.inl rfl)) gf.1.not.1.1).le (by omega)).ans ep rfl
  · have hn0 : n = 0 := by omega
    subst hn0
    exact ⟨b, N, p, i, hr, fun u ρ _ _ ⟨e1, e2⟩ => ⟨.inl e1, (erR.fail hr e2).ans (pA_deep hk) e1⟩⟩)

def wp_X5_takesBoth (nn : Nat) (x1 : Int) (σ : Mem) (Q : Int → Mem → Prop) : Prop :=
 ∀ P8 : Int → Int → Int → Mem → Prop,
 (∀ (v1 : Int) (v2 : Int) (v3 : Int) (σ : Mem), (R32 v1 → R32 v2 → R32 v3 → OKm σ →
   ((300 ≤ v3) →
     (v2 = 0 ∨ v2 = 1) ∧
     Q v2 σ) ∧
    ((v3 < 300) →
     ((v2 = 0) →
      (v2 = 0 ∨ v2 = 1) ∧
      Q v2 σ) ∧
     ((v2 ≠ 0) →
      (σ 30 5 ≤ 301) ∧
      (((if 0 ≤ σ 35 2 ∧ σ 35 2 < σ 30 5 then σ 32 (σ 35 2) else 43) ≠ 26) →
       (v2 = 0 ∨ v2 = 1) ∧
       Q v2 σ) ∧
      (((if 0 ≤ σ 35 2 ∧ σ 35 2 < σ 30 5 then σ 32 (σ 35 2) else 43) = 26) →
       R32 ((σ 35 2) + 1) ∧
       ∀ σ22 : Mem, σ22 = mset σ 35 2 ((σ 35 2) + 1) →
       ∃ g26 : Int → Int, ∃ g27 : Int, ∃ g28 : Nat, ∃ g29 : Nat, ∃ g30 : Nat, ∃ g31 : Int, ((rdC σ22 g26 g27 g28 g29 ∧ σ22 g28 2 ≤ (g29 : Int) ∧ σ22 35 3 = g31) ∧ v1 = 8 - (g30 : Int) ∧ g30 ≤ 8 ∧ g30 ≤ nn) ∧
       ∀ (u36 : Int) (σ35 : Mem), R32 u36 → OKm σ35 → (ansR g26 g27 g28 g29 (4 + 5 * (g30 : Int)) σ22 σ35 u36 (pA (kd g26 g27) (nu g26 g27) g31 g30 g29)) →
       ∃ t38 : Nat, isText t38 ∧ σ35 35 1 = (t38 : Int) ∧
       (0 ≤ σ35 t38 2) ∧
       ∀ (u45 : Int) (σ44 : Mem), u45 = (if σ35 t38 2 < 300 then σ35 t38 2 else -1) → σ44 = (if σ35 t38 2 < 300 then mset (mset (mset σ35 (t38 + 1) (σ35 t38 2) (26 : Int)) (t38 + 2) (σ35 t38 2) (0 : Int)) t38 2 (σ35 t38 2 + 1) else σ35) →
       R32 (v3 + 1) ∧ P8 v1 u36 (v3 + 1) σ44)))) → P8 v1 v2 v3 σ) →
  ∃ g1 : Int → Int, ∃ g2 : Int, ∃ g3 : Nat, ∃ g4 : Nat, ∃ g5 : Nat, ∃ g6 : Int, ((rdC σ g1 g2 g3 g4 ∧ σ g3 2 ≤ (g4 : Int) ∧ σ 35 3 = g6) ∧ x1 = 8 - (g5 : Int) ∧ g5 ≤ 8 ∧ g5 ≤ nn) ∧
   ∀ (u11 : Int) (σ10 : Mem), R32 u11 → OKm σ10 → (ansR g1 g2 g3 g4 (4 + 5 * (g5 : Int)) σ σ10 u11 (pA (kd g1 g2) (nu g1 g2) g6 g5 g4)) →
   P8 x1 u11 0 σ10
theorem mt_X5_takesBoth (nn : Nat) (i1 : SpS nn) (i2 : SpO nn) (i3 : SpA nn) (i4 : SpC nn) {d : Nat} (hd : 8 * nn + 9 ≤ d) {x1 : Int} {σ : Mem} {Q : Int → Mem → Prop} (hx1 : R32 x1) (hO : OKm σ) (h : wp_X5_takesBoth nn x1 σ Q) : Mt yX5_takesBoth cX5_takesBoth 4 (some .boolean) d [aR (35), aI (x1)] σ (QI Q) := by
  refine Mt.intro (by decide +kernel) (Nat.le_of_ble_eq_true rfl) [(0, aR (35)), (1, aI (x1))] rfl ?_
  unfold wp_X5_takesBoth at h
  have h := h (fun (v1 : Int) (v2 : Int) (v3 : Int) (σ : Mem) => R32 v1 → R32 v2 → R32 v3 → OKm σ → G yX5_takesBoth cX5_takesBoth 4 (some .boolean) d (QI Q) 8 [(0, aR (35)), (1, aI (v1)), (2, aI (v2)), (3, aI (v3))] [] σ) ?_
  · refine G_aload_n 0 rfl rfl dX5_takesBoth_0 ?_
    refine G_iload_n 1 rfl rfl dX5_takesBoth_1 ?_
    obtain ⟨g1, g2, g3, g4, g5, g6, c7, h⟩ := h
    refine G_callV (as := [_]) cf_X5_150 rfl rfl rfl (sp_X5_takesAsk nn i1 i2 i3 i4 (d - 1) (by omega) _ hO _ hx1 g1 g2 g3 g4 g5 g6 c7) (by omega) rfl rfl (Nat.le_of_ble_eq_true rfl) dX5_takesBoth_2 ?_
    rintro _ σ10 ⟨u11, rfl, z12⟩ o9 r8
    have h := h _ _ (r8 _ rfl) o9 z12
    refine G_istore_n (lv' := [(2, aI (u11)), (0, aR (35)), (1, aI (x1))]) rfl rfl (by decide) dX5_takesBoth_5 ?_
    refine G_iconst dX5_takesBoth_6 ?_
    refine G_istore_n (lv' := [(3, aI (0)), (2, aI (u11)), (0, aR (35)), (1, aI (x1))]) rfl rfl (by decide) dX5_takesBoth_7 ?_
    exact G_pick [2, 3, 1, 0] rfl (h hx1 (r8 _ rfl) (rL 0 rfl) o9)
  · intro v1 v2 v3 σ h hv1 hv2 hv3 hO
    have h := h hv1 hv2 hv3 hO
    refine G_iload_n 3 rfl rfl dX5_takesBoth_8 ?_
    refine G_sipush (by decide) dX5_takesBoth_9 ?_
    refine G_icmp_ge hv3 (rL 300 rfl) dX5_takesBoth_12 (tgt := 61) (by decide) (fun c13 => ?_) (fun c13 => ?_)
    · have h := h.1 c13
      refine G_iload_n 2 rfl rfl dX5_takesBoth_61 ?_
      obtain ⟨c14, h⟩ := h
      exact G_zret rfl c14 dX5_takesBoth_62 ⟨_, rfl, h⟩ hO
    · have h := h.2 c13
      refine G_iload_n 2 rfl rfl dX5_takesBoth_15 ?_
      refine G_if_eq hv2 dX5_takesBoth_16 (tgt := 61) (by decide) (fun c15 => ?_) (fun c15 => ?_)
      · have h := h.1 c15
        refine G_iload_n 2 rfl rfl dX5_takesBoth_61 ?_
        obtain ⟨c16, h⟩ := h
        exact G_zret rfl c16 dX5_takesBoth_62 ⟨_, rfl, h⟩ hO
      · have h := h.2 c15
        refine G_aload_n 0 rfl rfl dX5_takesBoth_19 ?_
        obtain ⟨c17, h⟩ := h
        refine G_callV (as := []) cf_X5_42 rfl rfl rfl (sp_X5_kind (d - 1) (by omega) _ hO  c17) (by omega) rfl rfl (Nat.le_of_ble_eq_true rfl) dX5_takesBoth_20 ?_
        rintro _ _ ⟨_, rfl, rfl, rfl⟩ o19 r18
        refine G_bipush (by decide) dX5_takesBoth_23 ?_
        refine G_icmp_ne (r18 _ rfl) (rL 26 rfl) dX5_takesBoth_25 (tgt := 61) (by decide) (fun c20 => ?_) (fun c20 => ?_)
        · have h := h.1 c20
          refine G_iload_n 2 rfl rfl dX5_takesBoth_61 ?_
          obtain ⟨c21, h⟩ := h
          exact G_zret rfl c21 dX5_takesBoth_62 ⟨_, rfl, h⟩ hO
        · have h := h.2 c20
          refine G_aload_n 0 rfl rfl dX5_takesBoth_28 ?_
          refine G_dup rfl dX5_takesBoth_29 ?_
          refine G_get (k := 2) (kd := (0, 0)) (v := aI (σ 35 2)) gf_X5_15 rfl rfl rfl rfl dX5_takesBoth_30 ?_
          refine G_iconst dX5_takesBoth_33 ?_
          refine G_iadd dX5_takesBoth_34 ?_
          obtain ⟨c23, h⟩ := h
          obtain ⟨σ22, e25⟩ : ∃ τ : Mem, τ = mset σ 35 2 ((σ 35 2) + 1) := ⟨_, rfl⟩
          have h := h σ22 e25
          have o24 : OKm σ22 := by rw [e25]; exact OKm.seti hO _ _ _ c23 rfl
          refine G_put (k := 2) (ki := 2) (kd := (0, 0)) (x := _) pf_X5_15 rfl rfl rfl rfl (fa_i (mset_self _ _ _ _)) (fun _ => rfl) (fun _ => rfl) dX5_takesBoth_35 ?_
          rw [← e25]
          refine G_aload_n 0 rfl rfl dX5_takesBoth_38 ?_
          refine G_iload_n 1 rfl rfl dX5_takesBoth_39 ?_
          obtain ⟨g26, g27, g28, g29, g30, g31, c32, h⟩ := h
          refine G_callV (as := [_]) cf_X5_150 rfl rfl rfl (sp_X5_takesAsk nn i1 i2 i3 i4 (d - 1) (by omega) _ o24 _ hv1 g26 g27 g28 g29 g30 g31 c32) (by omega) rfl rfl (Nat.le_of_ble_eq_true rfl) dX5_takesBoth_40 ?_
          rintro _ σ35 ⟨u36, rfl, z37⟩ o34 r33
          have h := h _ _ (r33 _ rfl) o34 z37
          refine G_istore_n (lv' := [(2, aI (u36)), (0, aR (35)), (1, aI (v1)), (3, aI (v3))]) rfl rfl (by decide) dX5_takesBoth_43 ?_
          refine G_aload_n 1 rfl rfl dX5_takesBoth_44 ?_
          obtain ⟨t38, c39, c40, h⟩ := h
          refine G_get (k := 1) (kd := (4, 0)) (v := aR t38) gf_X5_9 rfl rfl rfl (fa_text c39 c40) dX5_takesBoth_45 ?_
          refine G_bipush (by decide) dX5_takesBoth_48 ?_
          refine G_iconst dX5_takesBoth_50 ?_
          obtain ⟨c41, h⟩ := h
          refine G_callV (as := [_, _]) cf_X5_112 rfl (shT c39) rfl (sp_X9_emit (d - 1) (by omega) _ o34 _ c39 _ (rL 26 rfl) _ (rL 0 rfl) c41) (by omega) rfl rfl (Nat.le_of_ble_eq_true rfl) dX5_takesBoth_51 ?_
          rintro _ σ44 ⟨u45, rfl, e47, e46⟩ o43 r42
          have h := h u45 σ44 e47 e46
          refine G_pop rfl dX5_takesBoth_54 ?_
          refine G_iinc (lv' := [(3, aI ((v3 + 1))), (2, aI (u36)), (0, aR (35)), (1, aI (v1))]) (k := 3) rfl rfl (by decide) dX5_takesBoth_55 ?_
          refine G_goto (tgt := 8) dX5_takesBoth_58 (by decide) ?_
          obtain ⟨c48, h⟩ := h
          exact G_pick [2, 3, 1, 0] rfl (h hv1 (r33 _ rfl) c48 o43)

theorem sp_X5_takesBoth (nn : Nat) (i1 : SpS nn) (i2 : SpO nn) (i3 : SpA nn) (i4 : SpC nn) (d : Nat) (hd : 8 * nn + 9 ≤ d) (σ : Mem) (hO : OKm σ) (x1 : Int) (hx1 : R32 x1) (b : Int → Int) (N : Int) (p : Nat) (i : Nat) (n : Nat) (lw : Int) (hpre : (rdC σ b N p i ∧ σ p 2 ≤ (i : Int) ∧ σ 35 3 = lw) ∧ x1 = 8 - (n : Int) ∧ n ≤ 8 ∧ n ≤ nn) : Mt yX5_takesBoth cX5_takesBoth 4 (some .boolean) d [aR (35), aI (x1)] σ (QI (fun v σ' => ansR b N p i (5 + 5 * (n : Int)) σ σ' v (pBt (kd b N) (nu b N) lw n i))) := mt_X5_takesBoth nn i1 i2 i3 i4 hd hx1 hO (by
  unfold wp_X5_takesBoth
  obtain ⟨⟨hr, hz, hlw⟩, hx, hn8, hnn⟩ := hpre
  have hB := hr.1.1
  have hp := hr.1.2.2
  have hM := nu_nn hB
  have hlt : ∀ k, kd b N k ≠ 43 → k < 300 := fun k h => by have := (kd_lt hB h).1; omega
  have e35 := hr.2.2.1
  intro PP hP
  have HE : ∀ (v3 : Int) (e : Int × Nat) (τ : Mem), erR b N p σ τ e → pBt (kd b N) (nu b N) lw n i = .inl e → PP x1 0 v3 τ := by
    intro v3 e τ he hq
    have hQ : ansR b N p i (5 + 5 * (n : Int)) σ τ 0 (pBt (kd b N) (nu b N) lw n i) := he.ans hq rfl
    exact hP _ _ _ _ (fun _ _ _ _ => ⟨fun _ => ⟨.inl rfl, hQ⟩, fun _ => ⟨fun _ => ⟨.inl rfl, hQ⟩, fun q => absurd rfl q⟩⟩)
  have H : ∀ (k : Nat) (v3 : Int) (j : Nat) (f : Env → Int) (τ : Mem), v3 + k = 300 → 0 ≤ v3 → okQ p i j (5 + 5 * (n : Int)) σ τ f → gB lw f → pBt (kd b N) (nu b N) lw n i = pTl (kd b N) oAn (pA (kd b N) (nu b N) lw n) k f j → PP x1 1 v3 τ := by
    intro k
    induction k with
    | zero =>
      intro v3 j f τ hk h0 ho gf he
      exact hP _ _ _ _ (fun _ _ _ _ => ⟨fun _ => ⟨.inr rfl, ho.ans (by rw [he]; rfl) rfl⟩, fun h => absurd h (by omega)⟩)
    | succ k ih =>
      intro v3 j f τ hk h0 ho gf he
      have hrj := ho.rd hr
      have stop : oAn (kd b N j) = false → ansR b N p i (5 + 5 * (n : Int)) σ τ 1 (pBt (kd b N) (nu b N) lw n i) := fun q => ho.ans (by rw [he]; show (if oAn (kd b N j) = true then _ else _) = _; rw [q]; rfl) rfl
      have step : ∀ y : Int, y = kd b N j → oAn y = true → R32 ((j : Int) + 1) ∧ ∀ σ25 : Mem, σ25 = mset τ 35 2 ((j : Int) + 1) → ∃ g29 : Int → Int, ∃ g30 : Int, ∃ g31 : Nat, ∃ g32 : Nat, ∃ g33 : Nat, ∃ g34 : Int, ((rdC σ25 g29 g30 g31 g32 ∧ σ25 g31 2 ≤ (g32 : Int) ∧ σ25 35 3 = g34) ∧ x1 = 8 - (g33 : Int) ∧ g33 ≤ 8 ∧ g33 ≤ nn) ∧ ∀ (u39 : Int) (σ38 : Mem), R32 u39 → OKm σ38 → (ansR g29 g30 g31 g32 (4 + 5 * (g33 : Int)) σ25 σ38 u39 (pA (kd g29 g30) (nu g29 g30) g34 g33 g32)) → ∃ t41 : Nat, isText t41 ∧ σ38 35 1 = (t41 : Int) ∧ (0 ≤ σ38 t41 2) ∧ ∀ (u48 : Int) (σ47 : Mem), u48 = (if σ38 t41 2 < 300 then σ38 t41 2 else -1) → σ47 = (if σ38 t41 2 < 300 then mset (mset (mset σ38 (t41 + 1) (σ38 t41 2) y) (t41 + 2) (σ38 t41 2) (0 : Int)) t41 2 (σ38 t41 2 + 1) else σ38) → R32 (v3 + 1) ∧ PP x1 u39 (v3 + 1) σ47 := by
        intro y ey hy
        have hj := hlt j (by intro q; rw [ey, q] at hy; exact absurd hy (by decide))
        refine ⟨by unfold R32; omega, fun σ25 e25 => ?_⟩
        have ha : adv p j τ σ25 := adv.mk hp ho.1.2.2.2 e25
        refine ⟨b, N, p, j + 1, n, lw, ⟨⟨ha.rd hrj (by omega), okQ.le2 ho ha hz, by rw [ha.lw, ho.lw]; exact hlw⟩, hx, hn8, hnn⟩, fun u ρ _ _ h => ?_⟩
        have hpl : pTl (kd b N) oAn (pA (kd b N) (nu b N) lw n) (k + 1) f j = pB (pA (kd b N) (nu b N) lw n (j + 1)) (fun g j' => pTl (kd b N) oAn (pA (kd b N) (nu b N) lw n) k (fun e => jn y (f e) (g e)) j') := by
          show (if oAn (kd b N j) = true then _ else _) = _
          rw [← ey, if_pos hy]
        rw [hpl] at he
        cases hq : pA (kd b N) (nu b N) lw n (j + 1) with
        | inl e =>
          obtain ⟨hv, hee⟩ := h.E hq
          have hee' := hee.pre (ho.1.tr ha.1)
          refine ⟨p, hp, by rw [hee'.1.2.1 1 (by omega) (by omega) (by omega)]; exact hr.2.1, hee'.1.2.2.2.1, fun u2 τ2 _ e2 => ⟨by unfold R32; omega, ?_⟩⟩
          rw [hv]
          exact HE (v3 + 1) e τ2 (erR.emq hp hee' e2) (by rw [he, pB_er hq])
        | inr q =>
          obtain ⟨g, k'⟩ := q
          obtain ⟨hv, hoo⟩ := h.O hq
          have gg := pA_g (lw := lw) hM n _ _ _ hq
          have hfl := okQ.full2 ho ha hoo hz
          refine ⟨p, hp, by rw [hoo.1.2.1 1 (by omega) (by omega) (by omega), ha.1.2.1 1 (by omega) (by omega) (by omega), ho.1.2.1 1 (by omega) (by omega) (by omega)]; exact hr.2.1, hoo.1.2.2.2.1, fun u2 τ2 _ e2 => ⟨by unfold R32; omega, ?_⟩⟩
          rw [if_pos hfl.1] at e2
          rw [hv]
          have gc := oAn_g (lw := lw) y f g hy gf gg.1
          have hyc := hy
          unfold oAn at hyc; rw [decide_eq_true_eq] at hyc
          exact ih (v3 + 1) k' _ τ2 (by omega) (by omega) (okQ.join hp ho ha hoo hz e2 (by omega) gc.1.1 (by omega) (by omega)) gc (by rw [he, pB_ok hq])
      refine hP _ _ _ _ (fun _ _ _ _ => ⟨fun h => absurd h (by omega), fun _ => ⟨fun q => absurd q (by omega), fun _ => ⟨hrj.1.2.1.1.2, ?_⟩⟩⟩)
      rw [hrj.kind, hrj.2.2.1]
      refine ⟨fun q => ⟨.inr rfl, stop (decide_eq_false q)⟩, fun q => ?_⟩
      have := step 26 q.symm (by decide)
      exact this
  refine ⟨b, N, p, i, n, lw, ⟨⟨hr, hz, hlw⟩, hx, hn8, hnn⟩, fun u ρ _ _ h => ?_⟩
  have ec : pBt (kd b N) (nu b N) lw n i = pB (pA (kd b N) (nu b N) lw n i) (fun f j => pTl (kd b N) oAn (pA (kd b N) (nu b N) lw n) 300 f j) := by rw [pBt_eq]; rfl
  cases hq : pA (kd b N) (nu b N) lw n i with
  | inl e =>
    obtain ⟨hv, hee⟩ := h.E hq
    rw [hv]
    exact HE 0 e ρ hee (by rw [ec, pB_er hq])
  | inr q =>
    obtain ⟨g, j⟩ := q
    obtain ⟨hv, hoo⟩ := h.O hq
    rw [hv]
    exact H 300 0 j g ρ (by omega) (by omega) (hoo.le (by omega)) (pA_g (lw := lw) hM n _ _ _ hq).1 (by rw [ec, pB_ok hq]))

def wp_X5_takesEither (nn : Nat) (x1 : Int) (σ : Mem) (Q : Int → Mem → Prop) : Prop :=
 ∀ P8 : Int → Int → Int → Mem → Prop,
 (∀ (v1 : Int) (v2 : Int) (v3 : Int) (σ : Mem), (R32 v1 → R32 v2 → R32 v3 → OKm σ →
   ((300 ≤ v3) →
     (v2 = 0 ∨ v2 = 1) ∧
     Q v2 σ) ∧
    ((v3 < 300) →
     ((v2 = 0) →
      (v2 = 0 ∨ v2 = 1) ∧
      Q v2 σ) ∧
     ((v2 ≠ 0) →
      (σ 30 5 ≤ 301) ∧
      (((if 0 ≤ σ 35 2 ∧ σ 35 2 < σ 30 5 then σ 32 (σ 35 2) else 43) ≠ 25) →
       (v2 = 0 ∨ v2 = 1) ∧
       Q v2 σ) ∧
      (((if 0 ≤ σ 35 2 ∧ σ 35 2 < σ 30 5 then σ 32 (σ 35 2) else 43) = 25) →
       R32 ((σ 35 2) + 1) ∧
       ∀ σ22 : Mem, σ22 = mset σ 35 2 ((σ 35 2) + 1) →
       ∃ g26 : Int → Int, ∃ g27 : Int, ∃ g28 : Nat, ∃ g29 : Nat, ∃ g30 : Nat, ∃ g31 : Int, ((rdC σ22 g26 g27 g28 g29 ∧ σ22 g28 2 ≤ (g29 : Int) ∧ σ22 35 3 = g31) ∧ v1 = 8 - (g30 : Int) ∧ g30 ≤ 8 ∧ g30 ≤ nn) ∧
       ∀ (u36 : Int) (σ35 : Mem), R32 u36 → OKm σ35 → (ansR g26 g27 g28 g29 (5 + 5 * (g30 : Int)) σ22 σ35 u36 (pBt (kd g26 g27) (nu g26 g27) g31 g30 g29)) →
       ∃ t38 : Nat, isText t38 ∧ σ35 35 1 = (t38 : Int) ∧
       (0 ≤ σ35 t38 2) ∧
       ∀ (u45 : Int) (σ44 : Mem), u45 = (if σ35 t38 2 < 300 then σ35 t38 2 else -1) → σ44 = (if σ35 t38 2 < 300 then mset (mset (mset σ35 (t38 + 1) (σ35 t38 2) (25 : Int)) (t38 + 2) (σ35 t38 2) (0 : Int)) t38 2 (σ35 t38 2 + 1) else σ35) →
       R32 (v3 + 1) ∧ P8 v1 u36 (v3 + 1) σ44)))) → P8 v1 v2 v3 σ) →
  ∃ g1 : Int → Int, ∃ g2 : Int, ∃ g3 : Nat, ∃ g4 : Nat, ∃ g5 : Nat, ∃ g6 : Int, ((rdC σ g1 g2 g3 g4 ∧ σ g3 2 ≤ (g4 : Int) ∧ σ 35 3 = g6) ∧ x1 = 8 - (g5 : Int) ∧ g5 ≤ 8 ∧ g5 ≤ nn) ∧
   ∀ (u11 : Int) (σ10 : Mem), R32 u11 → OKm σ10 → (ansR g1 g2 g3 g4 (5 + 5 * (g5 : Int)) σ σ10 u11 (pBt (kd g1 g2) (nu g1 g2) g6 g5 g4)) →
   P8 x1 u11 0 σ10
theorem mt_X5_takesEither (nn : Nat) (i1 : SpS nn) (i2 : SpO nn) (i3 : SpA nn) (i4 : SpC nn) {d : Nat} (hd : 8 * nn + 10 ≤ d) {x1 : Int} {σ : Mem} {Q : Int → Mem → Prop} (hx1 : R32 x1) (hO : OKm σ) (h : wp_X5_takesEither nn x1 σ Q) : Mt yX5_takesEither cX5_takesEither 4 (some .boolean) d [aR (35), aI (x1)] σ (QI Q) := by
  refine Mt.intro (by decide +kernel) (Nat.le_of_ble_eq_true rfl) [(0, aR (35)), (1, aI (x1))] rfl ?_
  unfold wp_X5_takesEither at h
  have h := h (fun (v1 : Int) (v2 : Int) (v3 : Int) (σ : Mem) => R32 v1 → R32 v2 → R32 v3 → OKm σ → G yX5_takesEither cX5_takesEither 4 (some .boolean) d (QI Q) 8 [(0, aR (35)), (1, aI (v1)), (2, aI (v2)), (3, aI (v3))] [] σ) ?_
  · refine G_aload_n 0 rfl rfl dX5_takesEither_0 ?_
    refine G_iload_n 1 rfl rfl dX5_takesEither_1 ?_
    obtain ⟨g1, g2, g3, g4, g5, g6, c7, h⟩ := h
    refine G_callV (as := [_]) cf_X5_147 rfl rfl rfl (sp_X5_takesBoth nn i1 i2 i3 i4 (d - 1) (by omega) _ hO _ hx1 g1 g2 g3 g4 g5 g6 c7) (by omega) rfl rfl (Nat.le_of_ble_eq_true rfl) dX5_takesEither_2 ?_
    rintro _ σ10 ⟨u11, rfl, z12⟩ o9 r8
    have h := h _ _ (r8 _ rfl) o9 z12
    refine G_istore_n (lv' := [(2, aI (u11)), (0, aR (35)), (1, aI (x1))]) rfl rfl (by decide) dX5_takesEither_5 ?_
    refine G_iconst dX5_takesEither_6 ?_
    refine G_istore_n (lv' := [(3, aI (0)), (2, aI (u11)), (0, aR (35)), (1, aI (x1))]) rfl rfl (by decide) dX5_takesEither_7 ?_
    exact G_pick [2, 3, 1, 0] rfl (h hx1 (r8 _ rfl) (rL 0 rfl) o9)
  · intro v1 v2 v3 σ h hv1 hv2 hv3 hO
    have h := h hv1 hv2 hv3 hO
    refine G_iload_n 3 rfl rfl dX5_takesEither_8 ?_
    refine G_sipush (by decide) dX5_takesEither_9 ?_
    refine G_icmp_ge hv3 (rL 300 rfl) dX5_takesEither_12 (tgt := 61) (by decide) (fun c13 => ?_) (fun c13 => ?_)
    · have h := h.1 c13
      refine G_iload_n 2 rfl rfl dX5_takesEither_61 ?_
      obtain ⟨c14, h⟩ := h
      exact G_zret rfl c14 dX5_takesEither_62 ⟨_, rfl, h⟩ hO
    · have h := h.2 c13
      refine G_iload_n 2 rfl rfl dX5_takesEither_15 ?_
      refine G_if_eq hv2 dX5_takesEither_16 (tgt := 61) (by decide) (fun c15 => ?_) (fun c15 => ?_)
      · have h := h.1 c15
        refine G_iload_n 2 rfl rfl dX5_takesEither_61 ?_
        obtain ⟨c16, h⟩ := h
        exact G_zret rfl c16 dX5_takesEither_62 ⟨_, rfl, h⟩ hO
      · have h := h.2 c15
        refine G_aload_n 0 rfl rfl dX5_takesEither_19 ?_
        obtain ⟨c17, h⟩ := h
        refine G_callV (as := []) cf_X5_42 rfl rfl rfl (sp_X5_kind (d - 1) (by omega) _ hO  c17) (by omega) rfl rfl (Nat.le_of_ble_eq_true rfl) dX5_takesEither_20 ?_
        rintro _ _ ⟨_, rfl, rfl, rfl⟩ o19 r18
        refine G_bipush (by decide) dX5_takesEither_23 ?_
        refine G_icmp_ne (r18 _ rfl) (rL 25 rfl) dX5_takesEither_25 (tgt := 61) (by decide) (fun c20 => ?_) (fun c20 => ?_)
        · have h := h.1 c20
          refine G_iload_n 2 rfl rfl dX5_takesEither_61 ?_
          obtain ⟨c21, h⟩ := h
          exact G_zret rfl c21 dX5_takesEither_62 ⟨_, rfl, h⟩ hO
        · have h := h.2 c20
          refine G_aload_n 0 rfl rfl dX5_takesEither_28 ?_
          refine G_dup rfl dX5_takesEither_29 ?_
          refine G_get (k := 2) (kd := (0, 0)) (v := aI (σ 35 2)) gf_X5_15 rfl rfl rfl rfl dX5_takesEither_30 ?_
          refine G_iconst dX5_takesEither_33 ?_
          refine G_iadd dX5_takesEither_34 ?_
          obtain ⟨c23, h⟩ := h
          obtain ⟨σ22, e25⟩ : ∃ τ : Mem, τ = mset σ 35 2 ((σ 35 2) + 1) := ⟨_, rfl⟩
          have h := h σ22 e25
          have o24 : OKm σ22 := by rw [e25]; exact OKm.seti hO _ _ _ c23 rfl
          refine G_put (k := 2) (ki := 2) (kd := (0, 0)) (x := _) pf_X5_15 rfl rfl rfl rfl (fa_i (mset_self _ _ _ _)) (fun _ => rfl) (fun _ => rfl) dX5_takesEither_35 ?_
          rw [← e25]
          refine G_aload_n 0 rfl rfl dX5_takesEither_38 ?_
          refine G_iload_n 1 rfl rfl dX5_takesEither_39 ?_
          obtain ⟨g26, g27, g28, g29, g30, g31, c32, h⟩ := h
          refine G_callV (as := [_]) cf_X5_147 rfl rfl rfl (sp_X5_takesBoth nn i1 i2 i3 i4 (d - 1) (by omega) _ o24 _ hv1 g26 g27 g28 g29 g30 g31 c32) (by omega) rfl rfl (Nat.le_of_ble_eq_true rfl) dX5_takesEither_40 ?_
          rintro _ σ35 ⟨u36, rfl, z37⟩ o34 r33
          have h := h _ _ (r33 _ rfl) o34 z37
          refine G_istore_n (lv' := [(2, aI (u36)), (0, aR (35)), (1, aI (v1)), (3, aI (v3))]) rfl rfl (by decide) dX5_takesEither_43 ?_
          refine G_aload_n 1 rfl rfl dX5_takesEither_44 ?_
          obtain ⟨t38, c39, c40, h⟩ := h
          refine G_get (k := 1) (kd := (4, 0)) (v := aR t38) gf_X5_9 rfl rfl rfl (fa_text c39 c40) dX5_takesEither_45 ?_
          refine G_bipush (by decide) dX5_takesEither_48 ?_
          refine G_iconst dX5_takesEither_50 ?_
          obtain ⟨c41, h⟩ := h
          refine G_callV (as := [_, _]) cf_X5_112 rfl (shT c39) rfl (sp_X9_emit (d - 1) (by omega) _ o34 _ c39 _ (rL 25 rfl) _ (rL 0 rfl) c41) (by omega) rfl rfl (Nat.le_of_ble_eq_true rfl) dX5_takesEither_51 ?_
          rintro _ σ44 ⟨u45, rfl, e47, e46⟩ o43 r42
          have h := h u45 σ44 e47 e46
          refine G_pop rfl dX5_takesEither_54 ?_
          refine G_iinc (lv' := [(3, aI ((v3 + 1))), (2, aI (u36)), (0, aR (35)), (1, aI (v1))]) (k := 3) rfl rfl (by decide) dX5_takesEither_55 ?_
          refine G_goto (tgt := 8) dX5_takesEither_58 (by decide) ?_
          obtain ⟨c48, h⟩ := h
          exact G_pick [2, 3, 1, 0] rfl (h hv1 (r33 _ rfl) c48 o43)

theorem sp_X5_takesEither (nn : Nat) (i1 : SpS nn) (i2 : SpO nn) (i3 : SpA nn) (i4 : SpC nn) (d : Nat) (hd : 8 * nn + 10 ≤ d) (σ : Mem) (hO : OKm σ) (x1 : Int) (hx1 : R32 x1) (b : Int → Int) (N : Int) (p : Nat) (i : Nat) (n : Nat) (lw : Int) (hpre : (rdC σ b N p i ∧ σ p 2 ≤ (i : Int) ∧ σ 35 3 = lw) ∧ x1 = 8 - (n : Int) ∧ n ≤ 8 ∧ n ≤ nn) : Mt yX5_takesEither cX5_takesEither 4 (some .boolean) d [aR (35), aI (x1)] σ (QI (fun v σ' => ansR b N p i (6 + 5 * (n : Int)) σ σ' v (pE (kd b N) (nu b N) lw n i))) := mt_X5_takesEither nn i1 i2 i3 i4 hd hx1 hO (by
  unfold wp_X5_takesEither
  obtain ⟨⟨hr, hz, hlw⟩, hx, hn8, hnn⟩ := hpre
  have hB := hr.1.1
  have hp := hr.1.2.2
  have hM := nu_nn hB
  have hlt : ∀ k, kd b N k ≠ 43 → k < 300 := fun k h => by have := (kd_lt hB h).1; omega
  have e35 := hr.2.2.1
  intro PP hP
  have HE : ∀ (v3 : Int) (e : Int × Nat) (τ : Mem), erR b N p σ τ e → pE (kd b N) (nu b N) lw n i = .inl e → PP x1 0 v3 τ := by
    intro v3 e τ he hq
    have hQ : ansR b N p i (6 + 5 * (n : Int)) σ τ 0 (pE (kd b N) (nu b N) lw n i) := he.ans hq rfl
    exact hP _ _ _ _ (fun _ _ _ _ => ⟨fun _ => ⟨.inl rfl, hQ⟩, fun _ => ⟨fun _ => ⟨.inl rfl, hQ⟩, fun q => absurd rfl q⟩⟩)
  have H : ∀ (k : Nat) (v3 : Int) (j : Nat) (f : Env → Int) (τ : Mem), v3 + k = 300 → 0 ≤ v3 → okQ p i j (6 + 5 * (n : Int)) σ τ f → gB lw f → pE (kd b N) (nu b N) lw n i = pTl (kd b N) oOr (pBt (kd b N) (nu b N) lw n) k f j → PP x1 1 v3 τ := by
    intro k
    induction k with
    | zero =>
      intro v3 j f τ hk h0 ho gf he
      exact hP _ _ _ _ (fun _ _ _ _ => ⟨fun _ => ⟨.inr rfl, ho.ans (by rw [he]; rfl) rfl⟩, fun h => absurd h (by omega)⟩)
    | succ k ih =>
      intro v3 j f τ hk h0 ho gf he
      have hrj := ho.rd hr
      have stop : oOr (kd b N j) = false → ansR b N p i (6 + 5 * (n : Int)) σ τ 1 (pE (kd b N) (nu b N) lw n i) := fun q => ho.ans (by rw [he]; show (if oOr (kd b N j) = true then _ else _) = _; rw [q]; rfl) rfl
      have step : ∀ y : Int, y = kd b N j → oOr y = true → R32 ((j : Int) + 1) ∧ ∀ σ25 : Mem, σ25 = mset τ 35 2 ((j : Int) + 1) → ∃ g29 : Int → Int, ∃ g30 : Int, ∃ g31 : Nat, ∃ g32 : Nat, ∃ g33 : Nat, ∃ g34 : Int, ((rdC σ25 g29 g30 g31 g32 ∧ σ25 g31 2 ≤ (g32 : Int) ∧ σ25 35 3 = g34) ∧ x1 = 8 - (g33 : Int) ∧ g33 ≤ 8 ∧ g33 ≤ nn) ∧ ∀ (u39 : Int) (σ38 : Mem), R32 u39 → OKm σ38 → (ansR g29 g30 g31 g32 (5 + 5 * (g33 : Int)) σ25 σ38 u39 (pBt (kd g29 g30) (nu g29 g30) g34 g33 g32)) → ∃ t41 : Nat, isText t41 ∧ σ38 35 1 = (t41 : Int) ∧ (0 ≤ σ38 t41 2) ∧ ∀ (u48 : Int) (σ47 : Mem), u48 = (if σ38 t41 2 < 300 then σ38 t41 2 else -1) → σ47 = (if σ38 t41 2 < 300 then mset (mset (mset σ38 (t41 + 1) (σ38 t41 2) y) (t41 + 2) (σ38 t41 2) (0 : Int)) t41 2 (σ38 t41 2 + 1) else σ38) → R32 (v3 + 1) ∧ PP x1 u39 (v3 + 1) σ47 := by
        intro y ey hy
        have hj := hlt j (by intro q; rw [ey, q] at hy; exact absurd hy (by decide))
        refine ⟨by unfold R32; omega, fun σ25 e25 => ?_⟩
        have ha : adv p j τ σ25 := adv.mk hp ho.1.2.2.2 e25
        refine ⟨b, N, p, j + 1, n, lw, ⟨⟨ha.rd hrj (by omega), okQ.le2 ho ha hz, by rw [ha.lw, ho.lw]; exact hlw⟩, hx, hn8, hnn⟩, fun u ρ _ _ h => ?_⟩
        have hpl : pTl (kd b N) oOr (pBt (kd b N) (nu b N) lw n) (k + 1) f j = pB (pBt (kd b N) (nu b N) lw n (j + 1)) (fun g j' => pTl (kd b N) oOr (pBt (kd b N) (nu b N) lw n) k (fun e => jn y (f e) (g e)) j') := by
          show (if oOr (kd b N j) = true then _ else _) = _
          rw [← ey, if_pos hy]
        rw [hpl] at he
        cases hq : pBt (kd b N) (nu b N) lw n (j + 1) with
        | inl e =>
          obtain ⟨hv, hee⟩ := h.E hq
          have hee' := hee.pre (ho.1.tr ha.1)
          refine ⟨p, hp, by rw [hee'.1.2.1 1 (by omega) (by omega) (by omega)]; exact hr.2.1, hee'.1.2.2.2.1, fun u2 τ2 _ e2 => ⟨by unfold R32; omega, ?_⟩⟩
          rw [hv]
          exact HE (v3 + 1) e τ2 (erR.emq hp hee' e2) (by rw [he, pB_er hq])
        | inr q =>
          obtain ⟨g, k'⟩ := q
          obtain ⟨hv, hoo⟩ := h.O hq
          have gg := pBt_g (lw := lw) hM n _ _ _ hq
          have hfl := okQ.full2 ho ha hoo hz
          refine ⟨p, hp, by rw [hoo.1.2.1 1 (by omega) (by omega) (by omega), ha.1.2.1 1 (by omega) (by omega) (by omega), ho.1.2.1 1 (by omega) (by omega) (by omega)]; exact hr.2.1, hoo.1.2.2.2.1, fun u2 τ2 _ e2 => ⟨by unfold R32; omega, ?_⟩⟩
          rw [if_pos hfl.1] at e2
          rw [hv]
          have gc := oOr_g (lw := lw) y f g hy gf gg.1
          have hyc := hy
          unfold oOr at hyc; rw [decide_eq_true_eq] at hyc
          exact ih (v3 + 1) k' _ τ2 (by omega) (by omega) (okQ.join hp ho ha hoo hz e2 (by omega) gc.1.1 (by omega) (by omega)) gc (by rw [he, pB_ok hq])
      refine hP _ _ _ _ (fun _ _ _ _ => ⟨fun h => absurd h (by omega), fun _ => ⟨fun q => absurd q (by omega), fun _ => ⟨hrj.1.2.1.1.2, ?_⟩⟩⟩)
      rw [hrj.kind, hrj.2.2.1]
      refine ⟨fun q => ⟨.inr rfl, stop (decide_eq_false q)⟩, fun q => ?_⟩
      have := step 25 q.symm (by decide)
      exact this
  refine ⟨b, N, p, i, n, lw, ⟨⟨hr, hz, hlw⟩, hx, hn8, hnn⟩, fun u ρ _ _ h => ?_⟩
  have ec : pE (kd b N) (nu b N) lw n i = pB (pBt (kd b N) (nu b N) lw n i) (fun f j => pTl (kd b N) oOr (pBt (kd b N) (nu b N) lw n) 300 f j) := by rw [pE_eq]; rfl
  cases hq : pBt (kd b N) (nu b N) lw n i with
  | inl e =>
    obtain ⟨hv, hee⟩ := h.E hq
    rw [hv]
    exact HE 0 e ρ hee (by rw [ec, pB_er hq])
  | inr q =>
    obtain ⟨g, j⟩ := q
    obtain ⟨hv, hoo⟩ := h.O hq
    rw [hv]
    exact H 300 0 j g ρ (by omega) (by omega) (hoo.le (by omega)) (pBt_g (lw := lw) hM n _ _ _ hq).1 (by rw [ec, pB_ok hq]))
