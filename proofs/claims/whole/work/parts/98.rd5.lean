def wp_X5_takesProduct (nn : Nat) (x1 : Int) (σ : Mem) (Q : Int → Mem → Prop) : Prop :=
 ∀ P8 : Int → Int → Int → Mem → Prop,
 (∀ (v1 : Int) (v2 : Int) (v3 : Int) (σ : Mem), (R32 v1 → R32 v2 → R32 v3 → OKm σ →
   ((300 ≤ v3) →
     (v2 = 0 ∨ v2 = 1) ∧
     Q v2 σ) ∧
    ((v3 < 300) →
     ((v2 = 0) →
      (v2 = 0 ∨ v2 = 1) ∧
      Q v2 σ) ∧
     ((v2 ≠ 0) →
      (σ 30 5 ≤ 301) ∧
      (((if 0 ≤ σ 35 2 ∧ σ 35 2 < σ 30 5 then σ 32 (σ 35 2) else 43) = 34) →
       (σ 30 5 ≤ 301) ∧
       ∀ y24 : Int, y24 = (if 0 ≤ σ 35 2 ∧ σ 35 2 < σ 30 5 then σ 32 (σ 35 2) else 43) →
       R32 ((σ 35 2) + 1) ∧
       ∀ σ25 : Mem, σ25 = mset σ 35 2 ((σ 35 2) + 1) →
       ∃ g29 : Int → Int, ∃ g30 : Int, ∃ g31 : Nat, ∃ g32 : Nat, ∃ g33 : Nat, ∃ g34 : Int, ((rdC σ25 g29 g30 g31 g32 ∧ σ25 g31 2 ≤ (g32 : Int) ∧ σ25 35 3 = g34) ∧ v1 = 8 - (g33 : Int) ∧ g33 ≤ 8 ∧ g33 ≤ nn) ∧
       ∀ (u39 : Int) (σ38 : Mem), R32 u39 → OKm σ38 → (ansR g29 g30 g31 g32 (1 + 5 * (g33 : Int)) σ25 σ38 u39 (pO (kd g29 g30) (nu g29 g30) g34 g33 g32)) →
       ∃ t41 : Nat, isText t41 ∧ σ38 35 1 = (t41 : Int) ∧
       (0 ≤ σ38 t41 2) ∧
       ∀ (u48 : Int) (σ47 : Mem), u48 = (if σ38 t41 2 < 300 then σ38 t41 2 else -1) → σ47 = (if σ38 t41 2 < 300 then mset (mset (mset σ38 (t41 + 1) (σ38 t41 2) y24) (t41 + 2) (σ38 t41 2) (0 : Int)) t41 2 (σ38 t41 2 + 1) else σ38) →
       R32 (v3 + 1) ∧ P8 v1 u39 (v3 + 1) σ47) ∧
      (((if 0 ≤ σ 35 2 ∧ σ 35 2 < σ 30 5 then σ 32 (σ 35 2) else 43) ≠ 34) →
       (σ 30 5 ≤ 301) ∧
       (((if 0 ≤ σ 35 2 ∧ σ 35 2 < σ 30 5 then σ 32 (σ 35 2) else 43) ≠ 35) →
        (v2 = 0 ∨ v2 = 1) ∧
        Q v2 σ) ∧
       (((if 0 ≤ σ 35 2 ∧ σ 35 2 < σ 30 5 then σ 32 (σ 35 2) else 43) = 35) →
        (σ 30 5 ≤ 301) ∧
        ∀ y60 : Int, y60 = (if 0 ≤ σ 35 2 ∧ σ 35 2 < σ 30 5 then σ 32 (σ 35 2) else 43) →
        R32 ((σ 35 2) + 1) ∧
        ∀ σ61 : Mem, σ61 = mset σ 35 2 ((σ 35 2) + 1) →
        ∃ g65 : Int → Int, ∃ g66 : Int, ∃ g67 : Nat, ∃ g68 : Nat, ∃ g69 : Nat, ∃ g70 : Int, ((rdC σ61 g65 g66 g67 g68 ∧ σ61 g67 2 ≤ (g68 : Int) ∧ σ61 35 3 = g70) ∧ v1 = 8 - (g69 : Int) ∧ g69 ≤ 8 ∧ g69 ≤ nn) ∧
        ∀ (u75 : Int) (σ74 : Mem), R32 u75 → OKm σ74 → (ansR g65 g66 g67 g68 (1 + 5 * (g69 : Int)) σ61 σ74 u75 (pO (kd g65 g66) (nu g65 g66) g70 g69 g68)) →
        ∃ t77 : Nat, isText t77 ∧ σ74 35 1 = (t77 : Int) ∧
        (0 ≤ σ74 t77 2) ∧
        ∀ (u84 : Int) (σ83 : Mem), u84 = (if σ74 t77 2 < 300 then σ74 t77 2 else -1) → σ83 = (if σ74 t77 2 < 300 then mset (mset (mset σ74 (t77 + 1) (σ74 t77 2) y60) (t77 + 2) (σ74 t77 2) (0 : Int)) t77 2 (σ74 t77 2 + 1) else σ74) →
        R32 (v3 + 1) ∧ P8 v1 u75 (v3 + 1) σ83))))) → P8 v1 v2 v3 σ) →
  ∃ g1 : Int → Int, ∃ g2 : Int, ∃ g3 : Nat, ∃ g4 : Nat, ∃ g5 : Nat, ∃ g6 : Int, ((rdC σ g1 g2 g3 g4 ∧ σ g3 2 ≤ (g4 : Int) ∧ σ 35 3 = g6) ∧ x1 = 8 - (g5 : Int) ∧ g5 ≤ 8 ∧ g5 ≤ nn) ∧
   ∀ (u11 : Int) (σ10 : Mem), R32 u11 → OKm σ10 → (ansR g1 g2 g3 g4 (1 + 5 * (g5 : Int)) σ σ10 u11 (pO (kd g1 g2) (nu g1 g2) g6 g5 g4)) →
   P8 x1 u11 0 σ10
theorem mt_X5_takesProduct (nn : Nat) (i1 : SpS nn) (i2 : SpO nn) (i3 : SpA nn) (i4 : SpC nn) {d : Nat} (hd : 8 * nn + 6 ≤ d) {x1 : Int} {σ : Mem} {Q : Int → Mem → Prop} (hx1 : R32 x1) (hO : OKm σ) (h : wp_X5_takesProduct nn x1 σ Q) : Mt yX5_takesProduct cX5_takesProduct 5 (some .boolean) d [aR (35), aI (x1)] σ (QI Q) := by
  refine Mt.intro (by decide +kernel) (Nat.le_of_ble_eq_true rfl) [(0, aR (35)), (1, aI (x1))] rfl ?_
  unfold wp_X5_takesProduct at h
  have h := h (fun (v1 : Int) (v2 : Int) (v3 : Int) (σ : Mem) => R32 v1 → R32 v2 → R32 v3 → OKm σ → G yX5_takesProduct cX5_takesProduct 5 (some .boolean) d (QI Q) 8 [(0, aR (35)), (1, aI (v1)), (2, aI (v2)), (3, aI (v3))] [] σ) ?_
  · refine G_aload_n 0 rfl rfl dX5_takesProduct_0 ?_
    refine G_iload_n 1 rfl rfl dX5_takesProduct_1 ?_
    obtain ⟨g1, g2, g3, g4, g5, g6, c7, h⟩ := h
    refine G_callV (as := [_]) cf_X5_116 rfl rfl rfl (sp_X5_takesOne nn i1 i2 i3 i4 (d - 1) (by omega) _ hO _ hx1 g1 g2 g3 g4 g5 g6 c7) (by omega) rfl rfl (Nat.le_of_ble_eq_true rfl) dX5_takesProduct_2 ?_
    rintro _ σ10 ⟨u11, rfl, z12⟩ o9 r8
    have h := h _ _ (r8 _ rfl) o9 z12
    refine G_istore_n (lv' := [(2, aI (u11)), (0, aR (35)), (1, aI (x1))]) rfl rfl (by decide) dX5_takesProduct_5 ?_
    refine G_iconst dX5_takesProduct_6 ?_
    refine G_istore_n (lv' := [(3, aI (0)), (2, aI (u11)), (0, aR (35)), (1, aI (x1))]) rfl rfl (by decide) dX5_takesProduct_7 ?_
    exact G_pick [2, 3, 1, 0] rfl (h hx1 (r8 _ rfl) (rL 0 rfl) o9)
  · intro v1 v2 v3 σ h hv1 hv2 hv3 hO
    have h := h hv1 hv2 hv3 hO
    refine G_iload_n 3 rfl rfl dX5_takesProduct_8 ?_
    refine G_sipush (by decide) dX5_takesProduct_9 ?_
    refine G_icmp_ge hv3 (rL 300 rfl) dX5_takesProduct_12 (tgt := 76) (by decide) (fun c13 => ?_) (fun c13 => ?_)
    · have h := h.1 c13
      refine G_iload_n 2 rfl rfl dX5_takesProduct_76 ?_
      obtain ⟨c14, h⟩ := h
      exact G_zret rfl c14 dX5_takesProduct_77 ⟨_, rfl, h⟩ hO
    · have h := h.2 c13
      refine G_iload_n 2 rfl rfl dX5_takesProduct_15 ?_
      refine G_if_eq hv2 dX5_takesProduct_16 (tgt := 76) (by decide) (fun c15 => ?_) (fun c15 => ?_)
      · have h := h.1 c15
        refine G_iload_n 2 rfl rfl dX5_takesProduct_76 ?_
        obtain ⟨c16, h⟩ := h
        exact G_zret rfl c16 dX5_takesProduct_77 ⟨_, rfl, h⟩ hO
      · have h := h.2 c15
        refine G_aload_n 0 rfl rfl dX5_takesProduct_19 ?_
        obtain ⟨c17, h⟩ := h
        refine G_callV (as := []) cf_X5_42 rfl rfl rfl (sp_X5_kind (d - 1) (by omega) _ hO  c17) (by omega) rfl rfl (Nat.le_of_ble_eq_true rfl) dX5_takesProduct_20 ?_
        rintro _ _ ⟨_, rfl, rfl, rfl⟩ o19 r18
        refine G_bipush (by decide) dX5_takesProduct_23 ?_
        refine G_icmp_eq (r18 _ rfl) (rL 34 rfl) dX5_takesProduct_25 (tgt := 37) (by decide) (fun c20 => ?_) (fun c20 => ?_)
        · have h := h.1 c20
          refine G_aload_n 0 rfl rfl dX5_takesProduct_37 ?_
          obtain ⟨c21, h⟩ := h
          refine G_callV (as := []) cf_X5_42 rfl rfl rfl (sp_X5_kind (d - 1) (by omega) _ hO  c21) (by omega) rfl rfl (Nat.le_of_ble_eq_true rfl) dX5_takesProduct_38 ?_
          rintro _ _ ⟨_, rfl, rfl, rfl⟩ o23 r22
          have h := h _ rfl
          refine G_istore (lv' := [(4, aI (((if 0 ≤ σ 35 2 ∧ σ 35 2 < σ 30 5 then σ 32 (σ 35 2) else 43)))), (0, aR (35)), (1, aI (v1)), (2, aI (v2)), (3, aI (v3))]) rfl (by decide) dX5_takesProduct_41 ?_
          refine G_aload_n 1 rfl rfl dX5_takesProduct_43 ?_
          refine G_dup rfl dX5_takesProduct_44 ?_
          refine G_get (k := 2) (kd := (0, 0)) (v := aI (σ 35 2)) gf_X5_15 rfl rfl rfl rfl dX5_takesProduct_45 ?_
          refine G_iconst dX5_takesProduct_48 ?_
          refine G_iadd dX5_takesProduct_49 ?_
          obtain ⟨c26, h⟩ := h
          obtain ⟨σ25, e28⟩ : ∃ τ : Mem, τ = mset σ 35 2 ((σ 35 2) + 1) := ⟨_, rfl⟩
          have h := h σ25 e28
          have o27 : OKm σ25 := by rw [e28]; exact OKm.seti hO _ _ _ c26 rfl
          refine G_put (k := 2) (ki := 2) (kd := (0, 0)) (x := _) pf_X5_15 rfl rfl rfl rfl (fa_i (mset_self _ _ _ _)) (fun _ => rfl) (fun _ => rfl) dX5_takesProduct_50 ?_
          rw [← e28]
          refine G_aload_n 1 rfl rfl dX5_takesProduct_53 ?_
          refine G_iload_n 2 rfl rfl dX5_takesProduct_54 ?_
          obtain ⟨g29, g30, g31, g32, g33, g34, c35, h⟩ := h
          refine G_callV (as := [_]) cf_X5_116 rfl rfl rfl (sp_X5_takesOne nn i1 i2 i3 i4 (d - 1) (by omega) _ o27 _ hv1 g29 g30 g31 g32 g33 g34 c35) (by omega) rfl rfl (Nat.le_of_ble_eq_true rfl) dX5_takesProduct_55 ?_
          rintro _ σ38 ⟨u39, rfl, z40⟩ o37 r36
          have h := h _ _ (r36 _ rfl) o37 z40
          refine G_istore_n (lv' := [(2, aI (u39)), (4, aI (((if 0 ≤ σ 35 2 ∧ σ 35 2 < σ 30 5 then σ 32 (σ 35 2) else 43)))), (0, aR (35)), (1, aI (v1)), (3, aI (v3))]) rfl rfl (by decide) dX5_takesProduct_58 ?_
          refine G_aload_n 2 rfl rfl dX5_takesProduct_59 ?_
          obtain ⟨t41, c42, c43, h⟩ := h
          refine G_get (k := 1) (kd := (4, 0)) (v := aR t41) gf_X5_9 rfl rfl rfl (fa_text c42 c43) dX5_takesProduct_60 ?_
          refine G_iload 1 rfl dX5_takesProduct_63 ?_
          refine G_iconst dX5_takesProduct_65 ?_
          obtain ⟨c44, h⟩ := h
          refine G_callV (as := [_, _]) cf_X5_112 rfl (shT c42) rfl (sp_X9_emit (d - 1) (by omega) _ o37 _ c42 _ (r22 _ rfl) _ (rL 0 rfl) c44) (by omega) rfl rfl (Nat.le_of_ble_eq_true rfl) dX5_takesProduct_66 ?_
          rintro _ σ47 ⟨u48, rfl, e50, e49⟩ o46 r45
          have h := h u48 σ47 e50 e49
          refine G_pop rfl dX5_takesProduct_69 ?_
          refine G_iinc (lv' := [(3, aI ((v3 + 1))), (2, aI (u39)), (4, aI (((if 0 ≤ σ 35 2 ∧ σ 35 2 < σ 30 5 then σ 32 (σ 35 2) else 43)))), (0, aR (35)), (1, aI (v1))]) (k := 4) rfl rfl (by decide) dX5_takesProduct_70 ?_
          refine G_goto (tgt := 8) dX5_takesProduct_73 (by decide) ?_
          obtain ⟨c51, h⟩ := h
          exact G_pick [3, 4, 1, 0] rfl (h hv1 (r36 _ rfl) c51 o46)
        · have h := h.2 c20
          refine G_aload_n 0 rfl rfl dX5_takesProduct_28 ?_
          obtain ⟨c52, h⟩ := h
          refine G_callV (as := []) cf_X5_42 rfl rfl rfl (sp_X5_kind (d - 1) (by omega) _ hO  c52) (by omega) rfl rfl (Nat.le_of_ble_eq_true rfl) dX5_takesProduct_29 ?_
          rintro _ _ ⟨_, rfl, rfl, rfl⟩ o54 r53
          refine G_bipush (by decide) dX5_takesProduct_32 ?_
          refine G_icmp_ne (r53 _ rfl) (rL 35 rfl) dX5_takesProduct_34 (tgt := 76) (by decide) (fun c55 => ?_) (fun c55 => ?_)
          · have h := h.1 c55
            refine G_iload_n 2 rfl rfl dX5_takesProduct_76 ?_
            obtain ⟨c56, h⟩ := h
            exact G_zret rfl c56 dX5_takesProduct_77 ⟨_, rfl, h⟩ hO
          · have h := h.2 c55
            refine G_aload_n 0 rfl rfl dX5_takesProduct_37 ?_
            obtain ⟨c57, h⟩ := h
            refine G_callV (as := []) cf_X5_42 rfl rfl rfl (sp_X5_kind (d - 1) (by omega) _ hO  c57) (by omega) rfl rfl (Nat.le_of_ble_eq_true rfl) dX5_takesProduct_38 ?_
            rintro _ _ ⟨_, rfl, rfl, rfl⟩ o59 r58
            have h := h _ rfl
            refine G_istore (lv' := [(4, aI (((if 0 ≤ σ 35 2 ∧ σ 35 2 < σ 30 5 then σ 32 (σ 35 2) else 43)))), (0, aR (35)), (1, aI (v1)), (2, aI (v2)), (3, aI (v3))]) rfl (by decide) dX5_takesProduct_41 ?_
            refine G_aload_n 1 rfl rfl dX5_takesProduct_43 ?_
            refine G_dup rfl dX5_takesProduct_44 ?_
            refine G_get (k := 2) (kd := (0, 0)) (v := aI (σ 35 2)) gf_X5_15 rfl rfl rfl rfl dX5_takesProduct_45 ?_
            refine G_iconst dX5_takesProduct_48 ?_
            refine G_iadd dX5_takesProduct_49 ?_
            obtain ⟨c62, h⟩ := h
            obtain ⟨σ61, e64⟩ : ∃ τ : Mem, τ = mset σ 35 2 ((σ 35 2) + 1) := ⟨_, rfl⟩
            have h := h σ61 e64
            have o63 : OKm σ61 := by rw [e64]; exact OKm.seti hO _ _ _ c62 rfl
            refine G_put (k := 2) (ki := 2) (kd := (0, 0)) (x := _) pf_X5_15 rfl rfl rfl rfl (fa_i (mset_self _ _ _ _)) (fun _ => rfl) (fun _ => rfl) dX5_takesProduct_50 ?_
            rw [← e64]
            refine G_aload_n 1 rfl rfl dX5_takesProduct_53 ?_
            refine G_iload_n 2 rfl rfl dX5_takesProduct_54 ?_
            obtain ⟨g65, g66, g67, g68, g69, g70, c71, h⟩ := h
            refine G_callV (as := [_]) cf_X5_116 rfl rfl rfl (sp_X5_takesOne nn i1 i2 i3 i4 (d - 1) (by omega) _ o63 _ hv1 g65 g66 g67 g68 g69 g70 c71) (by omega) rfl rfl (Nat.le_of_ble_eq_true rfl) dX5_takesProduct_55 ?_
            rintro _ σ74 ⟨u75, rfl, z76⟩ o73 r72
            have h := h _ _ (r72 _ rfl) o73 z76
            refine G_istore_n (lv' := [(2, aI (u75)), (4, aI (((if 0 ≤ σ 35 2 ∧ σ 35 2 < σ 30 5 then σ 32 (σ 35 2) else 43)))), (0, aR (35)), (1, aI (v1)), (3, aI (v3))]) rfl rfl (by decide) dX5_takesProduct_58 ?_
            refine G_aload_n 2 rfl rfl dX5_takesProduct_59 ?_
            obtain ⟨t77, c78, c79, h⟩ := h
            refine G_get (k := 1) (kd := (4, 0)) (v := aR t77) gf_X5_9 rfl rfl rfl (fa_text c78 c79) dX5_takesProduct_60 ?_
            refine G_iload 1 rfl dX5_takesProduct_63 ?_
            refine G_iconst dX5_takesProduct_65 ?_
            obtain ⟨c80, h⟩ := h
            refine G_callV (as := [_, _]) cf_X5_112 rfl (shT c78) rfl (sp_X9_emit (d - 1) (by omega) _ o73 _ c78 _ (r58 _ rfl) _ (rL 0 rfl) c80) (by omega) rfl rfl (Nat.le_of_ble_eq_true rfl) dX5_takesProduct_66 ?_
            rintro _ σ83 ⟨u84, rfl, e86, e85⟩ o82 r81
            have h := h u84 σ83 e86 e85
            refine G_pop rfl dX5_takesProduct_69 ?_
            refine G_iinc (lv' := [(3, aI ((v3 + 1))), (2, aI (u75)), (4, aI (((if 0 ≤ σ 35 2 ∧ σ 35 2 < σ 30 5 then σ 32 (σ 35 2) else 43)))), (0, aR (35)), (1, aI (v1))]) (k := 4) rfl rfl (by decide) dX5_takesProduct_70 ?_
            refine G_goto (tgt := 8) dX5_takesProduct_73 (by decide) ?_
            obtain ⟨c87, h⟩ := h
            exact G_pick [3, 4, 1, 0] rfl (h hv1 (r72 _ rfl) c87 o82)

theorem sp_X5_takesProduct (nn : Nat) (i1 : SpS nn) (i2 : SpO nn) (i3 : SpA nn) (i4 : SpC nn) (d : Nat) (hd : 8 * nn + 6 ≤ d) (σ : Mem) (hO : OKm σ) (x1 : Int) (hx1 : R32 x1) (b : Int → Int) (N : Int) (p : Nat) (i : Nat) (n : Nat) (lw : Int) (hpre : (rdC σ b N p i ∧ σ p 2 ≤ (i : Int) ∧ σ 35 3 = lw) ∧ x1 = 8 - (n : Int) ∧ n ≤ 8 ∧ n ≤ nn) : Mt yX5_takesProduct cX5_takesProduct 5 (some .boolean) d [aR (35), aI (x1)] σ (QI (fun v σ' => ansR b N p i (2 + 5 * (n : Int)) σ σ' v (pP (kd b N) (nu b N) lw n i))) := mt_X5_takesProduct nn i1 i2 i3 i4 hd hx1 hO (by
  unfold wp_X5_takesProduct
  obtain ⟨⟨hr, hz, hlw⟩, hx, hn8, hnn⟩ := hpre
  have hB := hr.1.1
  have hp := hr.1.2.2
  have hM := nu_nn hB
  have hlt : ∀ k, kd b N k ≠ 43 → k < 300 := fun k h => by have := (kd_lt hB h).1; omega
  have e35 := hr.2.2.1
  intro PP hP
  have HE : ∀ (v3 : Int) (e : Int × Nat) (τ : Mem), erR b N p σ τ e → pP (kd b N) (nu b N) lw n i = .inl e → PP x1 0 v3 τ := by
    intro v3 e τ he hq
    have hQ : ansR b N p i (2 + 5 * (n : Int)) σ τ 0 (pP (kd b N) (nu b N) lw n i) := he.ans hq rfl
    exact hP _ _ _ _ (fun _ _ _ _ => ⟨fun _ => ⟨.inl rfl, hQ⟩, fun _ => ⟨fun _ => ⟨.inl rfl, hQ⟩, fun q => absurd rfl q⟩⟩)
  have H : ∀ (k : Nat) (v3 : Int) (j : Nat) (f : Env → Int) (τ : Mem), v3 + k = 300 → 0 ≤ v3 → okQ p i j (2 + 5 * (n : Int)) σ τ f → gd lw f → pP (kd b N) (nu b N) lw n i = pTl (kd b N) oTO (pO (kd b N) (nu b N) lw n) k f j → PP x1 1 v3 τ := by
    intro k
    induction k with
    | zero =>
      intro v3 j f τ hk h0 ho gf he
      exact hP _ _ _ _ (fun _ _ _ _ => ⟨fun _ => ⟨.inr rfl, ho.ans (by rw [he]; rfl) rfl⟩, fun h => absurd h (by omega)⟩)
    | succ k ih =>
      intro v3 j f τ hk h0 ho gf he
      have hrj := ho.rd hr
      have stop : oTO (kd b N j) = false → ansR b N p i (2 + 5 * (n : Int)) σ τ 1 (pP (kd b N) (nu b N) lw n i) := fun q => ho.ans (by rw [he]; show (if oTO (kd b N j) = true then _ else _) = _; rw [q]; rfl) rfl
      have step : ∀ y : Int, y = kd b N j → oTO y = true → R32 ((j : Int) + 1) ∧ ∀ σ25 : Mem, σ25 = mset τ 35 2 ((j : Int) + 1) → ∃ g29 : Int → Int, ∃ g30 : Int, ∃ g31 : Nat, ∃ g32 : Nat, ∃ g33 : Nat, ∃ g34 : Int, ((rdC σ25 g29 g30 g31 g32 ∧ σ25 g31 2 ≤ (g32 : Int) ∧ σ25 35 3 = g34) ∧ x1 = 8 - (g33 : Int) ∧ g33 ≤ 8 ∧ g33 ≤ nn) ∧ ∀ (u39 : Int) (σ38 : Mem), R32 u39 → OKm σ38 → (ansR g29 g30 g31 g32 (1 + 5 * (g33 : Int)) σ25 σ38 u39 (pO (kd g29 g30) (nu g29 g30) g34 g33 g32)) → ∃ t41 : Nat, isText t41 ∧ σ38 35 1 = (t41 : Int) ∧ (0 ≤ σ38 t41 2) ∧ ∀ (u48 : Int) (σ47 : Mem), u48 = (if σ38 t41 2 < 300 then σ38 t41 2 else -1) → σ47 = (if σ38 t41 2 < 300 then mset (mset (mset σ38 (t41 + 1) (σ38 t41 2) y) (t41 + 2) (σ38 t41 2) (0 : Int)) t41 2 (σ38 t41 2 + 1) else σ38) → R32 (v3 + 1) ∧ PP x1 u39 (v3 + 1) σ47 := by
        intro y ey hy
        have hj := hlt j (by intro q; rw [ey, q] at hy; exact absurd hy (by decide))
        refine ⟨by unfold R32; omega, fun σ25 e25 => ?_⟩
        have ha : adv p j τ σ25 := adv.mk hp ho.1.2.2.2 e25
        refine ⟨b, N, p, j + 1, n, lw, ⟨⟨ha.rd hrj (by omega), okQ.le2 ho ha hz, by rw [ha.lw, ho.lw]; exact hlw⟩, hx, hn8, hnn⟩, fun u ρ _ _ h => ?_⟩
        have hpl : pTl (kd b N) oTO (pO (kd b N) (nu b N) lw n) (k + 1) f j = pB (pO (kd b N) (nu b N) lw n (j + 1)) (fun g j' => pTl (kd b N) oTO (pO (kd b N) (nu b N) lw n) k (fun e => jn y (f e) (g e)) j') := by
          show (if oTO (kd b N j) = true then _ else _) = _
          rw [← ey, if_pos hy]
        rw [hpl] at he
        cases hq : pO (kd b N) (nu b N) lw n (j + 1) with
        | inl e =>
          obtain ⟨hv, hee⟩ := h.E hq
          have hee' := hee.pre (ho.1.tr ha.1)
          refine ⟨p, hp, by rw [hee'.1.2.1 1 (by omega) (by omega) (by omega)]; exact hr.2.1, hee'.1.2.2.2.1, fun u2 τ2 _ e2 => ⟨by unfold R32; omega, ?_⟩⟩
          rw [hv]
          exact HE (v3 + 1) e τ2 (erR.emq hp hee' e2) (by rw [he, pB_er hq])
        | inr q =>
          obtain ⟨g, k'⟩ := q
          obtain ⟨hv, hoo⟩ := h.O hq
          have gg := pO_g (lw := lw) hM n _ _ _ hq
          have hfl := okQ.full2 ho ha hoo hz
          refine ⟨p, hp, by rw [hoo.1.2.1 1 (by omega) (by omega) (by omega), ha.1.2.1 1 (by omega) (by omega) (by omega), ho.1.2.1 1 (by omega) (by omega) (by omega)]; exact hr.2.1, hoo.1.2.2.2.1, fun u2 τ2 _ e2 => ⟨by unfold R32; omega, ?_⟩⟩
          rw [if_pos hfl.1] at e2
          rw [hv]
          have gc := oTO_g (lw := lw) y f g hy gf gg.1
          have hyc := hy
          unfold oTO at hyc; rw [decide_eq_true_eq] at hyc
          exact ih (v3 + 1) k' _ τ2 (by omega) (by omega) (okQ.join hp ho ha hoo hz e2 (by omega) gc.1 (by omega) (by omega)) gc (by rw [he, pB_ok hq])
      refine hP _ _ _ _ (fun _ _ _ _ => ⟨fun h => absurd h (by omega), fun _ => ⟨fun q => absurd q (by omega), fun _ => ⟨hrj.1.2.1.1.2, ?_⟩⟩⟩)
      rw [hrj.kind, hrj.2.2.1]
      refine ⟨fun q => ⟨hrj.1.2.1.1.2, fun y ey => step y ey (by rw [ey, q]; decide)⟩, fun q => ⟨hrj.1.2.1.1.2, fun q2 => ⟨.inr rfl, stop (decide_eq_false (fun z => by omega))⟩, fun q2 => ⟨hrj.1.2.1.1.2, fun y ey => step y ey (by rw [ey, q2]; decide)⟩⟩⟩
  refine ⟨b, N, p, i, n, lw, ⟨⟨hr, hz, hlw⟩, hx, hn8, hnn⟩, fun u ρ _ _ h => ?_⟩
  have ec : pP (kd b N) (nu b N) lw n i = pB (pO (kd b N) (nu b N) lw n i) (fun f j => pTl (kd b N) oTO (pO (kd b N) (nu b N) lw n) 300 f j) := by rw [pP_eq]; rfl
  cases hq : pO (kd b N) (nu b N) lw n i with
  | inl e =>
    obtain ⟨hv, hee⟩ := h.E hq
    rw [hv]
    exact HE 0 e ρ hee (by rw [ec, pB_er hq])
  | inr q =>
    obtain ⟨g, j⟩ := q
    obtain ⟨hv, hoo⟩ := h.O hq
    rw [hv]
    exact H 300 0 j g ρ (by omega) (by omega) (hoo.le (by omega)) (pO_g (lw := lw) hM n _ _ _ hq).1 (by rw [ec, pB_ok hq]))

def wp_X5_takesSum (nn : Nat) (x1 : Int) (σ : Mem) (Q : Int → Mem → Prop) : Prop :=
 ∀ P8 : Int → Int → Int → Mem → Prop,
 (∀ (v1 : Int) (v2 : Int) (v3 : Int) (σ : Mem), (R32 v1 → R32 v2 → R32 v3 → OKm σ →
   ((300 ≤ v3) →
     (v2 = 0 ∨ v2 = 1) ∧
     Q v2 σ) ∧
    ((v3 < 300) →
     ((v2 = 0) →
      (v2 = 0 ∨ v2 = 1) ∧
      Q v2 σ) ∧
     ((v2 ≠ 0) →
      (σ 30 5 ≤ 301) ∧
      (((if 0 ≤ σ 35 2 ∧ σ 35 2 < σ 30 5 then σ 32 (σ 35 2) else 43) = 32) →
       (σ 30 5 ≤ 301) ∧
       ∀ y24 : Int, y24 = (if 0 ≤ σ 35 2 ∧ σ 35 2 < σ 30 5 then σ 32 (σ 35 2) else 43) →
       R32 ((σ 35 2) + 1) ∧
       ∀ σ25 : Mem, σ25 = mset σ 35 2 ((σ 35 2) + 1) →
       ∃ g29 : Int → Int, ∃ g30 : Int, ∃ g31 : Nat, ∃ g32 : Nat, ∃ g33 : Nat, ∃ g34 : Int, ((rdC σ25 g29 g30 g31 g32 ∧ σ25 g31 2 ≤ (g32 : Int) ∧ σ25 35 3 = g34) ∧ v1 = 8 - (g33 : Int) ∧ g33 ≤ 8 ∧ g33 ≤ nn) ∧
       ∀ (u39 : Int) (σ38 : Mem), R32 u39 → OKm σ38 → (ansR g29 g30 g31 g32 (2 + 5 * (g33 : Int)) σ25 σ38 u39 (pP (kd g29 g30) (nu g29 g30) g34 g33 g32)) →
       ∃ t41 : Nat, isText t41 ∧ σ38 35 1 = (t41 : Int) ∧
       (0 ≤ σ38 t41 2) ∧
       ∀ (u48 : Int) (σ47 : Mem), u48 = (if σ38 t41 2 < 300 then σ38 t41 2 else -1) → σ47 = (if σ38 t41 2 < 300 then mset (mset (mset σ38 (t41 + 1) (σ38 t41 2) y24) (t41 + 2) (σ38 t41 2) (0 : Int)) t41 2 (σ38 t41 2 + 1) else σ38) →
       R32 (v3 + 1) ∧ P8 v1 u39 (v3 + 1) σ47) ∧
      (((if 0 ≤ σ 35 2 ∧ σ 35 2 < σ 30 5 then σ 32 (σ 35 2) else 43) ≠ 32) →
       (σ 30 5 ≤ 301) ∧
       (((if 0 ≤ σ 35 2 ∧ σ 35 2 < σ 30 5 then σ 32 (σ 35 2) else 43) ≠ 33) →
        (v2 = 0 ∨ v2 = 1) ∧
        Q v2 σ) ∧
       (((if 0 ≤ σ 35 2 ∧ σ 35 2 < σ 30 5 then σ 32 (σ 35 2) else 43) = 33) →
        (σ 30 5 ≤ 301) ∧
        ∀ y60 : Int, y60 = (if 0 ≤ σ 35 2 ∧ σ 35 2 < σ 30 5 then σ 32 (σ 35 2) else 43) →
        R32 ((σ 35 2) + 1) ∧
        ∀ σ61 : Mem, σ61 = mset σ 35 2 ((σ 35 2) + 1) →
        ∃ g65 : Int → Int, ∃ g66 : Int, ∃ g67 : Nat, ∃ g68 : Nat, ∃ g69 : Nat, ∃ g70 : Int, ((rdC σ61 g65 g66 g67 g68 ∧ σ61 g67 2 ≤ (g68 : Int) ∧ σ61 35 3 = g70) ∧ v1 = 8 - (g69 : Int) ∧ g69 ≤ 8 ∧ g69 ≤ nn) ∧
        ∀ (u75 : Int) (σ74 : Mem), R32 u75 → OKm σ74 → (ansR g65 g66 g67 g68 (2 + 5 * (g69 : Int)) σ61 σ74 u75 (pP (kd g65 g66) (nu g65 g66) g70 g69 g68)) →
        ∃ t77 : Nat, isText t77 ∧ σ74 35 1 = (t77 : Int) ∧
        (0 ≤ σ74 t77 2) ∧
        ∀ (u84 : Int) (σ83 : Mem), u84 = (if σ74 t77 2 < 300 then σ74 t77 2 else -1) → σ83 = (if σ74 t77 2 < 300 then mset (mset (mset σ74 (t77 + 1) (σ74 t77 2) y60) (t77 + 2) (σ74 t77 2) (0 : Int)) t77 2 (σ74 t77 2 + 1) else σ74) →
        R32 (v3 + 1) ∧ P8 v1 u75 (v3 + 1) σ83))))) → P8 v1 v2 v3 σ) →
  ∃ g1 : Int → Int, ∃ g2 : Int, ∃ g3 : Nat, ∃ g4 : Nat, ∃ g5 : Nat, ∃ g6 : Int, ((rdC σ g1 g2 g3 g4 ∧ σ g3 2 ≤ (g4 : Int) ∧ σ 35 3 = g6) ∧ x1 = 8 - (g5 : Int) ∧ g5 ≤ 8 ∧ g5 ≤ nn) ∧
   ∀ (u11 : Int) (σ10 : Mem), R32 u11 → OKm σ10 → (ansR g1 g2 g3 g4 (2 + 5 * (g5 : Int)) σ σ10 u11 (pP (kd g1 g2) (nu g1 g2) g6 g5 g4)) →
   P8 x1 u11 0 σ10
theorem mt_X5_takesSum (nn : Nat) (i1 : SpS nn) (i2 : SpO nn) (i3 : SpA nn) (i4 : SpC nn) {d : Nat} (hd : 8 * nn + 7 ≤ d) {x1 : Int} {σ : Mem} {Q : Int → Mem → Prop} (hx1 : R32 x1) (hO : OKm σ) (h : wp_X5_takesSum nn x1 σ Q) : Mt yX5_takesSum cX5_takesSum 5 (some .boolean) d [aR (35), aI (x1)] σ (QI Q) := by
  refine Mt.intro (by decide +kernel) (Nat.le_of_ble_eq_true rfl) [(0, aR (35)), (1, aI (x1))] rfl ?_
  unfold wp_X5_takesSum at h
  have h := h (fun (v1 : Int) (v2 : Int) (v3 : Int) (σ : Mem) => R32 v1 → R32 v2 → R32 v3 → OKm σ → G yX5_takesSum cX5_takesSum 5 (some .boolean) d (QI Q) 8 [(0, aR (35)), (1, aI (v1)), (2, aI (v2)), (3, aI (v3))] [] σ) ?_
  · refine G_aload_n 0 rfl rfl dX5_takesSum_0 ?_
    refine G_iload_n 1 rfl rfl dX5_takesSum_1 ?_
    obtain ⟨g1, g2, g3, g4, g5, g6, c7, h⟩ := h
    refine G_callV (as := [_]) cf_X5_109 rfl rfl rfl (sp_X5_takesProduct nn i1 i2 i3 i4 (d - 1) (by omega) _ hO _ hx1 g1 g2 g3 g4 g5 g6 c7) (by omega) rfl rfl (Nat.le_of_ble_eq_true rfl) dX5_takesSum_2 ?_
    rintro _ σ10 ⟨u11, rfl, z12⟩ o9 r8
    have h := h _ _ (r8 _ rfl) o9 z12
    refine G_istore_n (lv' := [(2, aI (u11)), (0, aR (35)), (1, aI (x1))]) rfl rfl (by decide) dX5_takesSum_5 ?_
    refine G_iconst dX5_takesSum_6 ?_
    refine G_istore_n (lv' := [(3, aI (0)), (2, aI (u11)), (0, aR (35)), (1, aI (x1))]) rfl rfl (by decide) dX5_takesSum_7 ?_
    exact G_pick [2, 3, 1, 0] rfl (h hx1 (r8 _ rfl) (rL 0 rfl) o9)
  · intro v1 v2 v3 σ h hv1 hv2 hv3 hO
    have h := h hv1 hv2 hv3 hO
    refine G_iload_n 3 rfl rfl dX5_takesSum_8 ?_
    refine G_sipush (by decide) dX5_takesSum_9 ?_
    refine G_icmp_ge hv3 (rL 300 rfl) dX5_takesSum_12 (tgt := 76) (by decide) (fun c13 => ?_) (fun c13 => ?_)
    · have h := h.1 c13
      refine G_iload_n 2 rfl rfl dX5_takesSum_76 ?_
      obtain ⟨c14, h⟩ := h
      exact G_zret rfl c14 dX5_takesSum_77 ⟨_, rfl, h⟩ hO
    · have h := h.2 c13
      refine G_iload_n 2 rfl rfl dX5_takesSum_15 ?_
      refine G_if_eq hv2 dX5_takesSum_16 (tgt := 76) (by decide) (fun c15 => ?_) (fun c15 => ?_)
      · have h := h.1 c15
        refine G_iload_n 2 rfl rfl dX5_takesSum_76 ?_
        obtain ⟨c16, h⟩ := h
        exact G_zret rfl c16 dX5_takesSum_77 ⟨_, rfl, h⟩ hO
      · have h := h.2 c15
        refine G_aload_n 0 rfl rfl dX5_takesSum_19 ?_
        obtain ⟨c17, h⟩ := h
        refine G_callV (as := []) cf_X5_42 rfl rfl rfl (sp_X5_kind (d - 1) (by omega) _ hO  c17) (by omega) rfl rfl (Nat.le_of_ble_eq_true rfl) dX5_takesSum_20 ?_
        rintro _ _ ⟨_, rfl, rfl, rfl⟩ o19 r18
        refine G_bipush (by decide) dX5_takesSum_23 ?_
        refine G_icmp_eq (r18 _ rfl) (rL 32 rfl) dX5_takesSum_25 (tgt := 37) (by decide) (fun c20 => ?_) (fun c20 => ?_)
        · have h := h.1 c20
          refine G_aload_n 0 rfl rfl dX5_takesSum_37 ?_
          obtain ⟨c21, h⟩ := h
          refine G_callV (as := []) cf_X5_42 rfl rfl rfl (sp_X5_kind (d - 1) (by omega) _ hO  c21) (by omega) rfl rfl (Nat.le_of_ble_eq_true rfl) dX5_takesSum_38 ?_
          rintro _ _ ⟨_, rfl, rfl, rfl⟩ o23 r22
          have h := h _ rfl
          refine G_istore (lv' := [(4, aI (((if 0 ≤ σ 35 2 ∧ σ 35 2 < σ 30 5 then σ 32 (σ 35 2) else 43)))), (0, aR (35)), (1, aI (v1)), (2, aI (v2)), (3, aI (v3))]) rfl (by decide) dX5_takesSum_41 ?_
          refine G_aload_n 1 rfl rfl dX5_takesSum_43 ?_
          refine G_dup rfl dX5_takesSum_44 ?_
          refine G_get (k := 2) (kd := (0, 0)) (v := aI (σ 35 2)) gf_X5_15 rfl rfl rfl rfl dX5_takesSum_45 ?_
          refine G_iconst dX5_takesSum_48 ?_
          refine G_iadd dX5_takesSum_49 ?_
          obtain ⟨c26, h⟩ := h
          obtain ⟨σ25, e28⟩ : ∃ τ : Mem, τ = mset σ 35 2 ((σ 35 2) + 1) := ⟨_, rfl⟩
          have h := h σ25 e28
          have o27 : OKm σ25 := by rw [e28]; exact OKm.seti hO _ _ _ c26 rfl
          refine G_put (k := 2) (ki := 2) (kd := (0, 0)) (x := _) pf_X5_15 rfl rfl rfl rfl (fa_i (mset_self _ _ _ _)) (fun _ => rfl) (fun _ => rfl) dX5_takesSum_50 ?_
          rw [← e28]
          refine G_aload_n 1 rfl rfl dX5_takesSum_53 ?_
          refine G_iload_n 2 rfl rfl dX5_takesSum_54 ?_
          obtain ⟨g29, g30, g31, g32, g33, g34, c35, h⟩ := h
          refine G_callV (as := [_]) cf_X5_109 rfl rfl rfl (sp_X5_takesProduct nn i1 i2 i3 i4 (d - 1) (by omega) _ o27 _ hv1 g29 g30 g31 g32 g33 g34 c35) (by omega) rfl rfl (Nat.le_of_ble_eq_true rfl) dX5_takesSum_55 ?_
          rintro _ σ38 ⟨u39, rfl, z40⟩ o37 r36
          have h := h _ _ (r36 _ rfl) o37 z40
          refine G_istore_n (lv' := [(2, aI (u39)), (4, aI (((if 0 ≤ σ 35 2 ∧ σ 35 2 < σ 30 5 then σ 32 (σ 35 2) else 43)))), (0, aR (35)), (1, aI (v1)), (3, aI (v3))]) rfl rfl (by decide) dX5_takesSum_58 ?_
          refine G_aload_n 2 rfl rfl dX5_takesSum_59 ?_
          obtain ⟨t41, c42, c43, h⟩ := h
          refine G_get (k := 1) (kd := (4, 0)) (v := aR t41) gf_X5_9 rfl rfl rfl (fa_text c42 c43) dX5_takesSum_60 ?_
          refine G_iload 1 rfl dX5_takesSum_63 ?_
          refine G_iconst dX5_takesSum_65 ?_
          obtain ⟨c44, h⟩ := h
          refine G_callV (as := [_, _]) cf_X5_112 rfl (shT c42) rfl (sp_X9_emit (d - 1) (by omega) _ o37 _ c42 _ (r22 _ rfl) _ (rL 0 rfl) c44) (by omega) rfl rfl (Nat.le_of_ble_eq_true rfl) dX5_takesSum_66 ?_
          rintro _ σ47 ⟨u48, rfl, e50, e49⟩ o46 r45
          have h := h u48 σ47 e50 e49
          refine G_pop rfl dX5_takesSum_69 ?_
          refine G_iinc (lv' := [(3, aI ((v3 + 1))), (2, aI (u39)), (4, aI (((if 0 ≤ σ 35 2 ∧ σ 35 2 < σ 30 5 then σ 32 (σ 35 2) else 43)))), (0, aR (35)), (1, aI (v1))]) (k := 4) rfl rfl (by decide) dX5_takesSum_70 ?_
          refine G_goto (tgt := 8) dX5_takesSum_73 (by decide) ?_
          obtain ⟨c51, h⟩ := h
          exact G_pick [3, 4, 1, 0] rfl (h hv1 (r36 _ rfl) c51 o46)
        · have h := h.2 c20
          refine G_aload_n 0 rfl rfl dX5_takesSum_28 ?_
          obtain ⟨c52, h⟩ := h
          refine G_callV (as := []) cf_X5_42 rfl rfl rfl (sp_X5_kind (d - 1) (by omega) _ hO  c52) (by omega) rfl rfl (Nat.le_of_ble_eq_true rfl) dX5_takesSum_29 ?_
          rintro _ _ ⟨_, rfl, rfl, rfl⟩ o54 r53
          refine G_bipush (by decide) dX5_takesSum_32 ?_
          refine G_icmp_ne (r53 _ rfl) (rL 33 rfl) dX5_takesSum_34 (tgt := 76) (by decide) (fun c55 => ?_) (fun c55 => ?_)
          · have h := h.1 c55
            refine G_iload_n 2 rfl rfl dX5_takesSum_76 ?_
            obtain ⟨c56, h⟩ := h
            exact G_zret rfl c56 dX5_takesSum_77 ⟨_, rfl, h⟩ hO
          · have h := h.2 c55
            refine G_aload_n 0 rfl rfl dX5_takesSum_37 ?_
            obtain ⟨c57, h⟩ := h
            refine G_callV (as := []) cf_X5_42 rfl rfl rfl (sp_X5_kind (d - 1) (by omega) _ hO  c57) (by omega) rfl rfl (Nat.le_of_ble_eq_true rfl) dX5_takesSum_38 ?_
            rintro _ _ ⟨_, rfl, rfl, rfl⟩ o59 r58
            have h := h _ rfl
            refine G_istore (lv' := [(4, aI (((if 0 ≤ σ 35 2 ∧ σ 35 2 < σ 30 5 then σ 32 (σ 35 2) else 43)))), (0, aR (35)), (1, aI (v1)), (2, aI (v2)), (3, aI (v3))]) rfl (by decide) dX5_takesSum_41 ?_
            refine G_aload_n 1 rfl rfl dX5_takesSum_43 ?_
            refine G_dup rfl dX5_takesSum_44 ?_
            refine G_get (k := 2) (kd := (0, 0)) (v := aI (σ 35 2)) gf_X5_15 rfl rfl rfl rfl dX5_takesSum_45 ?_
            refine G_iconst dX5_takesSum_48 ?_
            refine G_iadd dX5_takesSum_49 ?_
            obtain ⟨c62, h⟩ := h
            obtain ⟨σ61, e64⟩ : ∃ τ : Mem, τ = mset σ 35 2 ((σ 35 2) + 1) := ⟨_, rfl⟩
            have h := h σ61 e64
            have o63 : OKm σ61 := by rw [e64]; exact OKm.seti hO _ _ _ c62 rfl
            refine G_put (k := 2) (ki := 2) (kd := (0, 0)) (x := _) pf_X5_15 rfl rfl rfl rfl (fa_i (mset_self _ _ _ _)) (fun _ => rfl) (fun _ => rfl) dX5_takesSum_50 ?_
            rw [← e64]
            refine G_aload_n 1 rfl rfl dX5_takesSum_53 ?_
            refine G_iload_n 2 rfl rfl dX5_takesSum_54 ?_
            obtain ⟨g65, g66, g67, g68, g69, g70, c71, h⟩ := h
            refine G_callV (as := [_]) cf_X5_109 rfl rfl rfl (sp_X5_takesProduct nn i1 i2 i3 i4 (d - 1) (by omega) _ o63 _ hv1 g65 g66 g67 g68 g69 g70 c71) (by omega) rfl rfl (Nat.le_of_ble_eq_true rfl) dX5_takesSum_55 ?_
            rintro _ σ74 ⟨u75, rfl, z76⟩ o73 r72
            have h := h _ _ (r72 _ rfl) o73 z76
            refine G_istore_n (lv' := [(2, aI (u75)), (4, aI (((if 0 ≤ σ 35 2 ∧ σ 35 2 < σ 30 5 then σ 32 (σ 35 2) else 43)))), (0, aR (35)), (1, aI (v1)), (3, aI (v3))]) rfl rfl (by decide) dX5_takesSum_58 ?_
            refine G_aload_n 2 rfl rfl dX5_takesSum_59 ?_
            obtain ⟨t77, c78, c79, h⟩ := h
            refine G_get (k := 1) (kd := (4, 0)) (v := aR t77) gf_X5_9 rfl rfl rfl (fa_text c78 c79) dX5_takesSum_60 ?_
            refine G_iload 1 rfl dX5_takesSum_63 ?_
            refine G_iconst dX5_takesSum_65 ?_
            obtain ⟨c80, h⟩ := h
            refine G_callV (as := [_, _]) cf_X5_112 rfl (shT c78) rfl (sp_X9_emit (d - 1) (by omega) _ o73 _ c78 _ (r58 _ rfl) _ (rL 0 rfl) c80) (by omega) rfl rfl (Nat.le_of_ble_eq_true rfl) dX5_takesSum_66 ?_
            rintro _ σ83 ⟨u84, rfl, e86, e85⟩ o82 r81
            have h := h u84 σ83 e86 e85
            refine G_pop rfl dX5_takesSum_69 ?_
            refine G_iinc (lv' := [(3, aI ((v3 + 1))), (2, aI (u75)), (4, aI (((if 0 ≤ σ 35 2 ∧ σ 35 2 < σ 30 5 then σ 32 (σ 35 2) else 43)))), (0, aR (35)), (1, aI (v1))]) (k := 4) rfl rfl (by decide) dX5_takesSum_70 ?_
            refine G_goto (tgt := 8) dX5_takesSum_73 (by decide) ?_
            obtain ⟨c87, h⟩ := h
            exact G_pick [3, 4, 1, 0] rfl (h hv1 (r72 _ rfl) c87 o82)

theorem sp_X5_takesSum (nn : Nat) (i1 : SpS nn) (i2 : SpO nn) (i3 : SpA nn) (i4 : SpC nn) (d : Nat) (hd : 8 * nn + 7 ≤ d) (σ : Mem) (hO : OKm σ) (x1 : Int) (hx1 : R32 x1) (b : Int → Int) (N : Int) (p : Nat) (i : Nat) (n : Nat) (lw : Int) (hpre : (rdC σ b N p i ∧ σ p 2 ≤ (i : Int) ∧ σ 35 3 = lw) ∧ x1 = 8 - (n : Int) ∧ n ≤ 8 ∧ n ≤ nn) : Mt yX5_takesSum cX5_takesSum 5 (some .boolean) d [aR (35), aI (x1)] σ (QI (fun v σ' => ansR b N p i (3 + 5 * (n : Int)) σ σ' v (pS (kd b N) (nu b N) lw n i))) := mt_X5_takesSum nn i1 i2 i3 i4 hd hx1 hO (by
  unfold wp_X5_takesSum
  obtain ⟨⟨hr, hz, hlw⟩, hx, hn8, hnn⟩ := hpre
  have hB := hr.1.1
  have hp := hr.1.2.2
  have hM := nu_nn hB
  have hlt : ∀ k, kd b N k ≠ 43 → k < 300 := fun k h => by have := (kd_lt hB h).1; omega
  have e35 := hr.2.2.1
  intro PP hP
  have HE : ∀ (v3 : Int) (e : Int × Nat) (τ : Mem), erR b N p σ τ e → pS (kd b N) (nu b N) lw n i = .inl e → PP x1 0 v3 τ := by
    intro v3 e τ he hq
    have hQ : ansR b N p i (3 + 5 * (n : Int)) σ τ 0 (pS (kd b N) (nu b N) lw n i) := he.ans hq rfl
    exact hP _ _ _ _ (fun _ _ _ _ => ⟨fun _ => ⟨.inl rfl, hQ⟩, fun _ => ⟨fun _ => ⟨.inl rfl, hQ⟩, fun q => absurd rfl q⟩⟩)
  have H : ∀ (k : Nat) (v3 : Int) (j : Nat) (f : Env → Int) (τ : Mem), v3 + k = 300 → 0 ≤ v3 → okQ p i j (3 + 5 * (n : Int)) σ τ f → gd lw f → pS (kd b N) (nu b N) lw n i = pTl (kd b N) oPM (pP (kd b N) (nu b N) lw n) k f j → PP x1 1 v3 τ := by
    intro k
    induction k with
    | zero =>
      intro v3 j f τ hk h0 ho gf he
      exact hP _ _ _ _ (fun _ _ _ _ => ⟨fun _ => ⟨.inr rfl, ho.ans (by rw [he]; rfl) rfl⟩, fun h => absurd h (by omega)⟩)
    | succ k ih =>
      intro v3 j f τ hk h0 ho gf he
      have hrj := ho.rd hr
      have stop : oPM (kd b N j) = false → ansR b N p i (3 + 5 * (n : Int)) σ τ 1 (pS (kd b N) (nu b N) lw n i) := fun q => ho.ans (by rw [he]; show (if oPM (kd b N j) = true then _ else _) = _; rw [q]; rfl) rfl
      have step : ∀ y : Int, y = kd b N j → oPM y = true → R32 ((j : Int) + 1) ∧ ∀ σ25 : Mem, σ25 = mset τ 35 2 ((j : Int) + 1) → ∃ g29 : Int → Int, ∃ g30 : Int, ∃ g31 : Nat, ∃ g32 : Nat, ∃ g33 : Nat, ∃ g34 : Int, ((rdC σ25 g29 g30 g31 g32 ∧ σ25 g31 2 ≤ (g32 : Int) ∧ σ25 35 3 = g34) ∧ x1 = 8 - (g33 : Int) ∧ g33 ≤ 8 ∧ g33 ≤ nn) ∧ ∀ (u39 : Int) (σ38 : Mem), R32 u39 → OKm σ38 → (ansR g29 g30 g31 g32 (2 + 5 * (g33 : Int)) σ25 σ38 u39 (pP (kd g29 g30) (nu g29 g30) g34 g33 g32)) → ∃ t41 : Nat, isText t41 ∧ σ38 35 1 = (t41 : Int) ∧ (0 ≤ σ38 t41 2) ∧ ∀ (u48 : Int) (σ47 : Mem), u48 = (if σ38 t41 2 < 300 then σ38 t41 2 else -1) → σ47 = (if σ38 t41 2 < 300 then mset (mset (mset σ38 (t41 + 1) (σ38 t41 2) y) (t41 + 2) (σ38 t41 2) (0 : Int)) t41 2 (σ38 t41 2 + 1) else σ38) → R32 (v3 + 1) ∧ PP x1 u39 (v3 + 1) σ47 := by
        intro y ey hy
        have hj := hlt j (by intro q; rw [ey, q] at hy; exact absurd hy (by decide))
        refine ⟨by unfold R32; omega, fun σ25 e25 => ?_⟩
        have ha : adv p j τ σ25 := adv.mk hp ho.1.2.2.2 e25
        refine ⟨b, N, p, j + 1, n, lw, ⟨⟨ha.rd hrj (by omega), okQ.le2 ho ha hz, by rw [ha.lw, ho.lw]; exact hlw⟩, hx, hn8, hnn⟩, fun u ρ _ _ h => ?_⟩
        have hpl : pTl (kd b N) oPM (pP (kd b N) (nu b N) lw n) (k + 1) f j = pB (pP (kd b N) (nu b N) lw n (j + 1)) (fun g j' => pTl (kd b N) oPM (pP (kd b N) (nu b N) lw n) k (fun e => jn y (f e) (g e)) j') := by
          show (if oPM (kd b N j) = true then _ else _) = _
          rw [← ey, if_pos hy]
        rw [hpl] at he
        cases hq : pP (kd b N) (nu b N) lw n (j + 1) with
        | inl e =>
          obtain ⟨hv, hee⟩ := h.E hq
          have hee' := hee.pre (ho.1.tr ha.1)
          refine ⟨p, hp, by rw [hee'.1.2.1 1 (by omega) (by omega) (by omega)]; exact hr.2.1, hee'.1.2.2.2.1, fun u2 τ2 _ e2 => ⟨by unfold R32; omega, ?_⟩⟩
          rw [hv]
          exact HE (v3 + 1) e τ2 (erR.emq hp hee' e2) (by rw [he, pB_er hq])
        | inr q =>
          obtain ⟨g, k'⟩ := q
          obtain ⟨hv, hoo⟩ := h.O hq
          have gg := pP_g (lw := lw) hM n _ _ _ hq
          have hfl := okQ.full2 ho ha hoo hz
          refine ⟨p, hp, by rw [hoo.1.2.1 1 (by omega) (by omega) (by omega), ha.1.2.1 1 (by omega) (by omega) (by omega), ho.1.2.1 1 (by omega) (by omega) (by omega)]; exact hr.2.1, hoo.1.2.2.2.1, fun u2 τ2 _ e2 => ⟨by unfold R32; omega, ?_⟩⟩
          rw [if_pos hfl.1] at e2
          rw [hv]
          have gc := oPM_g (lw := lw) y f g hy gf gg.1
          have hyc := hy
          unfold oPM at hyc; rw [decide_eq_true_eq] at hyc
          exact ih (v3 + 1) k' _ τ2 (by omega) (by omega) (okQ.join hp ho ha hoo hz e2 (by omega) gc.1 (by omega) (by omega)) gc (by rw [he, pB_ok hq])
      refine hP _ _ _ _ (fun _ _ _ _ => ⟨fun h => absurd h (by omega), fun _ => ⟨fun q => absurd q (by omega), fun _ => ⟨hrj.1.2.1.1.2, ?_⟩⟩⟩)
      rw [hrj.kind, hrj.2.2.1]
      refine ⟨fun q => ⟨hrj.1.2.1.1.2, fun y ey => step y ey (by rw [ey, q]; decide)⟩, fun q => ⟨hrj.1.2.1.1.2, fun q2 => ⟨.inr rfl, stop (decide_eq_false (fun z => by omega))⟩, fun q2 => ⟨hrj.1.2.1.1.2, fun y ey => step y ey (by rw [ey, q2]; decide)⟩⟩⟩
  refine ⟨b, N, p, i, n, lw, ⟨⟨hr, hz, hlw⟩, hx, hn8, hnn⟩, fun u ρ _ _ h => ?_⟩
  have ec : pS (kd b N) (nu b N) lw n i = pB (pP (kd b N) (nu b N) lw n i) (fun f j => pTl (kd b N) oPM (pP (kd b N) (nu b N) lw n) 300 f j) := by rw [pS_eq]; rfl
  cases hq : pP (kd b N) (nu b N) lw n i with
  | inl e =>
    obtain ⟨hv, hee⟩ := h.E hq
    rw [hv]
    exact HE 0 e ρ hee (by rw [ec, pB_er hq])
  | inr q =>
    obtain ⟨g, j⟩ := q
    obtain ⟨hv, hoo⟩ := h.O hq
    rw [hv]
    exact H 300 0 j g ρ (by omega) (by omega) (hoo.le (by omega)) (pP_g (lw := lw) hM n _ _ _ hq).1 (by rw [ec, pB_ok hq]))
