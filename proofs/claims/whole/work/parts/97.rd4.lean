def wp_X5_takesOne (nn : Nat) (x1 : Int) (σ : Mem) (Q : Int → Mem → Prop) : Prop :=
  (σ 30 5 ≤ 301) ∧
   ∀ y4 : Int, y4 = (if 0 ≤ σ 35 2 ∧ σ 35 2 < σ 30 5 then σ 32 (σ 35 2) else 43) →
   ((y4 ≠ 41) →
    ((¬ (0 ≤ y4 ∧ y4 ≤ 8)) →
     ((y4 = 36 ∨ y4 = 33 ∨ y4 = 18 ∨ y4 = 20 ∨ y4 = 21) →
      ((x1 < 8) →
       R32 ((σ 35 2) + 1) ∧
       ∀ σ13 : Mem, σ13 = mset σ 35 2 ((σ 35 2) + 1) →
       (y4 = 18 →
        R32 (x1 + 1) ∧
        ∃ g19 : Int → Int, ∃ g20 : Int, ∃ g21 : Nat, ∃ g22 : Nat, ∃ g23 : Nat, ∃ g24 : Int, ((rdC σ13 g19 g20 g21 g22 ∧ σ13 g21 2 ≤ (g22 : Int) ∧ σ13 35 3 = g24) ∧ (x1 + 1) = 8 - (g23 : Int) ∧ g23 ≤ 8 ∧ g23 < nn) ∧
        ∀ (u29 : Int) (σ28 : Mem), R32 u29 → OKm σ28 → (ansR g19 g20 g21 g22 (1 + 5 * (g23 : Int)) σ13 σ28 u29 (pO (kd g19 g20) (nu g19 g20) g24 g23 g22)) →
        ((u29 = 0) →
         Q 0 σ28) ∧
        ((u29 ≠ 0) →
         ∃ g32 : Int → Int, ∃ g33 : Int, ∃ g34 : Nat, ∃ g35 : Nat, (rdC σ28 g32 g33 g34 g35) ∧
         ∀ (u40 : Int) (σ39 : Mem), R32 u40 → OKm σ39 → ((kd g32 g33 g35 = (19 : Int) ∧ u40 = 1 ∧ σ39 = mset σ28 35 2 ((g35 : Int) + 1)) ∨ (kd g32 g33 g35 ≠ (19 : Int) ∧ u40 = 0 ∧ σ39 = mset (mset σ28 35 4 1) 35 5 (ps g32 g33 g35))) →
         ((u40 = 0) →
          Q 0 σ39) ∧
         ((u40 ≠ 0) →
          R32 (x1 + 1) ∧
          ∃ g44 : Int → Int, ∃ g45 : Int, ∃ g46 : Nat, ∃ g47 : Nat, ∃ g48 : Nat, ∃ g49 : Int, ((rdC σ39 g44 g45 g46 g47 ∧ σ39 g46 2 ≤ (g47 : Int) ∧ σ39 35 3 = g49) ∧ (x1 + 1) = 8 - (g48 : Int) ∧ g48 ≤ 8 ∧ g48 < nn) ∧
          ∀ (u54 : Int) (σ53 : Mem), R32 u54 → OKm σ53 → (ansR g44 g45 g46 g47 (1 + 5 * (g48 : Int)) σ39 σ53 u54 (pO (kd g44 g45) (nu g44 g45) g49 g48 g47)) →
          ((u54 = 0) →
           Q 0 σ53) ∧
          ((u54 ≠ 0) →
           ∃ g57 : Int → Int, ∃ g58 : Int, ∃ g59 : Nat, ∃ g60 : Nat, (rdC σ53 g57 g58 g59 g60 ∧ σ53 g59 2 < 300) ∧
           ∀ (u65 : Int) (σ64 : Mem), R32 u65 → OKm σ64 → (u65 = 1 ∧ σ64 = emS σ53 g59 (18 : Int) 0) →
           ((u65 = 0) →
            Q 0 σ64) ∧
           ((u65 ≠ 0) →
            Q 1 σ64))))) ∧
       (y4 ≠ 18 →
        (y4 = 20 →
         R32 (x1 + 1) ∧
         ∃ g70 : Int → Int, ∃ g71 : Int, ∃ g72 : Nat, ∃ g73 : Nat, ∃ g74 : Nat, ∃ g75 : Int, ((rdC σ13 g70 g71 g72 g73 ∧ σ13 g72 2 ≤ (g73 : Int) ∧ σ13 35 3 = g75) ∧ (x1 + 1) = 8 - (g74 : Int) ∧ g74 ≤ 8 ∧ g74 < nn) ∧
         ∀ (u80 : Int) (σ79 : Mem), R32 u80 → OKm σ79 → (ansR g70 g71 g72 g73 (1 + 5 * (g74 : Int)) σ13 σ79 u80 (pO (kd g70 g71) (nu g70 g71) g75 g74 g73)) →
         ((u80 = 0) →
          Q 0 σ79) ∧
         ((u80 ≠ 0) →
          ∃ g83 : Int → Int, ∃ g84 : Int, ∃ g85 : Nat, ∃ g86 : Nat, (rdC σ79 g83 g84 g85 g86 ∧ σ79 g85 2 < 300) ∧
          ∀ (u91 : Int) (σ90 : Mem), R32 u91 → OKm σ90 → (u91 = 1 ∧ σ90 = emS σ79 g85 (20 : Int) 0) →
          ((u91 = 0) →
           Q 0 σ90) ∧
          ((u91 ≠ 0) →
           Q 1 σ90))) ∧
        (y4 ≠ 20 →
         (y4 = 33 →
          R32 (x1 + 1) ∧
          ∃ g96 : Int → Int, ∃ g97 : Int, ∃ g98 : Nat, ∃ g99 : Nat, ∃ g100 : Nat, ∃ g101 : Int, ((rdC σ13 g96 g97 g98 g99 ∧ σ13 g98 2 ≤ (g99 : Int) ∧ σ13 35 3 = g101) ∧ (x1 + 1) = 8 - (g100 : Int) ∧ g100 ≤ 8 ∧ g100 < nn) ∧
          ∀ (u106 : Int) (σ105 : Mem), R32 u106 → OKm σ105 → (ansR g96 g97 g98 g99 (1 + 5 * (g100 : Int)) σ13 σ105 u106 (pO (kd g96 g97) (nu g96 g97) g101 g100 g99)) →
          ((u106 = 0) →
           Q 0 σ105) ∧
          ((u106 ≠ 0) →
           ∃ g109 : Int → Int, ∃ g110 : Int, ∃ g111 : Nat, ∃ g112 : Nat, (rdC σ105 g109 g110 g111 g112 ∧ σ105 g111 2 < 300) ∧
           ∀ (u117 : Int) (σ116 : Mem), R32 u117 → OKm σ116 → (u117 = 1 ∧ σ116 = emS σ105 g111 (44 : Int) 0) →
           ((u117 = 0) →
            Q 0 σ116) ∧
           ((u117 ≠ 0) →
            Q 1 σ116))) ∧
         (y4 ≠ 33 →
          (y4 = 36 →
           R32 (x1 + 1) ∧
           ∃ g122 : Int → Int, ∃ g123 : Int, ∃ g124 : Nat, ∃ g125 : Nat, ∃ g126 : Nat, ∃ g127 : Int, ((rdC σ13 g122 g123 g124 g125 ∧ σ13 g124 2 ≤ (g125 : Int) ∧ σ13 35 3 = g127) ∧ (x1 + 1) = 8 - (g126 : Int) ∧ g126 ≤ 8 ∧ g126 < nn) ∧
           ∀ (u132 : Int) (σ131 : Mem), R32 u132 → OKm σ131 → (ansR g122 g123 g124 g125 (3 + 5 * (g126 : Int)) σ13 σ131 u132 (pS (kd g122 g123) (nu g122 g123) g127 g126 g125)) →
           ((u132 = 0) →
            Q 0 σ131) ∧
           ((u132 ≠ 0) →
            ∃ g135 : Int → Int, ∃ g136 : Int, ∃ g137 : Nat, ∃ g138 : Nat, (rdC σ131 g135 g136 g137 g138) ∧
            ∀ (u143 : Int) (σ142 : Mem), R32 u143 → OKm σ142 → ((kd g135 g136 g138 = (37 : Int) ∧ u143 = 1 ∧ σ142 = mset σ131 35 2 ((g138 : Int) + 1)) ∨ (kd g135 g136 g138 ≠ (37 : Int) ∧ u143 = 0 ∧ σ142 = mset (mset σ131 35 4 1) 35 5 (ps g135 g136 g138))) →
            ((u143 = 0) →
             Q 0 σ142) ∧
            ((u143 ≠ 0) →
             Q 1 σ142))) ∧
          (y4 ≠ 36 →
           R32 (x1 + 1) ∧
           ∃ g147 : Int → Int, ∃ g148 : Int, ∃ g149 : Nat, ∃ g150 : Nat, ∃ g151 : Nat, ∃ g152 : Int, ((rdC σ13 g147 g148 g149 g150 ∧ σ13 g149 2 ≤ (g150 : Int) ∧ σ13 35 3 = g152) ∧ (x1 + 1) = 8 - (g151 : Int) ∧ g151 ≤ 8 ∧ g151 < nn) ∧
           ∀ (u157 : Int) (σ156 : Mem), R32 u157 → OKm σ156 → (ansR g147 g148 g149 g150 (6 + 5 * (g151 : Int)) σ13 σ156 u157 (pC (kd g147 g148) (nu g147 g148) g152 g151 g150)) →
           (u157 = 0 ∨ u157 = 1) ∧
           Q u157 σ156))))) ∧
      ((8 ≤ x1) →
       ∃ g160 : Int → Int, ∃ g161 : Int, ∃ g162 : Nat, ∃ g163 : Nat, (rdC σ g160 g161 g162 g163) ∧
       ∀ (u168 : Int) (σ167 : Mem), R32 u168 → OKm σ167 → (u168 = 0 ∧ σ167 = mset (mset σ 35 4 (3 : Int)) 35 5 (ps g160 g161 g163)) →
       (u168 = 0 ∨ u168 = 1) ∧
       Q u168 σ167)) ∧
     ((¬ (y4 = 36 ∨ y4 = 33 ∨ y4 = 18 ∨ y4 = 20 ∨ y4 = 21)) →
      ∃ g171 : Int → Int, ∃ g172 : Int, ∃ g173 : Nat, ∃ g174 : Nat, (rdC σ g171 g172 g173 g174) ∧
      ∀ (u179 : Int) (σ178 : Mem), R32 u179 → OKm σ178 → (u179 = 0 ∧ σ178 = mset (mset σ 35 4 (1 : Int)) 35 5 (ps g171 g172 g174)) →
      (u179 = 0 ∨ u179 = 1) ∧
      Q u179 σ178)) ∧
    ((0 ≤ y4 ∧ y4 ≤ 8) →
     ∃ g182 : Int → Int, ∃ g183 : Int, ∃ g184 : Nat, ∃ g185 : Nat, (rdC σ g182 g183 g184 g185 ∧ σ g184 2 < 300 ∧ g185 < 300) ∧
     ∀ (u190 : Int) (σ189 : Mem), R32 u190 → OKm σ189 → ((((0 ≤ y4 ∧ y4 ≤ 4) ∨ (σ 35 3 = 9 ∧ 5 ≤ y4 ∧ y4 ≤ 7) ∨ (σ 35 3 ≠ 9 ∧ y4 = 8)) ∧ u190 = 1 ∧ σ189 = emS (mset σ 35 2 ((g185 : Int) + 1)) g184 y4 0) ∨ (¬ ((0 ≤ y4 ∧ y4 ≤ 4) ∨ (σ 35 3 = 9 ∧ 5 ≤ y4 ∧ y4 ≤ 7) ∨ (σ 35 3 ≠ 9 ∧ y4 = 8)) ∧ u190 = 0 ∧ σ189 = mset (mset σ 35 4 5) 35 5 (ps g182 g183 g185))) →
     (u190 = 0 ∨ u190 = 1) ∧
     Q u190 σ189)) ∧
   ((y4 = 41) →
    ∃ g193 : Int → Int, ∃ g194 : Int, ∃ g195 : Nat, ∃ g196 : Nat, (rdC σ g193 g194 g195 g196 ∧ kd g193 g194 g196 = 41 ∧ σ g195 2 < 300) ∧
    ∀ (u201 : Int) (σ200 : Mem), R32 u201 → OKm σ200 → ((9999 < nu g193 g194 g196 ∧ u201 = 0 ∧ σ200 = mset (mset σ 35 4 2) 35 5 (ps g193 g194 g196)) ∨ (nu g193 g194 g196 ≤ 9999 ∧ u201 = 1 ∧ σ200 = mset (emS σ g195 41 (nu g193 g194 g196)) 35 2 ((g196 : Int) + 1))) →
    (u201 = 0 ∨ u201 = 1) ∧
    Q u201 σ200)
theorem mt_X5_takesOne (nn : Nat) (i1 : SpS nn) (i2 : SpO nn) (i3 : SpA nn) (i4 : SpC nn) {d : Nat} (hd : 8 * nn + 5 ≤ d) {x1 : Int} {σ : Mem} {Q : Int → Mem → Prop} (hx1 : R32 x1) (hO : OKm σ) (h : wp_X5_takesOne nn x1 σ Q) : Mt yX5_takesOne cX5_takesOne 3 (some .boolean) d [aR (35), aI (x1)] σ (QI Q) := by
  refine Mt.intro (by decide +kernel) (Nat.le_of_ble_eq_true rfl) [(0, aR (35)), (1, aI (x1))] rfl ?_
  unfold wp_X5_takesOne at h
  refine G_aload_n 0 rfl rfl dX5_takesOne_0 ?_
  obtain ⟨c1, h⟩ := h
  refine G_callV (as := []) cf_X5_42 rfl rfl rfl (sp_X5_kind (d - 1) (by omega) _ hO  c1) (by omega) rfl rfl (Nat.le_of_ble_eq_true rfl) dX5_takesOne_1 ?_
  rintro _ _ ⟨_, rfl, rfl, rfl⟩ o3 r2
  have h := h _ rfl
  refine G_istore_n (lv' := [(2, aI (((if 0 ≤ σ 35 2 ∧ σ 35 2 < σ 30 5 then σ 32 (σ 35 2) else 43)))), (0, aR (35)), (1, aI (x1))]) rfl rfl (by decide) dX5_takesOne_4 ?_
  refine G_iload_n 0 rfl rfl dX5_takesOne_5 ?_
  refine G_bipush (by decide) dX5_takesOne_6 ?_
  refine G_icmp_ne (r2 _ rfl) (rL 41 rfl) dX5_takesOne_8 (tgt := 16) (by decide) (fun c5 => ?_) (fun c5 => ?_)
  · have h := h.1 c5
    refine G_iload_n 0 rfl rfl dX5_takesOne_16 ?_
    refine G_callS (as := [_]) cf_X5_122 rfl (sp_X1_isName (d - 1) (by omega) _ hO _ (r2 _ rfl)) (by omega) rfl rfl (Nat.le_of_ble_eq_true rfl) dX5_takesOne_17 ?_
    rintro _ _ ⟨_, rfl, rfl, rfl⟩ o7 r6
    refine G_if_eq (bI_R _) dX5_takesOne_20 (tgt := 29) (by decide) (fun c8 => ?_) (fun c8 => ?_)
    · have h := h.1 ((bI_0 _).mp c8)
      refine G_iload_n 0 rfl rfl dX5_takesOne_29 ?_
      refine G_callS (as := [_]) cf_X5_128 rfl (sp_X5_opensOne (d - 1) (by omega) _ hO _ (r2 _ rfl)) (by omega) rfl rfl (Nat.le_of_ble_eq_true rfl) dX5_takesOne_30 ?_
      rintro _ _ ⟨_, rfl, rfl, rfl⟩ o10 r9
      refine G_if_ne (bI_R _) dX5_takesOne_33 (tgt := 42) (by decide) (fun c11 => ?_) (fun c11 => ?_)
      · have h := h.1 (bI_ne c11)
        refine G_iload_n 2 rfl rfl dX5_takesOne_42 ?_
        refine G_bipush (by decide) dX5_takesOne_43 ?_
        refine G_icmp_lt hx1 (rL 8 rfl) dX5_takesOne_45 (tgt := 54) (by decide) (fun c12 => ?_) (fun c12 => ?_)
        · have h := h.1 c12
          refine G_aload_n 1 rfl rfl dX5_takesOne_54 ?_
          refine G_dup rfl dX5_takesOne_55 ?_
          refine G_get (k := 2) (kd := (0, 0)) (v := aI (σ 35 2)) gf_X5_15 rfl rfl rfl rfl dX5_takesOne_56 ?_
          refine G_iconst dX5_takesOne_59 ?_
          refine G_iadd dX5_takesOne_60 ?_
          obtain ⟨c14, h⟩ := h
          obtain ⟨σ13, e16⟩ : ∃ τ : Mem, τ = mset σ 35 2 ((σ 35 2) + 1) := ⟨_, rfl⟩
          have h := h σ13 e16
          have o15 : OKm σ13 := by rw [e16]; exact OKm.seti hO _ _ _ c14 rfl
          refine G_put (k := 2) (ki := 2) (kd := (0, 0)) (x := _) pf_X5_15 rfl rfl rfl rfl (fa_i (mset_self _ _ _ _)) (fun _ => rfl) (fun _ => rfl) dX5_takesOne_61 ?_
          rw [← e16]
          refine G_iload_n 0 rfl rfl dX5_takesOne_64 ?_
          refine G_lsw (tgt := 158) 18 (by decide) rfl (by decide) (r2 _ rfl) dX5_takesOne_65 (fun c17 => ?_) (fun c17 => ?_)
          · have h := h.1 c17
            refine G_aload_n 1 rfl rfl dX5_takesOne_158 ?_
            refine G_iload_n 2 rfl rfl dX5_takesOne_159 ?_
            refine G_iconst dX5_takesOne_160 ?_
            refine G_iadd dX5_takesOne_161 ?_
            obtain ⟨c18, h⟩ := h
            obtain ⟨g19, g20, g21, g22, g23, g24, c25, h⟩ := h
            refine G_callV (as := [_]) cf_X5_116 rfl rfl rfl (i2 (d - 1) (by omega) _ o15 _ c18 g19 g20 g21 g22 g23 g24 c25) (by omega) rfl rfl (Nat.le_of_ble_eq_true rfl) dX5_takesOne_162 ?_
            rintro _ σ28 ⟨u29, rfl, z30⟩ o27 r26
            have h := h _ _ (r26 _ rfl) o27 z30
            refine G_if_eq (r26 _ rfl) dX5_takesOne_165 (tgt := 200) (by decide) (fun c31 => ?_) (fun c31 => ?_)
            · have h := h.1 c31
              refine G_iconst dX5_takesOne_200 ?_
              exact G_zret rfl (by decide) dX5_takesOne_201 ⟨_, rfl, h⟩ o27
            · have h := h.2 c31
              refine G_aload_n 1 rfl rfl dX5_takesOne_168 ?_
              refine G_bipush (by decide) dX5_takesOne_169 ?_
              obtain ⟨g32, g33, g34, g35, c36, h⟩ := h
              refine G_callV (as := [_]) cf_X5_93 rfl rfl rfl (sp_X5_takesKind (d - 1) (by omega) _ o27 _ (rL 19 rfl) g32 g33 g34 g35 c36) (by omega) rfl rfl (Nat.le_of_ble_eq_true rfl) dX5_takesOne_171 ?_
              rintro _ σ39 ⟨u40, rfl, z41⟩ o38 r37
              have h := h _ _ (r37 _ rfl) o38 z41
              refine G_if_eq (r37 _ rfl) dX5_takesOne_174 (tgt := 200) (by decide) (fun c42 => ?_) (fun c42 => ?_)
              · have h := h.1 c42
                refine G_iconst dX5_takesOne_200 ?_
                exact G_zret rfl (by decide) dX5_takesOne_201 ⟨_, rfl, h⟩ o38
              · have h := h.2 c42
                refine G_aload_n 1 rfl rfl dX5_takesOne_177 ?_
                refine G_iload_n 2 rfl rfl dX5_takesOne_178 ?_
                refine G_iconst dX5_takesOne_179 ?_
                refine G_iadd dX5_takesOne_180 ?_
                obtain ⟨c43, h⟩ := h
                obtain ⟨g44, g45, g46, g47, g48, g49, c50, h⟩ := h
                refine G_callV (as := [_]) cf_X5_116 rfl rfl rfl (i2 (d - 1) (by omega) _ o38 _ c43 g44 g45 g46 g47 g48 g49 c50) (by omega) rfl rfl (Nat.le_of_ble_eq_true rfl) dX5_takesOne_181 ?_
                rintro _ σ53 ⟨u54, rfl, z55⟩ o52 r51
                have h := h _ _ (r51 _ rfl) o52 z55
                refine G_if_eq (r51 _ rfl) dX5_takesOne_184 (tgt := 200) (by decide) (fun c56 => ?_) (fun c56 => ?_)
                · have h := h.1 c56
                  refine G_iconst dX5_takesOne_200 ?_
                  exact G_zret rfl (by decide) dX5_takesOne_201 ⟨_, rfl, h⟩ o52
                · have h := h.2 c56
                  refine G_aload_n 1 rfl rfl dX5_takesOne_187 ?_
                  refine G_bipush (by decide) dX5_takesOne_188 ?_
                  obtain ⟨g57, g58, g59, g60, c61, h⟩ := h
                  refine G_callV (as := [_]) cf_X5_131 rfl rfl rfl (sp_X5_emits (d - 1) (by omega) _ o52 _ (rL 18 rfl) g57 g58 g59 g60 c61) (by omega) rfl rfl (Nat.le_of_ble_eq_true rfl) dX5_takesOne_190 ?_
                  rintro _ σ64 ⟨u65, rfl, z66⟩ o63 r62
                  have h := h _ _ (r62 _ rfl) o63 z66
                  refine G_if_eq (r62 _ rfl) dX5_takesOne_193 (tgt := 200) (by decide) (fun c67 => ?_) (fun c67 => ?_)
                  · have h := h.1 c67
                    refine G_iconst dX5_takesOne_200 ?_
                    exact G_zret rfl (by decide) dX5_takesOne_201 ⟨_, rfl, h⟩ o63
                  · have h := h.2 c67
                    refine G_iconst dX5_takesOne_196 ?_
                    refine G_goto (tgt := 201) dX5_takesOne_197 (by decide) ?_
                    exact G_zret rfl (by decide) dX5_takesOne_201 ⟨_, rfl, h⟩ o63
          · have h := h.2 c17
            refine G_lsw (tgt := 202) 20 (by decide) rfl (by decide) (r2 _ rfl) dX5_takesOne_65 (fun c68 => ?_) (fun c68 => ?_)
            · have h := h.1 c68
              refine G_aload_n 1 rfl rfl dX5_takesOne_202 ?_
              refine G_iload_n 2 rfl rfl dX5_takesOne_203 ?_
              refine G_iconst dX5_takesOne_204 ?_
              refine G_iadd dX5_takesOne_205 ?_
              obtain ⟨c69, h⟩ := h
              obtain ⟨g70, g71, g72, g73, g74, g75, c76, h⟩ := h
              refine G_callV (as := [_]) cf_X5_116 rfl rfl rfl (i2 (d - 1) (by omega) _ o15 _ c69 g70 g71 g72 g73 g74 g75 c76) (by omega) rfl rfl (Nat.le_of_ble_eq_true rfl) dX5_takesOne_206 ?_
              rintro _ σ79 ⟨u80, rfl, z81⟩ o78 r77
              have h := h _ _ (r77 _ rfl) o78 z81
              refine G_if_eq (r77 _ rfl) dX5_takesOne_209 (tgt := 225) (by decide) (fun c82 => ?_) (fun c82 => ?_)
              · have h := h.1 c82
                refine G_iconst dX5_takesOne_225 ?_
                exact G_zret rfl (by decide) dX5_takesOne_226 ⟨_, rfl, h⟩ o78
              · have h := h.2 c82
                refine G_aload_n 1 rfl rfl dX5_takesOne_212 ?_
                refine G_bipush (by decide) dX5_takesOne_213 ?_
                obtain ⟨g83, g84, g85, g86, c87, h⟩ := h
                refine G_callV (as := [_]) cf_X5_131 rfl rfl rfl (sp_X5_emits (d - 1) (by omega) _ o78 _ (rL 20 rfl) g83 g84 g85 g86 c87) (by omega) rfl rfl (Nat.le_of_ble_eq_true rfl) dX5_takesOne_215 ?_
                rintro _ σ90 ⟨u91, rfl, z92⟩ o89 r88
                have h := h _ _ (r88 _ rfl) o89 z92
                refine G_if_eq (r88 _ rfl) dX5_takesOne_218 (tgt := 225) (by decide) (fun c93 => ?_) (fun c93 => ?_)
                · have h := h.1 c93
                  refine G_iconst dX5_takesOne_225 ?_
                  exact G_zret rfl (by decide) dX5_takesOne_226 ⟨_, rfl, h⟩ o89
                · have h := h.2 c93
                  refine G_iconst dX5_takesOne_221 ?_
                  refine G_goto (tgt := 226) dX5_takesOne_222 (by decide) ?_
                  exact G_zret rfl (by decide) dX5_takesOne_226 ⟨_, rfl, h⟩ o89
            · have h := h.2 c68
              refine G_lsw (tgt := 133) 33 (by decide) rfl (by decide) (r2 _ rfl) dX5_takesOne_65 (fun c94 => ?_) (fun c94 => ?_)
              · have h := h.1 c94
                refine G_aload_n 1 rfl rfl dX5_takesOne_133 ?_
                refine G_iload_n 2 rfl rfl dX5_takesOne_134 ?_
                refine G_iconst dX5_takesOne_135 ?_
                refine G_iadd dX5_takesOne_136 ?_
                obtain ⟨c95, h⟩ := h
                obtain ⟨g96, g97, g98, g99, g100, g101, c102, h⟩ := h
                refine G_callV (as := [_]) cf_X5_116 rfl rfl rfl (i2 (d - 1) (by omega) _ o15 _ c95 g96 g97 g98 g99 g100 g101 c102) (by omega) rfl rfl (Nat.le_of_ble_eq_true rfl) dX5_takesOne_137 ?_
                rintro _ σ105 ⟨u106, rfl, z107⟩ o104 r103
                have h := h _ _ (r103 _ rfl) o104 z107
                refine G_if_eq (r103 _ rfl) dX5_takesOne_140 (tgt := 156) (by decide) (fun c108 => ?_) (fun c108 => ?_)
                · have h := h.1 c108
                  refine G_iconst dX5_takesOne_156 ?_
                  exact G_zret rfl (by decide) dX5_takesOne_157 ⟨_, rfl, h⟩ o104
                · have h := h.2 c108
                  refine G_aload_n 1 rfl rfl dX5_takesOne_143 ?_
                  refine G_bipush (by decide) dX5_takesOne_144 ?_
                  obtain ⟨g109, g110, g111, g112, c113, h⟩ := h
                  refine G_callV (as := [_]) cf_X5_131 rfl rfl rfl (sp_X5_emits (d - 1) (by omega) _ o104 _ (rL 44 rfl) g109 g110 g111 g112 c113) (by omega) rfl rfl (Nat.le_of_ble_eq_true rfl) dX5_takesOne_146 ?_
                  rintro _ σ116 ⟨u117, rfl, z118⟩ o115 r114
                  have h := h _ _ (r114 _ rfl) o115 z118
                  refine G_if_eq (r114 _ rfl) dX5_takesOne_149 (tgt := 156) (by decide) (fun c119 => ?_) (fun c119 => ?_)
                  · have h := h.1 c119
                    refine G_iconst dX5_takesOne_156 ?_
                    exact G_zret rfl (by decide) dX5_takesOne_157 ⟨_, rfl, h⟩ o115
                  · have h := h.2 c119
                    refine G_iconst dX5_takesOne_152 ?_
                    refine G_goto (tgt := 157) dX5_takesOne_153 (by decide) ?_
                    exact G_zret rfl (by decide) dX5_takesOne_157 ⟨_, rfl, h⟩ o115
              · have h := h.2 c94
                refine G_lsw (tgt := 108) 36 (by decide) rfl (by decide) (r2 _ rfl) dX5_takesOne_65 (fun c120 => ?_) (fun c120 => ?_)
                · have h := h.1 c120
                  refine G_aload_n 1 rfl rfl dX5_takesOne_108 ?_
                  refine G_iload_n 2 rfl rfl dX5_takesOne_109 ?_
                  refine G_iconst dX5_takesOne_110 ?_
                  refine G_iadd dX5_takesOne_111 ?_
                  obtain ⟨c121, h⟩ := h
                  obtain ⟨g122, g123, g124, g125, g126, g127, c128, h⟩ := h
                  refine G_callV (as := [_]) cf_X5_102 rfl rfl rfl (i1 (d - 1) (by omega) _ o15 _ c121 g122 g123 g124 g125 g126 g127 c128) (by omega) rfl rfl (Nat.le_of_ble_eq_true rfl) dX5_takesOne_112 ?_
                  rintro _ σ131 ⟨u132, rfl, z133⟩ o130 r129
                  have h := h _ _ (r129 _ rfl) o130 z133
                  refine G_if_eq (r129 _ rfl) dX5_takesOne_115 (tgt := 131) (by decide) (fun c134 => ?_) (fun c134 => ?_)
                  · have h := h.1 c134
                    refine G_iconst dX5_takesOne_131 ?_
                    exact G_zret rfl (by decide) dX5_takesOne_132 ⟨_, rfl, h⟩ o130
                  · have h := h.2 c134
                    refine G_aload_n 1 rfl rfl dX5_takesOne_118 ?_
                    refine G_bipush (by decide) dX5_takesOne_119 ?_
                    obtain ⟨g135, g136, g137, g138, c139, h⟩ := h
                    refine G_callV (as := [_]) cf_X5_93 rfl rfl rfl (sp_X5_takesKind (d - 1) (by omega) _ o130 _ (rL 37 rfl) g135 g136 g137 g138 c139) (by omega) rfl rfl (Nat.le_of_ble_eq_true rfl) dX5_takesOne_121 ?_
                    rintro _ σ142 ⟨u143, rfl, z144⟩ o141 r140
                    have h := h _ _ (r140 _ rfl) o141 z144
                    refine G_if_eq (r140 _ rfl) dX5_takesOne_124 (tgt := 131) (by decide) (fun c145 => ?_) (fun c145 => ?_)
                    · have h := h.1 c145
                      refine G_iconst dX5_takesOne_131 ?_
                      exact G_zret rfl (by decide) dX5_takesOne_132 ⟨_, rfl, h⟩ o141
                    · have h := h.2 c145
                      refine G_iconst dX5_takesOne_127 ?_
                      refine G_goto (tgt := 132) dX5_takesOne_128 (by decide) ?_
                      exact G_zret rfl (by decide) dX5_takesOne_132 ⟨_, rfl, h⟩ o141
                · have h := h.2 c120
                  refine G_lswd (tgt := 227) (by decide) (by simp [Op.lookupswitch.offset, Ne.symm c17, c17, Ne.symm c68, c68, Ne.symm c94, c94, Ne.symm c120, c120]) (by decide) (r2 _ rfl) dX5_takesOne_65 ?_
                  refine G_aload_n 1 rfl rfl dX5_takesOne_227 ?_
                  refine G_iload_n 2 rfl rfl dX5_takesOne_228 ?_
                  refine G_iconst dX5_takesOne_229 ?_
                  refine G_iadd dX5_takesOne_230 ?_
                  obtain ⟨c146, h⟩ := h
                  obtain ⟨g147, g148, g149, g150, g151, g152, c153, h⟩ := h
                  refine G_callV (as := [_]) cf_X5_134 rfl rfl rfl (i4 (d - 1) (by omega) _ o15 _ c146 g147 g148 g149 g150 g151 g152 c153) (by omega) rfl rfl (Nat.le_of_ble_eq_true rfl) dX5_takesOne_231 ?_
                  rintro _ σ156 ⟨u157, rfl, z158⟩ o155 r154
                  have h := h _ _ (r154 _ rfl) o155 z158
                  obtain ⟨c159, h⟩ := h
                  exact G_zret rfl c159 dX5_takesOne_234 ⟨_, rfl, h⟩ o155
        · have h := h.2 c12
          refine G_aload_n 1 rfl rfl dX5_takesOne_48 ?_
          refine G_iconst dX5_takesOne_49 ?_
          obtain ⟨g160, g161, g162, g163, c164, h⟩ := h
          refine G_callV (as := [_]) cf_X5_59 rfl rfl rfl (sp_X5_fails (d - 1) (by omega) _ hO _ (rL 3 rfl) g160 g161 g162 g163 c164) (by omega) rfl rfl (Nat.le_of_ble_eq_true rfl) dX5_takesOne_50 ?_
          rintro _ σ167 ⟨u168, rfl, z169⟩ o166 r165
          have h := h _ _ (r165 _ rfl) o166 z169
          obtain ⟨c170, h⟩ := h
          exact G_zret rfl c170 dX5_takesOne_53 ⟨_, rfl, h⟩ o166
      · have h := h.2 ((bI_0 _).mp c11)
        refine G_aload_n 1 rfl rfl dX5_takesOne_36 ?_
        refine G_iconst dX5_takesOne_37 ?_
        obtain ⟨g171, g172, g173, g174, c175, h⟩ := h
        refine G_callV (as := [_]) cf_X5_59 rfl rfl rfl (sp_X5_fails (d - 1) (by omega) _ hO _ (rL 1 rfl) g171 g172 g173 g174 c175) (by omega) rfl rfl (Nat.le_of_ble_eq_true rfl) dX5_takesOne_38 ?_
        rintro _ σ178 ⟨u179, rfl, z180⟩ o177 r176
        have h := h _ _ (r176 _ rfl) o177 z180
        obtain ⟨c181, h⟩ := h
        exact G_zret rfl c181 dX5_takesOne_41 ⟨_, rfl, h⟩ o177
    · have h := h.2 (bI_ne c8)
      refine G_aload_n 1 rfl rfl dX5_takesOne_23 ?_
      refine G_iload_n 0 rfl rfl dX5_takesOne_24 ?_
      obtain ⟨g182, g183, g184, g185, c186, h⟩ := h
      refine G_callV (as := [_]) cf_X5_125 rfl rfl rfl (sp_X5_takesName (d - 1) (by omega) _ hO _ (r2 _ rfl) g182 g183 g184 g185 c186) (by omega) rfl rfl (Nat.le_of_ble_eq_true rfl) dX5_takesOne_25 ?_
      rintro _ σ189 ⟨u190, rfl, z191⟩ o188 r187
      have h := h _ _ (r187 _ rfl) o188 z191
      obtain ⟨c192, h⟩ := h
      exact G_zret rfl c192 dX5_takesOne_28 ⟨_, rfl, h⟩ o188
  · have h := h.2 c5
    refine G_aload_n 1 rfl rfl dX5_takesOne_11 ?_
    obtain ⟨g193, g194, g195, g196, c197, h⟩ := h
    refine G_callV (as := []) cf_X5_119 rfl rfl rfl (sp_X5_takesNumberOfLaw (d - 1) (by omega) _ hO  g193 g194 g195 g196 c197) (by omega) rfl rfl (Nat.le_of_ble_eq_true rfl) dX5_takesOne_12 ?_
    rintro _ σ200 ⟨u201, rfl, z202⟩ o199 r198
    have h := h _ _ (r198 _ rfl) o199 z202
    obtain ⟨c203, h⟩ := h
    exact G_zret rfl c203 dX5_takesOne_15 ⟨_, rfl, h⟩ o199

theorem sp_X5_takesOne (nn : Nat) (i1 : SpS nn) (i2 : SpO nn) (i3 : SpA nn) (i4 : SpC nn) (d : Nat) (hd : 8 * nn + 5 ≤ d) (σ : Mem) (hO : OKm σ) (x1 : Int) (hx1 : R32 x1) (b : Int → Int) (N : Int) (p : Nat) (i : Nat) (n : Nat) (lw : Int) (hpre : (rdC σ b N p i ∧ σ p 2 ≤ (i : Int) ∧ σ 35 3 = lw) ∧ x1 = 8 - (n : Int) ∧ n ≤ 8 ∧ n ≤ nn) : Mt yX5_takesOne cX5_takesOne 3 (some .boolean) d [aR (35), aI (x1)] σ (QI (fun v σ' => ansR b N p i (1 + 5 * (n : Int)) σ σ' v (pO (kd b N) (nu b N) lw n i))) := mt_X5_takesOne nn i1 i2 i3 i4 hd hx1 hO (by
  unfold wp_X5_takesOne
  obtain ⟨⟨hr, hz, hlw⟩, hx, hn8, hnn⟩ := hpre
  have hB := hr.1.1
  have hp := hr.1.2.2
  have hM := nu_nn hB
  have hlt : ∀ k, kd b N k ≠ 43 → k < 300 := fun k h => by have := (kd_lt hB h).1; omega
  have e35 := hr.2.2.1
  refine ⟨hr.1.2.1.1.2, fun y4 e4 => ?_⟩
  rw [hr.kind] at e4
  subst e4
  refine ⟨fun h41 => ⟨fun hnm => ⟨fun hop => ⟨fun h8 => ?_, fun h8 => ?_⟩, fun hop => ?_⟩, fun hnm => ?_⟩, fun h41 => ?_⟩
  · obtain ⟨m, rfl⟩ : ∃ m, n = m + 1 := ⟨n - 1, by omega⟩
    have hi : i < 300 := hlt i (by omega)
    rw [e35]
    refine ⟨by unfold R32; omega, fun σ13 e13 => ?_⟩
    have ha : adv p i σ σ13 := adv.mk hp hr.2.2.2.2 e13
    have hr' := ha.rd hr (by omega)
    have hz' : σ13 p 2 ≤ ((i + 1 : Nat) : Int) := by rw [ha.2.2.1]; omega
    have hlw' : σ13 35 3 = lw := by rw [ha.lw]; exact hlw
    have hx' : x1 + 1 = 8 - (m : Int) := by omega
    have hR : R32 (x1 + 1) := by unfold R32; omega
    refine ⟨fun h18 => ⟨hR, b, N, p, i + 1, m, lw, ⟨⟨hr', hz', hlw'⟩, hx', by omega, by omega⟩, fun u ρ _ _ h => ?_⟩, fun n18 => ⟨fun h20 => ⟨hR, b, N, p, i + 1, m, lw, ⟨⟨hr', hz', hlw'⟩, hx', by omega, by omega⟩, fun u ρ _ _ h => ?_⟩, fun n20 => ⟨fun h33 => ⟨hR, b, N, p, i + 1, m, lw, ⟨⟨hr', hz', hlw'⟩, hx', by omega, by omega⟩, fun u ρ _ _ h => ?_⟩, fun n33 => ⟨fun h36 => ⟨hR, b, N, p, i + 1, m, lw, ⟨⟨hr', hz', hlw'⟩, hx', by omega, by omega⟩, fun u ρ _ _ h => ?_⟩, fun n36 => ⟨hR, b, N, p, i + 1, m, lw, ⟨⟨hr', hz', hlw'⟩, hx', by omega, by omega⟩, fun u ρ _ _ h => ?_⟩⟩⟩⟩⟩
    · have ep := pO_com (K := kd b N) (M := nu b N) (lw := lw) (n := m) (i := i) h18
      cases hq : pO (kd b N) (nu b N) lw m (i + 1) with
      | inl e =>
        obtain ⟨hv, he⟩ := h.E hq
        exact ⟨fun _ => (he.pre ha.1).ans (by rw [ep, pB_er hq]) rfl, fun q => absurd hv q⟩
      | inr q =>
        obtain ⟨f, j⟩ := q
        obtain ⟨hv, ho⟩ := h.O hq
        have hrj := ho.rd hr'
        have gf := pO_g (lw := lw) hM m _ _ _ hq
        rw [pB_ok hq] at ep
        refine ⟨fun q => absurd q (by omega), fun _ => ⟨b, N, p, j, hrj, fun u2 ρ2 _ _ h2 => ?_⟩⟩
        rcases h2 with ⟨k19, hu, e2⟩ | ⟨k19, hu, e2⟩
        · rw [if_pos k19] at ep
          have ha2 : adv p j ρ ρ2 := adv.mk hp ho.1.2.2.2 e2
          have hj := hlt j (by omega)
          have ho' := okQ.pre ha ho
          have hz2 := okQ.le2 ho' ha2 hz
          refine ⟨fun q => absurd q (by omega), fun _ => ⟨hR, b, N, p, j + 1, m, lw, ⟨⟨ha2.rd hrj (by omega), hz2, by rw [ha2.lw, ho.lw]; exact hlw'⟩, hx', by omega, by omega⟩, fun u3 ρ3 _ _ h3 => ?_⟩⟩
          cases hq3 : pO (kd b N) (nu b N) lw m (j + 1) with
          | inl e =>
            obtain ⟨hv3, he3⟩ := h3.E hq3
            exact ⟨fun _ => (he3.pre (ho'.1.tr ha2.1)).ans (by rw [ep, pB_er hq3]) rfl, fun q => absurd hv3 q⟩
          | inr q =>
            obtain ⟨g, k⟩ := q
            obtain ⟨hv3, ho3⟩ := h3.O hq3
            have gg := pO_g (lw := lw) hM m _ _ _ hq3
            rw [pB_ok hq3] at ep
            have hfl := okQ.full2 ho' ha2 ho3 hz
            refine ⟨fun q => absurd q (by omega), fun _ => ⟨b, N, p, k, ⟨ho3.rd (ha2.rd hrj (by omega)), hfl.1⟩, fun u4 ρ4 _ _ ⟨h4, e4⟩ => ⟨fun q => absurd q (by omega), fun _ => ?_⟩⟩⟩
            exact (okQ.join hp ho' ha2 ho3 hz e4 (.inl rfl) (fun e he => jn_mil (.inl rfl) (gf.1.1 e he) (gg.1.1 e he)) (by omega) (by omega)).ans ep rfl
        · rw [if_neg k19] at ep
          exact ⟨fun _ => ((erR.fail hrj e2).pre (ha.1.tr ho.1)).ans ep rfl, fun q => absurd hu q⟩
    · have ep := pO_rds (K := kd b N) (M := nu b N) (lw := lw) (n := m) (i := i) h20
      cases hq : pO (kd b N) (nu b N) lw m (i + 1) with
      | inl e =>
        obtain ⟨hv, he⟩ := h.E hq
        exact ⟨fun _ => (he.pre ha.1).ans (by rw [ep, pB_er hq]) rfl, fun q => absurd hv q⟩
      | inr q =>
        obtain ⟨f, j⟩ := q
        obtain ⟨hv, ho⟩ := h.O hq
        have gf := pO_g (lw := lw) hM m _ _ _ hq
        rw [pB_ok hq] at ep
        refine ⟨fun q => absurd q (by omega), fun _ => ⟨b, N, p, j, ⟨ho.rd hr', okQ.full ha ho hz⟩, fun u4 ρ4 _ _ ⟨h4, e4⟩ => ⟨fun q => absurd q (by omega), fun _ => ?_⟩⟩⟩
        exact ((okQ.alone hp ha ho hz e4 (.inr (.inr rfl)) gf.1.rds.1).le (by omega)).ans ep rfl
    · have ep := pO_neg (K := kd b N) (M := nu b N) (lw := lw) (n := m) (i := i) h33
      cases hq : pO (kd b N) (nu b N) lw m (i + 1) with
      | inl e =>
        obtain ⟨hv, he⟩ := h.E hq
        exact ⟨fun _ => (he.pre ha.1).ans (by rw [ep, pB_er hq]) rfl, fun q => absurd hv q⟩
      | inr q =>
        obtain ⟨f, j⟩ := q
        obtain ⟨hv, ho⟩ := h.O hq
        have gf := pO_g (lw := lw) hM m _ _ _ hq
        rw [pB_ok hq] at ep
        refine ⟨fun q => absurd q (by omega), fun _ => ⟨b, N, p, j, ⟨ho.rd hr', okQ.full ha ho hz⟩, fun u4 ρ4 _ _ ⟨h4, e4⟩ => ⟨fun q => absurd q (by omega), fun _ => ?_⟩⟩⟩
        exact ((okQ.alone hp ha ho hz e4 (.inl rfl) gf.1.neg.1).le (by omega)).ans ep rfl
    · have ep := pO_par (K := kd b N) (M := nu b N) (lw := lw) (n := m) (i := i) h36
      cases hq : pS (kd b N) (nu b N) lw m (i + 1) with
      | inl e =>
        obtain ⟨hv, he⟩ := h.E hq
        exact ⟨fun _ => (he.pre ha.1).ans (by rw [ep, pB_er hq]) rfl, fun q => absurd hv q⟩
      | inr q =>
        obtain ⟨f, j⟩ := q
        obtain ⟨hv, ho⟩ := h.O hq
        have hrj := ho.rd hr'
        rw [pB_ok hq] at ep
        refine ⟨fun q => absurd q (by omega), fun _ => ⟨b, N, p, j, hrj, fun u2 ρ2 _ _ h2 => ?_⟩⟩
        rcases h2 with ⟨k37, hu, e2⟩ | ⟨k37, hu, e2⟩
        · rw [if_pos k37] at ep
          have ha2 : adv p j ρ ρ2 := adv.mk hp ho.1.2.2.2 e2
          exact ⟨fun q => absurd q (by omega), fun _ => (((okQ.pre ha ho).post ha2 (hlt j (by omega))).le (by omega)).ans ep rfl⟩
        · rw [if_neg k37] at ep
          exact ⟨fun _ => ((erR.fail hrj e2).pre (ha.1.tr ho.1)).ans ep rfl, fun q => absurd hu q⟩
    · have ep := pO_if (K := kd b N) (M := nu b N) (lw := lw) (n := m) (i := i) (by omega)
      cases hq : pC (kd b N) (nu b N) lw m (i + 1) with
      | inl e =>
        obtain ⟨hv, he⟩ := h.E hq
        exact ⟨.inl hv, (he.pre ha.1).ans (by rw [ep, hq]) hv⟩
      | inr q =>
        obtain ⟨f, j⟩ := q
        obtain ⟨hv, ho⟩ := h.O hq
        exact ⟨.inr hv, ((okQ.pre ha ho).le (by omega)).ans (by rw [ep, hq]) hv⟩
  · have hn0 : n = 0 := by omega
    subst hn0
    exact ⟨b, N, p, i, hr, fun u ρ _ _ ⟨e1, e2⟩ => ⟨.inl e1, (erR.fail hr e2).ans (pO_deep hop) e1⟩⟩
  · exact ⟨b, N, p, i, hr, fun u ρ _ _ ⟨e1, e2⟩ => ⟨.inl e1, (erR.fail hr e2).ans (pO_cant h41 hnm hop) e1⟩⟩
  · have hi : i < 300 := hlt i (by omega)
    have ep := pO_name (K := kd b N) (M := nu b N) (lw := lw) (n := n) (i := i) hnm
    refine ⟨b, N, p, i, ⟨hr, by omega, hi⟩, fun u ρ _ _ h => ?_⟩
    rw [hlw] at h
    rcases h with ⟨hy, hu, e⟩ | ⟨hy, hu, e⟩
    · refine ⟨.inr hu, ?_⟩
      rw [if_pos hy] at ep
      obtain ⟨τ, eτ⟩ : ∃ τ : Mem, τ = mset σ 35 2 ((i : Int) + 1) := ⟨_, rfl⟩
      rw [← eτ] at e
      have ha : adv p i σ τ := adv.mk hp hr.2.2.2.2 eτ
      have hc := emS_c (σ := τ) (p := p) (c := kd b N i) (o := 0)
      rw [← e, ha.2.2.1] at hc
      have hk : kpC p (σ p 2) τ ρ := by rw [e, ← ha.2.2.1]; exact kpC.em hp
      refine ansR.mkO ep (ha.1.tr (frR.em hp ⟨ha.1.2.2.2.1, by rw [ha.2.2.1]; omega⟩ e)) hu (by rw [e, emS35 hp]; exact ha.2.1) (by rw [hc.2.2]; omega) (by omega) ((ha.2.2.2.1 _).tr hk (Int.le_refl _)) (n := 1) (by omega) ?_
      rw [hc.2.2]
      have := Fg.name (cd := ρ (p + 1)) (op := ρ (p + 2)) (a := σ p 2) (by rw [hc.1]; exact hnm)
      rw [hc.1] at this
      exact this
    · rw [if_neg hy] at ep
      exact ⟨.inl hu, (erR.fail hr e).ans ep hu⟩
  · have hi : i < 300 := hlt i (by omega)
    have ep := pO_num (K := kd b N) (M := nu b N) (lw := lw) (n := n) (i := i) h41
    refine ⟨b, N, p, i, ⟨hr, h41, by omega⟩, fun u ρ _ _ h => ?_⟩
    rcases h with ⟨hy, hu, e⟩ | ⟨hy, hu, e⟩
    · rw [if_pos hy] at ep
      exact ⟨.inl hu, (erR.fail hr e).ans ep hu⟩
    · refine ⟨.inr hu, ?_⟩
      rw [if_neg (by omega)] at ep
      obtain ⟨τ, eτ⟩ : ∃ τ : Mem, τ = emS σ p 41 (nu b N i) := ⟨_, rfl⟩
      rw [← eτ] at e
      have hf := frR.em hp ⟨hr.2.2.2.2.1, by omega⟩ eτ
      have ha : adv p i τ ρ := adv.mk hp hf.2.2.2 e
      have hc := emS_c (σ := σ) (p := p) (c := 41) (o := nu b N i)
      rw [← eτ] at hc
      have hk : kpC p (σ p 2) σ τ := by rw [eτ]; exact kpC.em hp
      refine ansR.mkO ep (hf.tr ha.1) hu ha.2.1 (by rw [ha.2.2.1, hc.2.2]; omega) (by omega) (hk.tr (ha.2.2.2.1 (σ p 2)) (Int.le_refl _)) (n := 1) (by omega) ?_
      rw [ha.2.2.1, ha.2.2.2.2.1, ha.2.2.2.2.2, hc.2.2]
      have h0 := hM i h41
      have := Fg.num (cd := τ (p + 1)) (op := τ (p + 2)) (a := σ p 2) hc.1 (by rw [hc.2.1]; unfold Mil; omega)
      rw [hc.2.1] at this
      exact this)
