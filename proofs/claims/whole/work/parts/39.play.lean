def wp_X9_kindOf (t : Nat) (x1 : Int) (σ : Mem) (Q : Int → Mem → Prop) : Prop :=
  R32 ((σ t 9) - 1) ∧
   ((¬ ((0 : Int) ≤ x1 ∧ x1 ≤ ((σ t 9) - 1))) →
    Q (-1) σ) ∧
   (((0 : Int) ≤ x1 ∧ x1 ≤ ((σ t 9) - 1)) →
    (0 ≤ x1 ∧ x1 < 24) ∧
    Q (σ (t + 3) x1) σ)
theorem mt_X9_kindOf {d : Nat} (hd : 1 ≤ d) {t : Nat} {x1 : Int} {σ : Mem} {Q : Int → Mem → Prop} (ht : isText t) (hx1 : R32 x1) (hO : OKm σ) (h : wp_X9_kindOf t x1 σ Q) : Mt yX9_kindOf cX9_kindOf 2 (some .int) d [aR (t), aI (x1)] σ (QI Q) := by
  refine Mt.intro (by decide +kernel) (Nat.le_of_ble_eq_true rfl) [(0, aR (t)), (1, aI (x1))] rfl ?_
  unfold wp_X9_kindOf at h
  refine G_iload_n 1 rfl rfl dX9_kindOf_0 ?_
  refine G_iconst dX9_kindOf_1 ?_
  refine G_aload_n 0 rfl rfl dX9_kindOf_2 ?_
  refine G_get (k := 9) (kd := (0, 0)) (v := aI (σ t 9)) gf_X9_40 rfl (shT ht) rfl rfl dX9_kindOf_3 ?_
  refine G_iconst dX9_kindOf_6 ?_
  refine G_isub dX9_kindOf_7 ?_
  obtain ⟨c1, h⟩ := h
  refine G_callN (as := [_, _, _]) cf_X9_43 rfl (sp_X11_within (d - 1) (by omega) _ hO _ hx1 _ (rL 0 rfl) _ c1) (by omega) rfl rfl (Nat.le_of_ble_eq_true rfl) dX9_kindOf_8 ?_
  rintro _ _ ⟨_, rfl, rfl, rfl⟩ o3 r2
  refine G_if_eq (bI_R _) dX9_kindOf_11 (tgt := 23) (by decide) (fun c4 => ?_) (fun c4 => ?_)
  · have h := h.1 ((bI_0 _).mp c4)
    refine G_iconst dX9_kindOf_23 ?_
    exact G_iret rfl (rL (-1) rfl) dX9_kindOf_24 ⟨_, rfl, h⟩ hO
  · have h := h.2 (bI_ne c4)
    refine G_aload_n 0 rfl rfl dX9_kindOf_14 ?_
    refine G_get (k := 7) (kd := (3, 3)) (v := aR ((t + 3))) gf_X9_34 rfl (shT ht) rfl rfl dX9_kindOf_15 ?_
    refine G_iload_n 1 rfl rfl dX9_kindOf_18 ?_
    obtain ⟨c5, h⟩ := h
    refine G_iald (n := 24) (shT3 ht) c5.1 c5.2 dX9_kindOf_19 ?_
    refine G_goto (tgt := 24) dX9_kindOf_20 (by decide) ?_
    exact G_iret rfl (OKm.i hO (t + 3) x1 (isLg_row (shT3 ht) _)) dX9_kindOf_24 ⟨_, rfl, h⟩ hO

theorem sp_X9_kindOf (d : Nat) (hd : 1 ≤ d) (σ : Mem) (hO : OKm σ) (t : Nat) (ht : isText t) (x1 : Int) (hx1 : R32 x1) (hpre : 0 ≤ σ t 9 ∧ σ t 9 ≤ 24) : Mt yX9_kindOf cX9_kindOf 2 (some .int) d [aR (t), aI (x1)] σ (QI (fun v σ' => (if 0 ≤ x1 ∧ x1 ≤ σ t 9 - 1 then σ (t + 3) x1 else -1) = v ∧ σ = σ')) := mt_X9_kindOf hd ht hx1 hO (by
  unfold wp_X9_kindOf
  have := hO.i t 9 (lgT ht 9)
  unfold R32 at *
  grind)

def wp_X9_numberOf (t : Nat) (x1 : Int) (x2 : Int) (σ : Mem) (Q : Int → Mem → Prop) : Prop :=
  R32 ((σ t 9) - 1) ∧
   ((¬ ((0 : Int) ≤ x1 ∧ x1 ≤ ((σ t 9) - 1))) →
    Q (-1) σ) ∧
   (((0 : Int) ≤ x1 ∧ x1 ≤ ((σ t 9) - 1)) →
    ((¬ ((0 : Int) ≤ x2 ∧ x2 ≤ (3 : Int))) →
     Q (-1) σ) ∧
    (((0 : Int) ≤ x2 ∧ x2 ≤ (3 : Int)) →
     (0 ≤ ((x1 * 4) + x2) ∧ ((x1 * 4) + x2) < 96) ∧
     Q (σ (t + 4) ((x1 * 4) + x2)) σ))
theorem mt_X9_numberOf {d : Nat} (hd : 1 ≤ d) {t : Nat} {x1 : Int} {x2 : Int} {σ : Mem} {Q : Int → Mem → Prop} (ht : isText t) (hx1 : R32 x1) (hx2 : R32 x2) (hO : OKm σ) (h : wp_X9_numberOf t x1 x2 σ Q) : Mt yX9_numberOf cX9_numberOf 4 (some .int) d [aR (t), aI (x1), aI (x2)] σ (QI Q) := by
  refine Mt.intro (by decide +kernel) (Nat.le_of_ble_eq_true rfl) [(0, aR (t)), (1, aI (x1)), (2, aI (x2))] rfl ?_
  unfold wp_X9_numberOf at h
  refine G_iload_n 1 rfl rfl dX9_numberOf_0 ?_
  refine G_iconst dX9_numberOf_1 ?_
  refine G_aload_n 0 rfl rfl dX9_numberOf_2 ?_
  refine G_get (k := 9) (kd := (0, 0)) (v := aI (σ t 9)) gf_X9_40 rfl (shT ht) rfl rfl dX9_numberOf_3 ?_
  refine G_iconst dX9_numberOf_6 ?_
  refine G_isub dX9_numberOf_7 ?_
  obtain ⟨c1, h⟩ := h
  refine G_callN (as := [_, _, _]) cf_X9_43 rfl (sp_X11_within (d - 1) (by omega) _ hO _ hx1 _ (rL 0 rfl) _ c1) (by omega) rfl rfl (Nat.le_of_ble_eq_true rfl) dX9_numberOf_8 ?_
  rintro _ _ ⟨_, rfl, rfl, rfl⟩ o3 r2
  refine G_if_eq (bI_R _) dX9_numberOf_11 (tgt := 27) (by decide) (fun c4 => ?_) (fun c4 => ?_)
  · have h := h.1 ((bI_0 _).mp c4)
    refine G_iconst dX9_numberOf_27 ?_
    refine G_istore_n (lv' := [(3, aI (0)), (0, aR (t)), (1, aI (x1)), (2, aI (x2))]) rfl rfl (by decide) dX9_numberOf_28 ?_
    refine G_iload_n 0 rfl rfl dX9_numberOf_29 ?_
    refine G_if_eq (rL 0 rfl) dX9_numberOf_30 (tgt := 46) (by decide) (fun _ => ?_) (fun c5 => absurd c5 (by decide))
    refine G_iconst dX9_numberOf_46 ?_
    exact G_iret rfl (rL (-1) rfl) dX9_numberOf_47 ⟨_, rfl, h⟩ hO
  · have h := h.2 (bI_ne c4)
    refine G_iload_n 2 rfl rfl dX9_numberOf_14 ?_
    refine G_iconst dX9_numberOf_15 ?_
    refine G_iconst dX9_numberOf_16 ?_
    refine G_callN (as := [_, _, _]) cf_X9_43 rfl (sp_X11_within (d - 1) (by omega) _ hO _ hx2 _ (rL 0 rfl) _ (rL 3 rfl)) (by omega) rfl rfl (Nat.le_of_ble_eq_true rfl) dX9_numberOf_17 ?_
    rintro _ _ ⟨_, rfl, rfl, rfl⟩ o7 r6
    refine G_if_eq (bI_R _) dX9_numberOf_20 (tgt := 27) (by decide) (fun c8 => ?_) (fun c8 => ?_)
    · have h := h.1 ((bI_0 _).mp c8)
      refine G_iconst dX9_numberOf_27 ?_
      refine G_istore_n (lv' := [(3, aI (0)), (0, aR (t)), (1, aI (x1)), (2, aI (x2))]) rfl rfl (by decide) dX9_numberOf_28 ?_
      refine G_iload_n 0 rfl rfl dX9_numberOf_29 ?_
      refine G_if_eq (rL 0 rfl) dX9_numberOf_30 (tgt := 46) (by decide) (fun _ => ?_) (fun c9 => absurd c9 (by decide))
      refine G_iconst dX9_numberOf_46 ?_
      exact G_iret rfl (rL (-1) rfl) dX9_numberOf_47 ⟨_, rfl, h⟩ hO
    · have h := h.2 (bI_ne c8)
      refine G_iconst dX9_numberOf_23 ?_
      refine G_goto (tgt := 28) dX9_numberOf_24 (by decide) ?_
      refine G_istore_n (lv' := [(3, aI (1)), (0, aR (t)), (1, aI (x1)), (2, aI (x2))]) rfl rfl (by decide) dX9_numberOf_28 ?_
      refine G_iload_n 0 rfl rfl dX9_numberOf_29 ?_
      refine G_if_eq (rL 1 rfl) dX9_numberOf_30 (tgt := 46) (by decide) (fun c10 => absurd c10 (by decide)) (fun _ => ?_)
      refine G_aload_n 1 rfl rfl dX9_numberOf_33 ?_
      refine G_get (k := 8) (kd := (3, 4)) (v := aR ((t + 4))) gf_X9_37 rfl (shT ht) rfl rfl dX9_numberOf_34 ?_
      refine G_iload_n 2 rfl rfl dX9_numberOf_37 ?_
      refine G_iconst dX9_numberOf_38 ?_
      refine G_imul dX9_numberOf_39 ?_
      refine G_iload_n 3 rfl rfl dX9_numberOf_40 ?_
      refine G_iadd dX9_numberOf_41 ?_
      obtain ⟨c11, h⟩ := h
      refine G_iald (n := 96) (shT4 ht) c11.1 c11.2 dX9_numberOf_42 ?_
      refine G_goto (tgt := 47) dX9_numberOf_43 (by decide) ?_
      exact G_iret rfl (OKm.i hO (t + 4) ((x1 * 4) + x2) (isLg_row (shT4 ht) _)) dX9_numberOf_47 ⟨_, rfl, h⟩ hO

theorem sp_X9_numberOf (d : Nat) (hd : 1 ≤ d) (σ : Mem) (hO : OKm σ) (t : Nat) (ht : isText t) (x1 : Int) (hx1 : R32 x1) (x2 : Int) (hx2 : R32 x2) (hpre : 0 ≤ σ t 9 ∧ σ t 9 ≤ 24) : Mt yX9_numberOf cX9_numberOf 4 (some .int) d [aR (t), aI (x1), aI (x2)] σ (QI (fun v σ' => (if (0 ≤ x1 ∧ x1 ≤ σ t 9 - 1) ∧ (0 ≤ x2 ∧ x2 ≤ 3) then σ (t + 4) (x1 * 4 + x2) else -1) = v ∧ σ = σ')) := mt_X9_numberOf hd ht hx1 hx2 hO (by
  unfold wp_X9_numberOf
  have := hO.i t 9 (lgT ht 9)
  unfold R32 at *
  grind)

def clC (σ : Mem) (t : Nat) (k : Int) (c : Cl) : Prop := (0 ≤ k ∧ k < σ t 9 ∧ σ t 9 ≤ 24) ∧ clOK c ∧ σ (t + 3) k = kcC c.1 ∧ (1 ≤ clN c.1 → σ (t + 4) (4 * k) = c.2.1) ∧ (2 ≤ clN c.1 → σ (t + 4) (4 * k + 1) = c.2.2.1) ∧ (4 ≤ clN c.1 → σ (t + 4) (4 * k + 2) = c.2.2.2.1 ∧ σ (t + 4) (4 * k + 3) = c.2.2.2.2)
abbrev PLC : List Nat := [1, 2, 3, 4, 5, 6, 10, 11, 12, 13, 14, 15, 16, 37]

def wp_X0_plays (t : Nat) (x2 : Int) (σ : Mem) (Q : Int → Mem → Prop) : Prop :=
 ∀ P194 : Int → Int → Int → Mem → Prop,
 (∀ (v3 : Int) (v5 : Int) (v6 : Int) (σ : Mem), (R32 v3 → R32 v5 → R32 v6 → OKm σ →
   ((v5 ≤ v6) →
     ((v5 ≠ v3) →
      Q 0 σ) ∧
     ((v5 = v3) →
      Q 1 σ)) ∧
    ((v6 < v5) →
     ∃ g112 : Mem, ∃ g113 : List Mem, (nowC σ g112 ∧ σ 1 8 = g112 10 0 ∧ σ 1 9 = g112 10 1 ∧ Cnt g112 ∧ stepsC σ 15 g113) ∧
     ∀ σ117 : Mem, OKm σ117 → (stepsC σ117 15 (pushS g112 g113) ∧ Fr [15, 16] σ σ117) →
     ∃ g120 : Mem, ∃ g121 : Nat → Txt, (vwC σ117 g120 g121 ∧ g120 0 2 < 9999) ∧
     ∀ (u126 : Int) (σ125 : Mem), R32 u126 → OKm σ125 → (u126 = (passS g120 g121).2 ∧ vwC σ125 (passS g120 g121).1 g121 ∧ Fr PDC σ117 σ125) →
     R32 (v6 + 1) ∧ P194 v3 v5 (v6 + 1) σ125)) → P194 v3 v5 v6 σ) →
  (0 ≤ σ t 9 ∧ σ t 9 ≤ 24) ∧
   ∀ y4 : Int, y4 = (if (0 ≤ x2 ∧ x2 ≤ σ t 9 - 1) ∧ (0 ≤ (0 : Int) ∧ (0 : Int) ≤ 3) then σ (t + 4) (x2 * 4 + (0 : Int)) else -1) →
   (0 ≤ σ t 9 ∧ σ t 9 ≤ 24) ∧
   ∀ y8 : Int, y8 = (if (0 ≤ x2 ∧ x2 ≤ σ t 9 - 1) ∧ (0 ≤ (1 : Int) ∧ (1 : Int) ≤ 3) then σ (t + 4) (x2 * 4 + (1 : Int)) else -1) →
   (0 ≤ σ t 9 ∧ σ t 9 ≤ 24) ∧
   ((if 0 ≤ x2 ∧ x2 ≤ σ t 9 - 1 then σ (t + 3) x2 else -1) = 0 →
    R32 (9999 - (σ 10 7)) ∧
    ∀ y14 : Int, y14 = (min y4 (9999 - (σ 10 7))) →
    P194 y4 y14 0 σ) ∧
   ((if 0 ≤ x2 ∧ x2 ≤ σ t 9 - 1 then σ (t + 3) x2 else -1) ≠ 0 →
    ((if 0 ≤ x2 ∧ x2 ≤ σ t 9 - 1 then σ (t + 3) x2 else -1) = 11 →
     (0 ≤ σ t 9 ∧ σ t 9 ≤ 24) ∧
     (0 ≤ σ t 9 ∧ σ t 9 ≤ 24) ∧
     ∃ g22 : Mem, ∃ g23 : Nat → Txt, (vwC σ g22 g23 ∧ (0 ≤ y4 ∧ y4 ≤ 7 ∧ 0 ≤ y8 ∧ y8 ≤ 7) ∧ (1 ≤ (if (0 ≤ x2 ∧ x2 ≤ σ t 9 - 1) ∧ (0 ≤ (2 : Int) ∧ (2 : Int) ≤ 3) then σ (t + 4) (x2 * 4 + (2 : Int)) else -1) ∧ (if (0 ≤ x2 ∧ x2 ≤ σ t 9 - 1) ∧ (0 ≤ (2 : Int) ∧ (2 : Int) ≤ 3) then σ (t + 4) (x2 * 4 + (2 : Int)) else -1) ≤ 9) ∧ (1 ≤ (if (0 ≤ x2 ∧ x2 ≤ σ t 9 - 1) ∧ (0 ≤ (3 : Int) ∧ (3 : Int) ≤ 3) then σ (t + 4) (x2 * 4 + (3 : Int)) else -1) ∧ (if (0 ≤ x2 ∧ x2 ≤ σ t 9 - 1) ∧ (0 ≤ (3 : Int) ∧ (3 : Int) ≤ 3) then σ (t + 4) (x2 * 4 + (3 : Int)) else -1) ≤ 99)) ∧
     ∀ (u28 : Int) (σ27 : Mem), R32 u28 → OKm σ27 → ((g22 10 0 < 16 ∧ y4 ≠ y8 → u28 = g22 10 0 ∧ vwC σ27 (roadS g22 y4 y8 (if (0 ≤ x2 ∧ x2 ≤ σ t 9 - 1) ∧ (0 ≤ (2 : Int) ∧ (2 : Int) ≤ 3) then σ (t + 4) (x2 * 4 + (2 : Int)) else -1) (if (0 ≤ x2 ∧ x2 ≤ σ t 9 - 1) ∧ (0 ≤ (3 : Int) ∧ (3 : Int) ≤ 3) then σ (t + 4) (x2 * 4 + (3 : Int)) else -1)) g23) ∧ (¬ (g22 10 0 < 16 ∧ y4 ≠ y8) → u28 = -1 ∧ vwC σ27 g22 g23) ∧ Fr [1, 2, 3, 4, 5, 11] σ σ27) →
     ((u28 = (-1)) →
      Q 0 σ27) ∧
     ((u28 ≠ (-1)) →
      Q 1 σ27)) ∧
    ((if 0 ≤ x2 ∧ x2 ≤ σ t 9 - 1 then σ (t + 3) x2 else -1) ≠ 11 →
     ((if 0 ≤ x2 ∧ x2 ≤ σ t 9 - 1 then σ (t + 3) x2 else -1) = 13 →
      ∃ g32 : Mem, ∃ g33 : Nat → Txt, (vwC σ g32 g33 ∧ (0 ≤ y4 ∧ y4 ≤ 7) ∧ (1 ≤ y8 ∧ y8 ≤ 9)) ∧
      ∀ (u38 : Int) (σ37 : Mem), R32 u38 → OKm σ37 → ((g32 10 1 < 6 → u38 = g32 10 1 ∧ vwC σ37 (goerS g32 y4 y8) g33) ∧ (¬ (g32 10 1 < 6) → u38 = -1 ∧ vwC σ37 g32 g33) ∧ Fr [1, 6, 12, 13] σ σ37) →
      ((u38 = (-1)) →
       Q 0 σ37) ∧
      ((u38 ≠ (-1)) →
       Q 1 σ37)) ∧
     ((if 0 ≤ x2 ∧ x2 ≤ σ t 9 - 1 then σ (t + 3) x2 else -1) ≠ 13 →
      ((if 0 ≤ x2 ∧ x2 ≤ σ t 9 - 1 then σ (t + 3) x2 else -1) = 14 →
       ∃ g42 : Mem, ∃ g43 : List Mem, ∃ g44 : Nat → Txt, (vsC σ g42 g43 g44) ∧
       ∀ (u49 : Int) (σ48 : Mem), R32 u49 → OKm σ48 → ((canGoV g42 g44 y8 y4 = true → u49 = 1 ∧ vsC σ48 (goneS g42 g44 y8 y4) (pushS g42 g43) g44) ∧ (canGoV g42 g44 y8 y4 = false → u49 = 0 ∧ vsC σ48 g42 g43 g44) ∧ Fr DDC σ σ48) →
       (u49 = 0 ∨ u49 = 1) ∧
       Q u49 σ48) ∧
      ((if 0 ≤ x2 ∧ x2 ≤ σ t 9 - 1 then σ (t + 3) x2 else -1) ≠ 14 →
       ((if 0 ≤ x2 ∧ x2 ≤ σ t 9 - 1 then σ (t + 3) x2 else -1) = 16 →
        ∃ g53 : Mem, ∃ g54 : List Mem, ∃ g55 : Nat → Txt, (vsC σ g53 g54 g55) ∧
        ∀ (u60 : Int) (σ59 : Mem), R32 u60 → OKm σ59 → ((canLayS g53 y4 = true → u60 = 1 ∧ vsC σ59 (layS g53 y4) (pushS g53 g54) g55) ∧ (canLayS g53 y4 = false → u60 = 0 ∧ vsC σ59 g53 g54 g55) ∧ Fr DDC σ σ59) →
        (u60 = 0 ∨ u60 = 1) ∧
        Q u60 σ59) ∧
       ((if 0 ≤ x2 ∧ x2 ≤ σ t 9 - 1 then σ (t + 3) x2 else -1) ≠ 16 →
        ((if 0 ≤ x2 ∧ x2 ≤ σ t 9 - 1 then σ (t + 3) x2 else -1) = 17 →
         ∃ g64 : Mem, ∃ g65 : List Mem, ∃ g66 : Nat → Txt, (vsC σ g64 g65 g66 ∧ (1 ≤ y4 ∧ y4 ≤ 99)) ∧
         ∀ (u71 : Int) (σ70 : Mem), R32 u71 → OKm σ70 → ((g64 0 0 + y4 ≤ 999 → u71 = 1 ∧ vsC σ70 (coilS g64 y4) (pushS g64 g65) g66) ∧ (¬ (g64 0 0 + y4 ≤ 999) → u71 = 0 ∧ vsC σ70 g64 g65 g66) ∧ Fr DDC σ σ70) →
         (u71 = 0 ∨ u71 = 1) ∧
         Q u71 σ70) ∧
        ((if 0 ≤ x2 ∧ x2 ≤ σ t 9 - 1 then σ (t + 3) x2 else -1) ≠ 17 →
         Q 1 σ))))))
theorem mt_X0_plays {d : Nat} (hd : 6 ≤ d) {t : Nat} {x2 : Int} {σ : Mem} {Q : Int → Mem → Prop} (ht : isText t) (hx2 : R32 x2) (hO : OKm σ) (h : wp_X0_plays t x2 σ Q) : Mt yX0_plays cX0_plays 7 (some .boolean) d [aR (38), aR (t), aI (x2)] σ (QI Q) := by
  refine Mt.intro (by decide +kernel) (Nat.le_of_ble_eq_true rfl) [(0, aR (38)), (1, aR (t)), (2, aI (x2))] rfl ?_
  unfold wp_X0_plays at h
  have h := h (fun (v3 : Int) (v5 : Int) (v6 : Int) (σ : Mem) => R32 v3 → R32 v5 → R32 v6 → OKm σ → G yX0_plays cX0_plays 7 (some .boolean) d (QI Q) 194 [(0, aR (38)), (3, aI (v3)), (5, aI (v5)), (6, aI (v6))] [] σ) ?_
  · refine G_aload_n 1 rfl rfl dX0_plays_0 ?_
    refine G_iload_n 2 rfl rfl dX0_plays_1 ?_
    refine G_iconst dX0_plays_2 ?_
    obtain ⟨c1, h⟩ := h
    refine G_callV (as := [_, _]) cf_X0_152 rfl (shT ht) rfl (sp_X9_numberOf (d - 1) (by omega) _ hO _ ht _ hx2 _ (rL 0 rfl) c1) (by omega) rfl rfl (Nat.le_of_ble_eq_true rfl) dX0_plays_3 ?_
    rintro _ _ ⟨_, rfl, rfl, rfl⟩ o3 r2
    have h := h _ rfl
    refine G_istore_n (lv' := [(3, aI (((if (0 ≤ x2 ∧ x2 ≤ σ t 9 - 1) ∧ (0 ≤ (0 : Int) ∧ (0 : Int) ≤ 3) then σ (t + 4) (x2 * 4 + (0 : Int)) else -1)))), (0, aR (38)), (1, aR (t)), (2, aI (x2))]) rfl rfl (by decide) dX0_plays_6 ?_
    refine G_aload_n 2 rfl rfl dX0_plays_7 ?_
    refine G_iload_n 3 rfl rfl dX0_plays_8 ?_
    refine G_iconst dX0_plays_9 ?_
    obtain ⟨c5, h⟩ := h
    refine G_callV (as := [_, _]) cf_X0_152 rfl (shT ht) rfl (sp_X9_numberOf (d - 1) (by omega) _ hO _ ht _ hx2 _ (rL 1 rfl) c5) (by omega) rfl rfl (Nat.le_of_ble_eq_true rfl) dX0_plays_10 ?_
    rintro _ _ ⟨_, rfl, rfl, rfl⟩ o7 r6
    have h := h _ rfl
    refine G_istore (lv' := [(4, aI (((if (0 ≤ x2 ∧ x2 ≤ σ t 9 - 1) ∧ (0 ≤ (1 : Int) ∧ (1 : Int) ≤ 3) then σ (t + 4) (x2 * 4 + (1 : Int)) else -1)))), (3, aI (((if (0 ≤ x2 ∧ x2 ≤ σ t 9 - 1) ∧ (0 ≤ (0 : Int) ∧ (0 : Int) ≤ 3) then σ (t + 4) (x2 * 4 + (0 : Int)) else -1)))), (0, aR (38)), (1, aR (t)), (2, aI (x2))]) rfl (by decide) dX0_plays_13 ?_
    refine G_aload_n 3 rfl rfl dX0_plays_15 ?_
    refine G_iload_n 4 rfl rfl dX0_plays_16 ?_
    obtain ⟨c9, h⟩ := h
    refine G_callV (as := [_]) cf_X0_157 rfl (shT ht) rfl (sp_X9_kindOf (d - 1) (by omega) _ hO _ ht _ hx2 c9) (by omega) rfl rfl (Nat.le_of_ble_eq_true rfl) dX0_plays_17 ?_
    rintro _ _ ⟨_, rfl, rfl, rfl⟩ o11 r10
    refine G_tsw (tgt := 174) 0 0 (by decide) (rL _ rfl) (by decide) rfl (by decide) (r10 _ rfl) dX0_plays_20 (fun n74 => ?_) (fun n74 => ?_)
    · have h := h.1 n74
      refine G_iload_n 1 rfl rfl dX0_plays_174 ?_
      refine G_sipush (by decide) dX0_plays_175 ?_
      refine G_aload_n 2 rfl rfl dX0_plays_178 ?_
      refine G_get (k := 1) (kd := (2, 10)) (v := aR 10) gf_X0_21 rfl rfl rfl rfl dX0_plays_179 ?_
      refine G_get (k := 7) (kd := (0, 0)) (v := aI (σ 10 7)) gf_X0_139 rfl rfl rfl rfl dX0_plays_182 ?_
      refine G_isub dX0_plays_185 ?_
      obtain ⟨c13, h⟩ := h
      refine G_mmin rfl (r2 _ rfl) c13 (Nat.le_of_ble_eq_true rfl) sf_X0_134 dX0_plays_186 ?_
      have h := h _ rfl
      refine G_istore (lv' := [(5, aI (((min ((if (0 ≤ x2 ∧ x2 ≤ σ t 9 - 1) ∧ (0 ≤ (0 : Int) ∧ (0 : Int) ≤ 3) then σ (t + 4) (x2 * 4 + (0 : Int)) else -1)) (9999 - (σ 10 7)))))), (4, aI (((if (0 ≤ x2 ∧ x2 ≤ σ t 9 - 1) ∧ (0 ≤ (1 : Int) ∧ (1 : Int) ≤ 3) then σ (t + 4) (x2 * 4 + (1 : Int)) else -1)))), (3, aI (((if (0 ≤ x2 ∧ x2 ≤ σ t 9 - 1) ∧ (0 ≤ (0 : Int) ∧ (0 : Int) ≤ 3) then σ (t + 4) (x2 * 4 + (0 : Int)) else -1)))), (0, aR (38)), (1, aR (t)), (2, aI (x2))]) rfl (by decide) dX0_plays_189 ?_
      refine G_iconst dX0_plays_191 ?_
      refine G_istore (lv' := [(6, aI (0)), (5, aI (((min ((if (0 ≤ x2 ∧ x2 ≤ σ t 9 - 1) ∧ (0 ≤ (0 : Int) ∧ (0 : Int) ≤ 3) then σ (t + 4) (x2 * 4 + (0 : Int)) else -1)) (9999 - (σ 10 7)))))), (4, aI (((if (0 ≤ x2 ∧ x2 ≤ σ t 9 - 1) ∧ (0 ≤ (1 : Int) ∧ (1 : Int) ≤ 3) then σ (t + 4) (x2 * 4 + (1 : Int)) else -1)))), (3, aI (((if (0 ≤ x2 ∧ x2 ≤ σ t 9 - 1) ∧ (0 ≤ (0 : Int) ∧ (0 : Int) ≤ 3) then σ (t + 4) (x2 * 4 + (0 : Int)) else -1)))), (0, aR (38)), (1, aR (t)), (2, aI (x2))]) rfl (by decide) dX0_plays_192 ?_
      exact G_pick [4, 3, 1, 0] rfl (h (r2 _ rfl) (r32_min (r2 _ rfl) c13) (rL 0 rfl) hO)
    · have h := h.2 n74
      have n75 : (1 : Int) ≤ (if 0 ≤ x2 ∧ x2 ≤ σ t 9 - 1 then σ (t + 3) x2 else -1) ∨ (if 0 ≤ x2 ∧ x2 ≤ σ t 9 - 1 then σ (t + 3) x2 else -1) < 0 := tsw_next (by decide) (tsw_0 _ _) n74
      refine G_tsw (tgt := 239) 1 1 (by decide) (rL _ rfl) (by decide) rfl (by decide) (r10 _ rfl) dX0_plays_20 (fun n76 => ?_) (fun n76 => ?_)
      · have h := (((((h).2 (tsw_ne n76 (by decide))).2 (tsw_ne n76 (by decide))).2 (tsw_ne n76 (by decide))).2 (tsw_ne n76 (by decide))).2 (tsw_ne n76 (by decide))
        refine G_iconst dX0_plays_239 ?_
        exact G_zret rfl (by decide) dX0_plays_240 ⟨_, rfl, h⟩ hO
      · have n77 : (2 : Int) ≤ (if 0 ≤ x2 ∧ x2 ≤ σ t 9 - 1 then σ (t + 3) x2 else -1) ∨ (if 0 ≤ x2 ∧ x2 ≤ σ t 9 - 1 then σ (t + 3) x2 else -1) < 0 := tsw_next (by decide) n75 n76
        refine G_tsw (tgt := 239) 2 2 (by decide) (rL _ rfl) (by decide) rfl (by decide) (r10 _ rfl) dX0_plays_20 (fun n78 => ?_) (fun n78 => ?_)
        · have h := (((((h).2 (tsw_ne n78 (by decide))).2 (tsw_ne n78 (by decide))).2 (tsw_ne n78 (by decide))).2 (tsw_ne n78 (by decide))).2 (tsw_ne n78 (by decide))
          refine G_iconst dX0_plays_239 ?_
          exact G_zret rfl (by decide) dX0_plays_240 ⟨_, rfl, h⟩ hO
        · have n79 : (3 : Int) ≤ (if 0 ≤ x2 ∧ x2 ≤ σ t 9 - 1 then σ (t + 3) x2 else -1) ∨ (if 0 ≤ x2 ∧ x2 ≤ σ t 9 - 1 then σ (t + 3) x2 else -1) < 0 := tsw_next (by decide) n77 n78
          refine G_tsw (tgt := 239) 3 3 (by decide) (rL _ rfl) (by decide) rfl (by decide) (r10 _ rfl) dX0_plays_20 (fun n80 => ?_) (fun n80 => ?_)
          · have h := (((((h).2 (tsw_ne n80 (by decide))).2 (tsw_ne n80 (by decide))).2 (tsw_ne n80 (by decide))).2 (tsw_ne n80 (by decide))).2 (tsw_ne n80 (by decide))
            refine G_iconst dX0_plays_239 ?_
            exact G_zret rfl (by decide) dX0_plays_240 ⟨_, rfl, h⟩ hO
          · have n81 : (4 : Int) ≤ (if 0 ≤ x2 ∧ x2 ≤ σ t 9 - 1 then σ (t + 3) x2 else -1) ∨ (if 0 ≤ x2 ∧ x2 ≤ σ t 9 - 1 then σ (t + 3) x2 else -1) < 0 := tsw_next (by decide) n79 n80
            refine G_tsw (tgt := 239) 4 4 (by decide) (rL _ rfl) (by decide) rfl (by decide) (r10 _ rfl) dX0_plays_20 (fun n82 => ?_) (fun n82 => ?_)
            · have h := (((((h).2 (tsw_ne n82 (by decide))).2 (tsw_ne n82 (by decide))).2 (tsw_ne n82 (by decide))).2 (tsw_ne n82 (by decide))).2 (tsw_ne n82 (by decide))
              refine G_iconst dX0_plays_239 ?_
              exact G_zret rfl (by decide) dX0_plays_240 ⟨_, rfl, h⟩ hO
            · have n83 : (5 : Int) ≤ (if 0 ≤ x2 ∧ x2 ≤ σ t 9 - 1 then σ (t + 3) x2 else -1) ∨ (if 0 ≤ x2 ∧ x2 ≤ σ t 9 - 1 then σ (t + 3) x2 else -1) < 0 := tsw_next (by decide) n81 n82
              refine G_tsw (tgt := 239) 5 5 (by decide) (rL _ rfl) (by decide) rfl (by decide) (r10 _ rfl) dX0_plays_20 (fun n84 => ?_) (fun n84 => ?_)
              · have h := (((((h).2 (tsw_ne n84 (by decide))).2 (tsw_ne n84 (by decide))).2 (tsw_ne n84 (by decide))).2 (tsw_ne n84 (by decide))).2 (tsw_ne n84 (by decide))
                refine G_iconst dX0_plays_239 ?_
                exact G_zret rfl (by decide) dX0_plays_240 ⟨_, rfl, h⟩ hO
              · have n85 : (6 : Int) ≤ (if 0 ≤ x2 ∧ x2 ≤ σ t 9 - 1 then σ (t + 3) x2 else -1) ∨ (if 0 ≤ x2 ∧ x2 ≤ σ t 9 - 1 then σ (t + 3) x2 else -1) < 0 := tsw_next (by decide) n83 n84
                refine G_tsw (tgt := 239) 6 6 (by decide) (rL _ rfl) (by decide) rfl (by decide) (r10 _ rfl) dX0_plays_20 (fun n86 => ?_) (fun n86 => ?_)
                · have h := (((((h).2 (tsw_ne n86 (by decide))).2 (tsw_ne n86 (by decide))).2 (tsw_ne n86 (by decide))).2 (tsw_ne n86 (by decide))).2 (tsw_ne n86 (by decide))
                  refine G_iconst dX0_plays_239 ?_
                  exact G_zret rfl (by decide) dX0_plays_240 ⟨_, rfl, h⟩ hO
                · have n87 : (7 : Int) ≤ (if 0 ≤ x2 ∧ x2 ≤ σ t 9 - 1 then σ (t + 3) x2 else -1) ∨ (if 0 ≤ x2 ∧ x2 ≤ σ t 9 - 1 then σ (t + 3) x2 else -1) < 0 := tsw_next (by decide) n85 n86
                  refine G_tsw (tgt := 239) 7 7 (by decide) (rL _ rfl) (by decide) rfl (by decide) (r10 _ rfl) dX0_plays_20 (fun n88 => ?_) (fun n88 => ?_)
                  · have h := (((((h).2 (tsw_ne n88 (by decide))).2 (tsw_ne n88 (by decide))).2 (tsw_ne n88 (by decide))).2 (tsw_ne n88 (by decide))).2 (tsw_ne n88 (by decide))
                    refine G_iconst dX0_plays_239 ?_
                    exact G_zret rfl (by decide) dX0_plays_240 ⟨_, rfl, h⟩ hO
                  · have n89 : (8 : Int) ≤ (if 0 ≤ x2 ∧ x2 ≤ σ t 9 - 1 then σ (t + 3) x2 else -1) ∨ (if 0 ≤ x2 ∧ x2 ≤ σ t 9 - 1 then σ (t + 3) x2 else -1) < 0 := tsw_next (by decide) n87 n88
                    refine G_tsw (tgt := 239) 8 8 (by decide) (rL _ rfl) (by decide) rfl (by decide) (r10 _ rfl) dX0_plays_20 (fun n90 => ?_) (fun n90 => ?_)
                    · have h := (((((h).2 (tsw_ne n90 (by decide))).2 (tsw_ne n90 (by decide))).2 (tsw_ne n90 (by decide))).2 (tsw_ne n90 (by decide))).2 (tsw_ne n90 (by decide))
                      refine G_iconst dX0_plays_239 ?_
                      exact G_zret rfl (by decide) dX0_plays_240 ⟨_, rfl, h⟩ hO
                    · have n91 : (9 : Int) ≤ (if 0 ≤ x2 ∧ x2 ≤ σ t 9 - 1 then σ (t + 3) x2 else -1) ∨ (if 0 ≤ x2 ∧ x2 ≤ σ t 9 - 1 then σ (t + 3) x2 else -1) < 0 := tsw_next (by decide) n89 n90
                      refine G_tsw (tgt := 239) 9 9 (by decide) (rL _ rfl) (by decide) rfl (by decide) (r10 _ rfl) dX0_plays_20 (fun n92 => ?_) (fun n92 => ?_)
                      · have h := (((((h).2 (tsw_ne n92 (by decide))).2 (tsw_ne n92 (by decide))).2 (tsw_ne n92 (by decide))).2 (tsw_ne n92 (by decide))).2 (tsw_ne n92 (by decide))
                        refine G_iconst dX0_plays_239 ?_
                        exact G_zret rfl (by decide) dX0_plays_240 ⟨_, rfl, h⟩ hO
                      · have n93 : (10 : Int) ≤ (if 0 ≤ x2 ∧ x2 ≤ σ t 9 - 1 then σ (t + 3) x2 else -1) ∨ (if 0 ≤ x2 ∧ x2 ≤ σ t 9 - 1 then σ (t + 3) x2 else -1) < 0 := tsw_next (by decide) n91 n92
                        refine G_tsw (tgt := 239) 10 10 (by decide) (rL _ rfl) (by decide) rfl (by decide) (r10 _ rfl) dX0_plays_20 (fun n94 => ?_) (fun n94 => ?_)
                        · have h := (((((h).2 (tsw_ne n94 (by decide))).2 (tsw_ne n94 (by decide))).2 (tsw_ne n94 (by decide))).2 (tsw_ne n94 (by decide))).2 (tsw_ne n94 (by decide))
                          refine G_iconst dX0_plays_239 ?_
                          exact G_zret rfl (by decide) dX0_plays_240 ⟨_, rfl, h⟩ hO
                        · have n95 : (11 : Int) ≤ (if 0 ≤ x2 ∧ x2 ≤ σ t 9 - 1 then σ (t + 3) x2 else -1) ∨ (if 0 ≤ x2 ∧ x2 ≤ σ t 9 - 1 then σ (t + 3) x2 else -1) < 0 := tsw_next (by decide) n93 n94
                          refine G_tsw (tgt := 108) 11 11 (by decide) (rL _ rfl) (by decide) rfl (by decide) (r10 _ rfl) dX0_plays_20 (fun n96 => ?_) (fun n96 => ?_)
                          · have h := h.1 n96
                            refine G_aload_n 2 rfl rfl dX0_plays_108 ?_
                            refine G_iload_n 1 rfl rfl dX0_plays_109 ?_
                            refine G_iload 0 rfl dX0_plays_110 ?_
                            refine G_aload_n 3 rfl rfl dX0_plays_112 ?_
                            refine G_iload_n 4 rfl rfl dX0_plays_113 ?_
                            refine G_iconst dX0_plays_114 ?_
                            obtain ⟨c16, h⟩ := h
                            refine G_callV (as := [_, _]) cf_X0_152 rfl (shT ht) rfl (sp_X9_numberOf (d - 1) (by omega) _ hO _ ht _ hx2 _ (rL 2 rfl) c16) (by omega) rfl rfl (Nat.le_of_ble_eq_true rfl) dX0_plays_115 ?_
                            rintro _ _ ⟨_, rfl, rfl, rfl⟩ o18 r17
                            refine G_aload_n 3 rfl rfl dX0_plays_118 ?_
                            refine G_iload_n 4 rfl rfl dX0_plays_119 ?_
                            refine G_iconst dX0_plays_120 ?_
                            obtain ⟨c19, h⟩ := h
                            refine G_callV (as := [_, _]) cf_X0_152 rfl (shT ht) rfl (sp_X9_numberOf (d - 1) (by omega) _ hO _ ht _ hx2 _ (rL 3 rfl) c19) (by omega) rfl rfl (Nat.le_of_ble_eq_true rfl) dX0_plays_121 ?_
                            rintro _ _ ⟨_, rfl, rfl, rfl⟩ o21 r20
                            obtain ⟨g22, g23, c24, h⟩ := h
                            refine G_callV (as := [_, _, _, _]) cf_X0_160 rfl rfl rfl (sp_X0_tellRoad (d - 1) (by omega) _ hO _ (r2 _ rfl) _ (r6 _ rfl) _ (r17 _ rfl) _ (r20 _ rfl) g22 g23 c24) (by omega) rfl rfl (Nat.le_of_ble_eq_true rfl) dX0_plays_124 ?_
                            rintro _ σ27 ⟨u28, rfl, z29⟩ o26 r25
                            have h := h _ _ (r25 _ rfl) o26 z29
                            refine G_iconst dX0_plays_127 ?_
                            refine G_icmp_eq (r25 _ rfl) (rL (-1) rfl) dX0_plays_128 (tgt := 135) (by decide) (fun c30 => ?_) (fun c30 => ?_)
                            · have h := h.1 c30
                              refine G_iconst dX0_plays_135 ?_
                              exact G_zret rfl (by decide) dX0_plays_136 ⟨_, rfl, h⟩ o26
                            · have h := h.2 c30
                              refine G_iconst dX0_plays_131 ?_
                              refine G_goto (tgt := 136) dX0_plays_132 (by decide) ?_
                              exact G_zret rfl (by decide) dX0_plays_136 ⟨_, rfl, h⟩ o26
                          · have h := h.2 n96
                            have n97 : (12 : Int) ≤ (if 0 ≤ x2 ∧ x2 ≤ σ t 9 - 1 then σ (t + 3) x2 else -1) ∨ (if 0 ≤ x2 ∧ x2 ≤ σ t 9 - 1 then σ (t + 3) x2 else -1) < 0 := tsw_next (by decide) n95 n96
                            refine G_tsw (tgt := 239) 12 12 (by decide) (rL _ rfl) (by decide) rfl (by decide) (r10 _ rfl) dX0_plays_20 (fun n98 => ?_) (fun n98 => ?_)
                            · have h := ((((h).2 (tsw_ne n98 (by decide))).2 (tsw_ne n98 (by decide))).2 (tsw_ne n98 (by decide))).2 (tsw_ne n98 (by decide))
                              refine G_iconst dX0_plays_239 ?_
                              exact G_zret rfl (by decide) dX0_plays_240 ⟨_, rfl, h⟩ hO
                            · have n99 : (13 : Int) ≤ (if 0 ≤ x2 ∧ x2 ≤ σ t 9 - 1 then σ (t + 3) x2 else -1) ∨ (if 0 ≤ x2 ∧ x2 ≤ σ t 9 - 1 then σ (t + 3) x2 else -1) < 0 := tsw_next (by decide) n97 n98
                              refine G_tsw (tgt := 137) 13 13 (by decide) (rL _ rfl) (by decide) rfl (by decide) (r10 _ rfl) dX0_plays_20 (fun n100 => ?_) (fun n100 => ?_)
                              · have h := h.1 n100
                                refine G_aload_n 2 rfl rfl dX0_plays_137 ?_
                                refine G_iload_n 1 rfl rfl dX0_plays_138 ?_
                                refine G_iload 0 rfl dX0_plays_139 ?_
                                obtain ⟨g32, g33, c34, h⟩ := h
                                refine G_callV (as := [_, _]) cf_X0_164 rfl rfl rfl (sp_X0_tellGoer (d - 1) (by omega) _ hO _ (r2 _ rfl) _ (r6 _ rfl) g32 g33 c34) (by omega) rfl rfl (Nat.le_of_ble_eq_true rfl) dX0_plays_141 ?_
                                rintro _ σ37 ⟨u38, rfl, z39⟩ o36 r35
                                have h := h _ _ (r35 _ rfl) o36 z39
                                refine G_iconst dX0_plays_144 ?_
                                refine G_icmp_eq (r35 _ rfl) (rL (-1) rfl) dX0_plays_145 (tgt := 152) (by decide) (fun c40 => ?_) (fun c40 => ?_)
                                · have h := h.1 c40
                                  refine G_iconst dX0_plays_152 ?_
                                  exact G_zret rfl (by decide) dX0_plays_153 ⟨_, rfl, h⟩ o36
                                · have h := h.2 c40
                                  refine G_iconst dX0_plays_148 ?_
                                  refine G_goto (tgt := 153) dX0_plays_149 (by decide) ?_
                                  exact G_zret rfl (by decide) dX0_plays_153 ⟨_, rfl, h⟩ o36
                              · have h := h.2 n100
                                have n101 : (14 : Int) ≤ (if 0 ≤ x2 ∧ x2 ≤ σ t 9 - 1 then σ (t + 3) x2 else -1) ∨ (if 0 ≤ x2 ∧ x2 ≤ σ t 9 - 1 then σ (t + 3) x2 else -1) < 0 := tsw_next (by decide) n99 n100
                                refine G_tsw (tgt := 154) 14 14 (by decide) (rL _ rfl) (by decide) rfl (by decide) (r10 _ rfl) dX0_plays_20 (fun n102 => ?_) (fun n102 => ?_)
                                · have h := h.1 n102
                                  refine G_aload_n 2 rfl rfl dX0_plays_154 ?_
                                  refine G_iload 0 rfl dX0_plays_155 ?_
                                  refine G_iload_n 1 rfl rfl dX0_plays_157 ?_
                                  obtain ⟨g42, g43, g44, c45, h⟩ := h
                                  refine G_callV (as := [_, _]) cf_X0_167 rfl rfl rfl (sp_X0_stepGo (d - 1) (by omega) _ hO _ (r6 _ rfl) _ (r2 _ rfl) g42 g43 g44 c45) (by omega) rfl rfl (Nat.le_of_ble_eq_true rfl) dX0_plays_158 ?_
                                  rintro _ σ48 ⟨u49, rfl, z50⟩ o47 r46
                                  have h := h _ _ (r46 _ rfl) o47 z50
                                  obtain ⟨c51, h⟩ := h
                                  exact G_zret rfl c51 dX0_plays_161 ⟨_, rfl, h⟩ o47
                                · have h := h.2 n102
                                  have n103 : (15 : Int) ≤ (if 0 ≤ x2 ∧ x2 ≤ σ t 9 - 1 then σ (t + 3) x2 else -1) ∨ (if 0 ≤ x2 ∧ x2 ≤ σ t 9 - 1 then σ (t + 3) x2 else -1) < 0 := tsw_next (by decide) n101 n102
                                  refine G_tsw (tgt := 239) 15 15 (by decide) (rL _ rfl) (by decide) rfl (by decide) (r10 _ rfl) dX0_plays_20 (fun n104 => ?_) (fun n104 => ?_)
                                  · have h := ((h).2 (tsw_ne n104 (by decide))).2 (tsw_ne n104 (by decide))
                                    refine G_iconst dX0_plays_239 ?_
                                    exact G_zret rfl (by decide) dX0_plays_240 ⟨_, rfl, h⟩ hO
                                  · have n105 : (16 : Int) ≤ (if 0 ≤ x2 ∧ x2 ≤ σ t 9 - 1 then σ (t + 3) x2 else -1) ∨ (if 0 ≤ x2 ∧ x2 ≤ σ t 9 - 1 then σ (t + 3) x2 else -1) < 0 := tsw_next (by decide) n103 n104
                                    refine G_tsw (tgt := 162) 16 16 (by decide) (rL _ rfl) (by decide) rfl (by decide) (r10 _ rfl) dX0_plays_20 (fun n106 => ?_) (fun n106 => ?_)
                                    · have h := h.1 n106
                                      refine G_aload_n 2 rfl rfl dX0_plays_162 ?_
                                      refine G_iload_n 1 rfl rfl dX0_plays_163 ?_
                                      obtain ⟨g53, g54, g55, c56, h⟩ := h
                                      refine G_callV (as := [_]) cf_X0_170 rfl rfl rfl (sp_X0_stepLay (d - 1) (by omega) _ hO _ (r2 _ rfl) g53 g54 g55 c56) (by omega) rfl rfl (Nat.le_of_ble_eq_true rfl) dX0_plays_164 ?_
                                      rintro _ σ59 ⟨u60, rfl, z61⟩ o58 r57
                                      have h := h _ _ (r57 _ rfl) o58 z61
                                      obtain ⟨c62, h⟩ := h
                                      exact G_zret rfl c62 dX0_plays_167 ⟨_, rfl, h⟩ o58
                                    · have h := h.2 n106
                                      have n107 : (17 : Int) ≤ (if 0 ≤ x2 ∧ x2 ≤ σ t 9 - 1 then σ (t + 3) x2 else -1) ∨ (if 0 ≤ x2 ∧ x2 ≤ σ t 9 - 1 then σ (t + 3) x2 else -1) < 0 := tsw_next (by decide) n105 n106
                                      refine G_tsw (tgt := 168) 17 17 (by decide) (rL _ rfl) (by decide) rfl (by decide) (r10 _ rfl) dX0_plays_20 (fun n108 => ?_) (fun n108 => ?_)
                                      · have h := h.1 n108
                                        refine G_aload_n 2 rfl rfl dX0_plays_168 ?_
                                        refine G_iload_n 1 rfl rfl dX0_plays_169 ?_
                                        obtain ⟨g64, g65, g66, c67, h⟩ := h
                                        refine G_callV (as := [_]) cf_X0_173 rfl rfl rfl (sp_X0_stepCoil (d - 1) (by omega) _ hO _ (r2 _ rfl) g64 g65 g66 c67) (by omega) rfl rfl (Nat.le_of_ble_eq_true rfl) dX0_plays_170 ?_
                                        rintro _ σ70 ⟨u71, rfl, z72⟩ o69 r68
                                        have h := h _ _ (r68 _ rfl) o69 z72
                                        obtain ⟨c73, h⟩ := h
                                        exact G_zret rfl c73 dX0_plays_173 ⟨_, rfl, h⟩ o69
                                      · have h := h.2 n108
                                        have n109 : (18 : Int) ≤ (if 0 ≤ x2 ∧ x2 ≤ σ t 9 - 1 then σ (t + 3) x2 else -1) ∨ (if 0 ≤ x2 ∧ x2 ≤ σ t 9 - 1 then σ (t + 3) x2 else -1) < 0 := tsw_next (by decide) n107 n108
                                        refine G_tswd (tgt := 239) (r10 _ rfl) (tsw_out n109) (by decide) dX0_plays_20 ?_
                                        refine G_iconst dX0_plays_239 ?_
                                        exact G_zret rfl (by decide) dX0_plays_240 ⟨_, rfl, h⟩ hO
  · intro v3 v5 v6 σ h hv3 hv5 hv6 hO
    have h := h hv3 hv5 hv6 hO
    refine G_iload 3 rfl dX0_plays_194 ?_
    refine G_iload 2 rfl dX0_plays_196 ?_
    refine G_icmp_ge hv6 hv5 dX0_plays_198 (tgt := 227) (by decide) (fun c110 => ?_) (fun c110 => ?_)
    · have h := h.1 c110
      refine G_iload 2 rfl dX0_plays_227 ?_
      refine G_iload_n 1 rfl rfl dX0_plays_229 ?_
      refine G_icmp_ne hv5 hv3 dX0_plays_230 (tgt := 237) (by decide) (fun c111 => ?_) (fun c111 => ?_)
      · have h := h.1 c111
        refine G_iconst dX0_plays_237 ?_
        exact G_zret rfl (by decide) dX0_plays_238 ⟨_, rfl, h⟩ hO
      · have h := h.2 c111
        refine G_iconst dX0_plays_233 ?_
        refine G_goto (tgt := 238) dX0_plays_234 (by decide) ?_
        exact G_zret rfl (by decide) dX0_plays_238 ⟨_, rfl, h⟩ hO
    · have h := h.2 c110
      refine G_aload_n 0 rfl rfl dX0_plays_201 ?_
      refine G_get (k := 2) (kd := (2, 15)) (v := aR 15) gf_X0_25 rfl rfl rfl rfl dX0_plays_202 ?_
      refine G_aload_n 0 rfl rfl dX0_plays_205 ?_
      refine G_get (k := 1) (kd := (2, 10)) (v := aR 10) gf_X0_21 rfl rfl rfl rfl dX0_plays_206 ?_
      refine G_aload_n 0 rfl rfl dX0_plays_209 ?_
      refine G_get (k := 0) (kd := (2, 1)) (v := aR 1) gf_X0_17 rfl rfl rfl rfl dX0_plays_210 ?_
      obtain ⟨g112, g113, c114, h⟩ := h
      refine G_callV (as := [_, _]) cf_X0_93 rfl rfl rfl (sp_X7_push (d - 1) (by omega) _ hO  g112 g113 c114) (by omega) rfl rfl (Nat.le_of_ble_eq_true rfl) dX0_plays_213 ?_
      rintro _ σ117 ⟨rfl, z119⟩ o116 r115
      have h := h _ o116 z119
      refine G_aload_n 0 rfl rfl dX0_plays_216 ?_
      obtain ⟨g120, g121, c122, h⟩ := h
      refine G_callV (as := []) cf_X0_148 rfl rfl rfl (sp_X0_passDay (d - 1) (by omega) _ o116  g120 g121 c122) (by omega) rfl rfl (Nat.le_of_ble_eq_true rfl) dX0_plays_217 ?_
      rintro _ σ125 ⟨u126, rfl, z127⟩ o124 r123
      have h := h _ _ (r123 _ rfl) o124 z127
      refine G_pop rfl dX0_plays_220 ?_
      refine G_iinc (lv' := [(6, aI ((v6 + 1))), (0, aR (38)), (3, aI (v3)), (5, aI (v5))]) (k := 3) rfl rfl (by decide) dX0_plays_221 ?_
      refine G_goto (tgt := 194) dX0_plays_224 (by decide) ?_
      obtain ⟨c128, h⟩ := h
      exact G_pick [1, 2, 3, 0] rfl (h hv3 hv5 c128 o124)

theorem sp_X0_plays (d : Nat) (hd : 6 ≤ d) (σ : Mem) (hO : OKm σ) (t : Nat) (ht : isText t) (x2 : Int) (hx2 : R32 x2) (A : Mem) (L : List Mem) (tx : Nat → Txt) (c : Cl) (hpre : vsC σ A L tx ∧ clC σ t x2 c) : Mt yX0_plays cX0_plays 7 (some .boolean) d [aR (38), aR (t), aI (x2)] σ (QI (fun v σ' => v = (playS A L tx c).1 ∧ vsC σ' (playS A L tx c).2.1 (playS A L tx c).2.2 tx ∧ Fr PLC σ σ')) := mt_X0_plays hd ht hx2 hO (by
  unfold wp_X0_plays
  intro P194 h194
  obtain ⟨⟨hV, hL⟩, ⟨hk0, hk1, hk2⟩, hcl, c0, c1, c2, c4⟩ := hpre
  have hI := hV.2.2.1
  have hc := hI.1
  have k3 := hI.2.2.2.1
  have b9 : 0 ≤ σ t 9 ∧ σ t 9 ≤ 24 := by omega
  rw [if_pos (show 0 ≤ x2 ∧ x2 ≤ σ t 9 - 1 by omega), if_pos (show (0 ≤ x2 ∧ x2 ≤ σ t 9 - 1) ∧ (0 ≤ (0 : Int) ∧ (0 : Int) ≤ 3) by omega), if_pos (show (0 ≤ x2 ∧ x2 ≤ σ t 9 - 1) ∧ (0 ≤ (1 : Int) ∧ (1 : Int) ≤ 3) by omega), if_pos (show (0 ≤ x2 ∧ x2 ≤ σ t 9 - 1) ∧ (0 ≤ (2 : Int) ∧ (2 : Int) ≤ 3) by omega), if_pos (show (0 ≤ x2 ∧ x2 ≤ σ t 9 - 1) ∧ (0 ≤ (3 : Int) ∧ (3 : Int) ≤ 3) by omega), show x2 * 4 + (0 : Int) = 4 * x2 by omega, show x2 * 4 + (1 : Int) = 4 * x2 + 1 by omega, show x2 * 4 + (2 : Int) = 4 * x2 + 2 by omega, show x2 * 4 + (3 : Int) = 4 * x2 + 3 by omega]
  refine ⟨b9, ?_⟩
  intro y4 e4
  refine ⟨b9, ?_⟩
  intro y8 e8
  refine ⟨b9, ?_⟩
  rw [c0]
  unfold clOK at hcl
  rcases hcl with h | ⟨h, ha, hb, hn, ht⟩ | ⟨h, ha, hb⟩ | ⟨h, ha, hb⟩ | ⟨h, ha⟩ | ⟨h, ha⟩ | ⟨h, ha⟩
  · have ek : kcC c.1 = 9 ∨ kcC c.1 = 10 := by unfold kcC; rcases h with h | h <;> simp [h]
    refine ⟨fun q => absurd q (by omega), fun _ => ⟨fun q => absurd q (by omega), fun _ => ⟨fun q => absurd q (by omega), fun _ => ⟨fun q => absurd q (by omega), fun _ => ⟨fun q => absurd q (by omega), fun _ => ⟨fun q => absurd q (by omega), fun _ => ?_⟩⟩⟩⟩⟩⟩
    unfold playS
    rw [if_neg (by omega), if_neg (by omega), if_neg (by omega), if_neg (by omega), if_neg (by omega), if_neg (by omega)]
    exact ⟨rfl, ⟨hV, hL⟩, Fr.rf _ _⟩
  · have ek : kcC c.1 = 11 := by rw [h]; decide
    have q1 := c1 (by rw [h]; decide)
    have q2 := c2 (by rw [h]; decide)
    have q4 := c4 (by rw [h]; decide)
    rw [ek, q4.1, q4.2]
    refine ⟨fun q => absurd q (by omega), fun _ => ⟨fun _ => ⟨b9, b9, A, tx, ⟨hV, by omega, hn, ht⟩, ?_⟩, fun q => absurd rfl q⟩⟩
    intro u σ1 hu hO1 ⟨p1, p2, hF⟩
    have hL1 := hL.congr (hF 15 (by simp)) (hF (15 + 1) (by simp))
    have hF1 : Fr PLC σ σ1 := hF.wk (by simp)
    unfold playS
    rw [if_pos h]
    rw [q1] at e4
    rw [q2] at e8
    rw [e4, e8] at p1 p2
    by_cases hok : A 10 0 < 16 ∧ c.2.1 ≠ c.2.2.1
    · obtain ⟨eu, hV1⟩ := p1 hok
      rw [if_pos hok]
      exact ⟨fun q => absurd q (by omega), fun _ => ⟨rfl, ⟨hV1, hL1⟩, hF1⟩⟩
    · obtain ⟨eu, hV1⟩ := p2 hok
      rw [if_neg hok]
      exact ⟨fun _ => ⟨rfl, ⟨hV1, hL1⟩, hF1⟩, fun q => absurd eu q⟩
  · have ek : kcC c.1 = 13 := by rw [h]; decide
    have q1 := c1 (by rw [h]; decide)
    have q2 := c2 (by rw [h]; decide)
    rw [ek]
    refine ⟨fun q => absurd q (by omega), fun _ => ⟨fun q => absurd q (by omega), fun _ => ⟨fun _ => ⟨A, tx, ⟨hV, by omega, by omega⟩, ?_⟩, fun q => absurd rfl q⟩⟩⟩
    intro u σ1 hu hO1 ⟨p1, p2, hF⟩
    have hL1 := hL.congr (hF 15 (by simp)) (hF (15 + 1) (by simp))
    have hF1 : Fr PLC σ σ1 := hF.wk (by simp)
    unfold playS
    rw [if_neg (by omega), if_pos h]
    rw [q1] at e4
    rw [q2] at e8
    rw [e4, e8] at p1
    by_cases hok : A 10 1 < 6
    · obtain ⟨eu, hV1⟩ := p1 hok
      rw [if_pos hok]
      exact ⟨fun q => absurd q (by omega), fun _ => ⟨rfl, ⟨hV1, hL1⟩, hF1⟩⟩
    · obtain ⟨eu, hV1⟩ := p2 hok
      rw [if_neg hok]
      exact ⟨fun _ => ⟨rfl, ⟨hV1, hL1⟩, hF1⟩, fun q => absurd eu q⟩
  · have ek : kcC c.1 = 14 := by rw [h]; decide
    have q1 := c1 (by rw [h]; decide)
    have q2 := c2 (by rw [h]; decide)
    rw [ek]
    refine ⟨fun q => absurd q (by omega), fun _ => ⟨fun q => absurd q (by omega), fun _ => ⟨fun q => absurd q (by omega), fun _ => ⟨fun _ => ⟨A, L, tx, ⟨hV, hL⟩, ?_⟩, fun q => absurd rfl q⟩⟩⟩⟩
    intro u σ1 hu hO1 ⟨p1, p2, hF⟩
    have hF1 : Fr PLC σ σ1 := hF.wk (by simp)
    unfold playS
    rw [if_neg (by omega), if_neg (by omega), if_pos h]
    rw [q1] at e4
    rw [q2] at e8
    rw [e4, e8] at p1 p2
    cases hok : canGoV A tx c.2.2.1 c.2.1 with
    | true =>
      obtain ⟨eu, hS1⟩ := p1 hok
      rw [if_pos rfl]
      exact ⟨by omega, eu, hS1, hF1⟩
    | false =>
      obtain ⟨eu, hS1⟩ := p2 hok
      rw [if_neg (by simp)]
      exact ⟨by omega, eu, hS1, hF1⟩
  · have ek : kcC c.1 = 16 := by rw [h]; decide
    have q1 := c1 (by rw [h]; decide)
    rw [ek]
    refine ⟨fun q => absurd q (by omega), fun _ => ⟨fun q => absurd q (by omega), fun _ => ⟨fun q => absurd q (by omega), fun _ => ⟨fun q => absurd q (by omega), fun _ => ⟨fun _ => ⟨A, L, tx, ⟨hV, hL⟩, ?_⟩, fun q => absurd rfl q⟩⟩⟩⟩⟩
    intro u σ1 hu hO1 ⟨p1, p2, hF⟩
    have hF1 : Fr PLC σ σ1 := hF.wk (by simp)
    unfold playS
    rw [if_neg (by omega), if_neg (by omega), if_neg (by omega), if_pos h]
    rw [q1] at e4
    rw [e4] at p1 p2
    cases hok : canLayS A c.2.1 with
    | true =>
      obtain ⟨eu, hS1⟩ := p1 hok
      rw [if_pos rfl]
      exact ⟨by omega, eu, hS1, hF1⟩
    | false =>
      obtain ⟨eu, hS1⟩ := p2 hok
      rw [if_neg (by simp)]
      exact ⟨by omega, eu, hS1, hF1⟩
  · have ek : kcC c.1 = 17 := by rw [h]; decide
    have q1 := c1 (by rw [h]; decide)
    rw [ek]
    refine ⟨fun q => absurd q (by omega), fun _ => ⟨fun q => absurd q (by omega), fun _ => ⟨fun q => absurd q (by omega), fun _ => ⟨fun q => absurd q (by omega), fun _ => ⟨fun q => absurd q (by omega), fun _ => ⟨fun _ => ⟨A, L, tx, ⟨⟨hV, hL⟩, by omega⟩, ?_⟩, fun q => absurd rfl q⟩⟩⟩⟩⟩⟩
    intro u σ1 hu hO1 ⟨p1, p2, hF⟩
    have hF1 : Fr PLC σ σ1 := hF.wk (by simp)
    unfold playS
    rw [if_neg (by omega), if_neg (by omega), if_neg (by omega), if_neg (by omega), if_pos h]
    rw [q1] at e4
    rw [e4] at p1 p2
    by_cases hok : A 0 0 + c.2.1 ≤ 999
    · obtain ⟨eu, hS1⟩ := p1 hok
      rw [if_pos hok]
      exact ⟨by omega, eu, hS1, hF1⟩
    · obtain ⟨eu, hS1⟩ := p2 hok
      rw [if_neg hok]
      exact ⟨by omega, eu, hS1, hF1⟩
  · have ek : kcC c.1 = 0 := by rw [h]; decide
    have q1 := c1 (by rw [h]; decide)
    rw [ek]
    rw [q1] at e4
    have e107 : σ 10 7 = A 0 2 := hV.2.1.1.2.2.1
    rw [e107]
    refine ⟨fun _ => ⟨by unfold R32; omega, ?_⟩, fun q => absurd rfl q⟩
    intro y14 e14
    unfold playS at h194
    rw [if_neg (by omega), if_neg (by omega), if_neg (by omega), if_neg (by omega), if_neg (by omega), if_pos h] at h194
    have H : ∀ (n k : Nat) (τ : Mem), k + n = y14.toNat → vsC τ (dayN tx A L k).1 (dayN tx A L k).2.1 tx → Fr PLC σ τ → P194 y4 y14 (k : Int) τ := by
      intro n
      induction n with
      | zero =>
        intro k τ hk hSt hF
        have em : (min c.2.1 (9999 - A 0 2)).toNat = k := by omega
        rw [em] at h194
        refine h194 _ _ _ _ (fun _ _ _ _ => ⟨fun _ => ⟨fun hne => ⟨?_, hSt, hF⟩, fun heq => ⟨?_, hSt, hF⟩⟩, fun h => absurd h (by omega)⟩)
        · show (0 : Int) = if A 0 2 + c.2.1 ≤ 9999 then 1 else 0
          rw [if_neg (by omega)]
        · show (1 : Int) = if A 0 2 + c.2.1 ≤ 9999 then 1 else 0
          rw [if_pos (by omega)]
      | succ n ih =>
        intro k τ hk hSt hF
        have hd := dayN_day (A := A) (L := L) (tx := tx) k
        refine h194 _ _ _ _ (fun _ _ _ _ => ⟨fun h => absurd h (by omega), fun _ => ⟨(dayN tx A L k).1, (dayN tx A L k).2.1, ⟨hSt.1.2.1, hSt.1.1.1.1, hSt.1.1.1.2.1, hSt.1.2.2.1.cnt, hSt.2⟩, ?_⟩⟩)
        intro σ1 hO1 ⟨hL1, hF1⟩
        have hV1 : vwC σ1 (dayN tx A L k).1 tx := hSt.1.now (hSt.1.2.1.congr (fun q h1 h2 => hF1 q (by simp; omega))) hSt.1.2.2.1 (fun _ _ => rfl) (fun q hq => hF1 q (by simp; omega))
        refine ⟨(dayN tx A L k).1, tx, ⟨hV1, by rw [hd]; omega⟩, ?_⟩
        intro u2 σ2 hu2 hO2 ⟨eu2, hV2, hF2⟩
        refine ⟨by unfold R32; omega, ?_⟩
        rw [show ((k : Int) + 1) = ((k + 1 : Nat) : Int) by omega]
        exact ih (k + 1) σ2 (by omega) ⟨hV2, hL1.congr (hF2 15 (by simp)) (hF2 (15 + 1) (by simp))⟩ ((hF.tr (hF1.wk (by simp))).tr (hF2.wk (by simp)))
    exact H y14.toNat 0 σ (by omega) ⟨hV, hL⟩ (Fr.rf _ _))

theorem textM.cl {σ : Mem} {i : Int} {T : Txt} (h : textM σ i T) {k : Nat} {c : Cl} (hk : T.2.2[k]? = some c) : clM σ (729 * i + 1 + 5 * (k : Int)) c := by
  obtain ⟨q1, q2, q3, q4, q5⟩ := h.2.2.2.2.2 k c hk
  exact ⟨q1, q2, q3, q4, q5⟩
theorem textC.cl {σ : Mem} {t : Nat} {T : Txt} (h : textC σ t T) {k : Nat} {c : Cl} (hk : T.2.2[k]? = some c) : clC σ t (k : Int) c := by
  obtain ⟨q1, q2, q3, q4, q5⟩ := h.2.2.2.2.2 k c hk
  have hl := (List.getElem?_eq_some_iff.mp hk).1
  have h9 := h.2.2.2.1
  have h24 := h.2.2.2.2.1
  exact ⟨by omega, q1, q2, q3, q4, q5⟩
theorem drop_cons {T : List Cl} {k : Nat} (h : k < T.length) : ∃ c, T[k]? = some c ∧ T.drop k = c :: T.drop (k + 1) := ⟨T[k], List.getElem?_eq_getElem h, List.drop_eq_getElem_cons h⟩
theorem goersN_told {A : Mem} {tx : Nat → Txt} {q : Nat} (hq : 8 ≤ q) : ∀ n : Nat, (goersN A tx n).1 q = A q
  | 0 => rfl
  | n + 1 => by show gstep _ tx _ q = A q; rw [gstep_told hq]; exact goersN_told hq n
theorem swN_told {A : Mem} {tx : Nat → Txt} {q : Nat} (hq : q ≠ 1) : ∀ n : Nat, swN A tx n q = A q
  | 0 => rfl
  | n + 1 => by show mset _ 1 _ _ q = A q; rw [mset_ne hq]; exact swN_told hq n
theorem passS_told {A : Mem} {tx : Nat → Txt} {q : Nat} (hq : 8 ≤ q) : (passS A tx).1 q = A q := by
  unfold passS
  show mset _ 0 2 _ q = A q
  rw [mset_ne (by omega), swN_told (by omega), goersN_told hq]
  unfold rainS
  rw [mset_ne (by omega), mset_ne (by omega)]
theorem dayN_told {A : Mem} {L : List Mem} {tx : Nat → Txt} {q : Nat} (hq : 8 ≤ q) : ∀ n : Nat, (dayN tx A L n).1 q = A q
  | 0 => rfl
  | n + 1 => by show (passS (dayN tx A L n).1 tx).1 q = A q; rw [passS_told hq]; exact dayN_told hq n
theorem playS_texts {A : Mem} {L : List Mem} {tx : Nat → Txt} {c : Cl} : (playS A L tx c).2.1 10 2 = A 10 2 := by
  unfold playS
  repeat' split
  all_goals first
    | rfl
    | (unfold roadS; simp (disch := omega) only [mset_off, mset_miss]; done)
    | (unfold goerS; simp (disch := omega) only [mset_off, mset_miss]; done)
    | (show goneS _ _ _ _ 10 2 = _; unfold goneS; rw [walkS_told (by omega)]; done)
    | (show layS _ _ 10 2 = _; unfold layS; rw [mset_ne (by omega), mset_ne (by omega)]; done)
    | (show coilS _ _ 10 2 = _; unfold coilS; rw [mset_ne (by omega)]; done)
    | (show (dayN tx A L _).1 10 2 = _; rw [dayN_told (by omega)]; done)

def wp_X12_played (x1 : Int) (σ : Mem) (Q : Int → Mem → Prop) : Prop :=
 ∀ P21 : Int → Int → Mem → Prop,
 (∀ (v1 : Int) (v2 : Int) (σ : Mem), (R32 v1 → R32 v2 → OKm σ →
   (0 ≤ (729 * v1) ∧ (729 * v1) < 2916) ∧
    (((σ 77 (729 * v1)) ≤ v2) →
     Q (-1) σ) ∧
    ((v2 < (σ 77 (729 * v1))) →
     R32 (((729 * v1) + 1) + (5 * v2)) ∧
     ∃ g8 : Mem, ∃ g9 : List Mem, ∃ g10 : Nat → Txt, ∃ g11 : Cl, (vsM σ g8 g9 g10 ∧ σ 74 24 < 800000000 ∧ (0 ≤ (((729 * v1) + 1) + (5 * v2)) ∧ (((729 * v1) + 1) + (5 * v2)) + 4 < 2916) ∧ clM σ (((729 * v1) + 1) + (5 * v2)) g11) ∧
     ∀ (u16 : Int) (σ15 : Mem), R32 u16 → OKm σ15 → (u16 = (playS g8 g9 g10 g11).1 ∧ vsM σ15 (playS g8 g9 g10 g11).2.1 (playS g8 g9 g10 g11).2.2 g10 ∧ stM σ σ15 360) →
     ((u16 ≠ 0) →
      R32 (v2 + 1) ∧ P21 v1 (v2 + 1) σ15) ∧
     ((u16 = 0) →
      Q v2 σ15))) → P21 v1 v2 σ) →
  R32 ((σ 75 2) - 1) ∧
   (((0 : Int) ≤ x1 ∧ x1 ≤ ((σ 75 2) - 1)) →
    P21 x1 0 σ) ∧
   ((¬ ((0 : Int) ≤ x1 ∧ x1 ≤ ((σ 75 2) - 1))) →
    Q (-2) σ)
theorem mt_X12_played {d : Nat} (hd : 11 ≤ d) {x1 : Int} {σ : Mem} {Q : Int → Mem → Prop} (hx1 : R32 x1) (hO : OKm σ) (h : wp_X12_played x1 σ Q) : Mt yX12_played cX12_played 3 (some .int) d [aR (74), aI (x1)] σ (QI Q) := by
  refine Mt.intro (by decide +kernel) (Nat.le_of_ble_eq_true rfl) [(0, aR (74)), (1, aI (x1))] rfl ?_
  unfold wp_X12_played at h
  have h := h (fun (v1 : Int) (v2 : Int) (σ : Mem) => R32 v1 → R32 v2 → OKm σ → G yX12_played cX12_played 3 (some .int) d (QI Q) 21 [(0, aR (74)), (1, aI (v1)), (2, aI (v2))] [] σ) ?_
  · refine G_iload_n 1 rfl rfl dX12_played_0 ?_
    refine G_iconst dX12_played_1 ?_
    refine G_aload_n 0 rfl rfl dX12_played_2 ?_
    refine G_get (k := 0) (kd := (2, 75)) (v := aR 75) gf_X12_7 rfl rfl rfl rfl dX12_played_3 ?_
    refine G_iconst dX12_played_6 ?_
    refine G_iald (n := 2119) rfl (by decide) (by decide) dX12_played_7 ?_
    refine G_iconst dX12_played_8 ?_
    refine G_isub dX12_played_9 ?_
    obtain ⟨c1, h⟩ := h
    refine G_callS (as := [_, _, _]) cf_X12_81 rfl (sp_X12_isIn (d - 1) (by omega) _ hO _ hx1 _ (rL 0 rfl) _ c1) (by omega) rfl rfl (Nat.le_of_ble_eq_true rfl) dX12_played_10 ?_
    rintro _ _ ⟨_, rfl, rfl, rfl⟩ o3 r2
    refine G_if_ne (bI_R _) dX12_played_13 (tgt := 19) (by decide) (fun c4 => ?_) (fun c4 => ?_)
    · have h := h.1 (bI_ne c4)
      refine G_iconst dX12_played_19 ?_
      refine G_istore_n (lv' := [(2, aI (0)), (0, aR (74)), (1, aI (x1))]) rfl rfl (by decide) dX12_played_20 ?_
      exact G_pick [1, 2, 0] rfl (h hx1 (rL 0 rfl) hO)
    · have h := h.2 ((bI_0 _).mp c4)
      refine G_bipush (by decide) dX12_played_16 ?_
      exact G_iret rfl (rL (-2) rfl) dX12_played_18 ⟨_, rfl, h⟩ hO
  · intro v1 v2 σ h hv1 hv2 hO
    have h := h hv1 hv2 hO
    refine G_iload_n 2 rfl rfl dX12_played_21 ?_
    refine G_aload_n 0 rfl rfl dX12_played_22 ?_
    refine G_get (k := 2) (kd := (2, 77)) (v := aR 77) gf_X12_16 rfl rfl rfl rfl dX12_played_23 ?_
    refine G_sipush (by decide) dX12_played_26 ?_
    refine G_iload_n 1 rfl rfl dX12_played_29 ?_
    refine G_imul dX12_played_30 ?_
    obtain ⟨c5, h⟩ := h
    refine G_iald (n := 2916) rfl c5.1 c5.2 dX12_played_31 ?_
    refine G_icmp_ge hv2 (OKm.i hO 77 (729 * v1) (isLg_row (show shp 77 = (1, 2916, []) from rfl) _)) dX12_played_32 (tgt := 61) (by decide) (fun c6 => ?_) (fun c6 => ?_)
    · have h := h.1 c6
      refine G_iconst dX12_played_61 ?_
      exact G_iret rfl (rL (-1) rfl) dX12_played_62 ⟨_, rfl, h⟩ hO
    · have h := h.2 c6
      refine G_aload_n 0 rfl rfl dX12_played_35 ?_
      refine G_sipush (by decide) dX12_played_36 ?_
      refine G_iload_n 1 rfl rfl dX12_played_39 ?_
      refine G_imul dX12_played_40 ?_
      refine G_iconst dX12_played_41 ?_
      refine G_iadd dX12_played_42 ?_
      refine G_iconst dX12_played_43 ?_
      refine G_iload_n 2 rfl rfl dX12_played_44 ?_
      refine G_imul dX12_played_45 ?_
      refine G_iadd dX12_played_46 ?_
      obtain ⟨c7, h⟩ := h
      obtain ⟨g8, g9, g10, g11, c12, h⟩ := h
      refine G_callV (as := [_]) cf_X12_403 rfl rfl rfl (sp_X12_isPlayed (d - 1) (by omega) _ hO _ c7 g8 g9 g10 g11 c12) (by omega) rfl rfl (Nat.le_of_ble_eq_true rfl) dX12_played_47 ?_
      rintro _ σ15 ⟨u16, rfl, z17⟩ o14 r13
      have h := h _ _ (r13 _ rfl) o14 z17
      refine G_if_ne (r13 _ rfl) dX12_played_50 (tgt := 55) (by decide) (fun c18 => ?_) (fun c18 => ?_)
      · have h := h.1 c18
        refine G_iinc (lv' := [(2, aI ((v2 + 1))), (0, aR (74)), (1, aI (v1))]) (k := 2) rfl rfl (by decide) dX12_played_55 ?_
        refine G_goto (tgt := 21) dX12_played_58 (by decide) ?_
        obtain ⟨c19, h⟩ := h
        exact G_pick [1, 2, 0] rfl (h hv1 c19 o14)
      · have h := h.2 c18
        refine G_iload_n 2 rfl rfl dX12_played_53 ?_
        exact G_iret rfl hv2 dX12_played_54 ⟨_, rfl, h⟩ o14

theorem sp_X12_played (d : Nat) (hd : 11 ≤ d) (σ : Mem) (hO : OKm σ) (x1 : Int) (hx1 : R32 x1) (A : Mem) (L : List Mem) (tx : Nat → Txt) (hpre : vsM σ A L tx ∧ σ 74 24 < 700000000) : Mt yX12_played cX12_played 3 (some .int) d [aR (74), aI (x1)] σ (QI (fun v σ' => ((0 ≤ x1 ∧ x1 < A 10 2) → v = (playL tx (tx (x1).toNat).2.2 0 A L).1 ∧ vsM σ' (playL tx (tx (x1).toNat).2.2 0 A L).2.1 (playL tx (tx (x1).toNat).2.2 0 A L).2.2 tx) ∧ (¬ (0 ≤ x1 ∧ x1 < A 10 2) → v = -2 ∧ vsM σ' A L tx) ∧ stM σ σ' 10000)) := mt_X12_played hd hx1 hO (by
  unfold wp_X12_played
  intro P21 h21
  obtain ⟨hS, hgo⟩ := hpre
  have hc := hS.1.2.2.1.1
  have e2 : σ 75 2 = A 10 2 := hS.1.1.1.2.2.1
  rw [e2]
  refine ⟨by unfold R32; omega, fun hx => ?_, fun hx => ⟨fun h => absurd h (by omega), fun _ => ⟨rfl, hS⟩, (stM.rf _).wk (by omega)⟩⟩
  have hT0 := hS.1.2.2.2.1 x1.toNat (by omega)
  rw [show ((x1.toNat : Nat) : Int) = x1 by omega] at hT0
  have h24 := hT0.2.1
  have H : ∀ (n k : Nat) (τ : Mem) (B : Mem) (M : List Mem), k + n = (tx x1.toNat).2.2.length → vsM τ B M tx → B 10 2 = A 10 2 → stM σ τ (360 * k) → playL tx (tx x1.toNat).2.2 0 A L = playL tx ((tx x1.toNat).2.2.drop k) (k : Int) B M → P21 x1 (k : Int) τ := by
    intro n
    induction n with
    | zero =>
      intro k τ B M hk hSt hB hs hp
      have hT := hSt.1.2.2.2.1 x1.toNat (by omega)
      rw [show ((x1.toNat : Nat) : Int) = x1 by omega] at hT
      have hl := hT.1
      rw [List.drop_eq_nil_of_le (by omega)] at hp
      refine h21 _ _ _ (fun _ _ _ => ⟨by omega, fun _ => ⟨fun _ => ?_, fun h => absurd hx (by omega), hs.wk (by omega)⟩, fun h => absurd h (by omega)⟩)
      rw [hp]
      exact ⟨rfl, hSt⟩
    | succ n ih =>
      intro k τ B M hk hSt hB hs hp
      have hT := hSt.1.2.2.2.1 x1.toNat (by omega)
      rw [show ((x1.toNat : Nat) : Int) = x1 by omega] at hT
      have hl := hT.1
      obtain ⟨c, hc1, hc2⟩ := drop_cons (T := (tx x1.toNat).2.2) (k := k) (by omega)
      rw [hc2] at hp
      have hcl := hT.cl hc1
      have hb := hs.2.2
      refine h21 _ _ _ (fun _ _ _ => ⟨by omega, fun h => absurd h (by omega), fun _ => ⟨by unfold R32; omega, B, M, tx, c, ⟨hSt, by omega, by omega, hcl⟩, ?_⟩⟩)
      intro u σ1 hu hO1 ⟨eu, hS1, hs1⟩
      have hs2 := hs.tr hs1
      refine ⟨fun hne => ⟨by unfold R32; omega, ?_⟩, fun heq => ⟨fun _ => ?_, fun h => absurd hx (by omega), hs2.wk (by omega)⟩⟩
      · rw [show ((k : Int) + 1) = ((k + 1 : Nat) : Int) by omega]
        refine ih (k + 1) σ1 _ _ (by omega) hS1 (by rw [playS_texts]; exact hB) (hs2.wk (by omega)) ?_
        rw [hp]
        show (if (playS B M tx c).1 = 0 then _ else _) = _
        rw [if_neg (by rw [← eu]; exact hne)]
        rfl
      · rw [hp]
        have : playL tx (c :: (tx x1.toNat).2.2.drop (k + 1)) (k : Int) B M = ((k : Int), (playS B M tx c).2.1, (playS B M tx c).2.2) := by
          show (if (playS B M tx c).1 = 0 then _ else _) = _
          rw [if_pos (by rw [← eu]; exact heq)]
        rw [this]
        exact ⟨rfl, hS1⟩
  exact H (tx x1.toNat).2.2.length 0 σ A L (by omega) hS rfl ((stM.rf _).wk (by omega)) rfl)
