/-! which word stands between a and p: the constant of all words is gone through once -/
def chW (k : Int) : Int := bAnd (sB 0 k) 255
def wdF (f : Int → Int) (a p : Int) : Nat → Int → Int → Int → Int
  | 0, _, _, _ => 42
  | n + 1, k, w, al => if chW k = 32 then (if al = p - a then w else wdF f a p n (k + 1) (w + 1) 0) else wdF f a p n (k + 1) w (if 0 ≤ al ∧ a + al < p ∧ f (a + al) = chW k then al + 1 else -1)
def wdC (f : Int → Int) (a p : Int) : Int := wdF f a p 132 0 0 0

def wp_X8_wordFrom (x1 : Int) (x2 : Int) (σ : Mem) (Q : Int → Mem → Prop) : Prop :=
 ∀ P8 : Int → Int → Int → Int → Int → Mem → Prop,
 (∀ (v1 : Int) (v2 : Int) (v3 : Int) (v4 : Int) (v5 : Int) (σ : Mem), (R32 v1 → R32 v2 → R32 v3 → R32 v4 → R32 v5 → OKm σ →
   ((((132 : Int)) ≤ v5) →
     Q 42 σ) ∧
    ((v5 < ((132 : Int))) →
     (0 ≤ v5 ∧ v5 < 132) ∧
     (((bAnd (sB 0 v5) 255) = 32) →
      R32 (v2 - v1) ∧
      ((v4 ≠ (v2 - v1)) →
       R32 (v3 + 1) ∧ R32 (v5 + 1) ∧ P8 v1 v2 (v3 + 1) 0 (v5 + 1) σ) ∧
      ((v4 = (v2 - v1)) →
       Q v3 σ)) ∧
     (((bAnd (sB 0 v5) 255) ≠ 32) →
      ((v4 < 0) →
       R32 (v5 + 1) ∧ P8 v1 v2 v3 (-1) (v5 + 1) σ) ∧
      ((0 ≤ v4) →
       R32 (v1 + v4) ∧
       ((v2 ≤ (v1 + v4)) →
        R32 (v5 + 1) ∧ P8 v1 v2 v3 (-1) (v5 + 1) σ) ∧
       (((v1 + v4) < v2) →
        (0 ≤ (v1 + v4) ∧ (v1 + v4) < 300) ∧
        (((σ 31 (v1 + v4)) ≠ (bAnd (sB 0 v5) 255)) →
         R32 (v5 + 1) ∧ P8 v1 v2 v3 (-1) (v5 + 1) σ) ∧
        (((σ 31 (v1 + v4)) = (bAnd (sB 0 v5) 255)) →
         R32 (v4 + 1) ∧ R32 (v5 + 1) ∧ P8 v1 v2 v3 (v4 + 1) (v5 + 1) σ)))))) → P8 v1 v2 v3 v4 v5 σ) →
  P8 x1 x2 0 0 0 σ
theorem mt_X8_wordFrom {d : Nat} (hd : 4 ≤ d) {x1 : Int} {x2 : Int} {σ : Mem} {Q : Int → Mem → Prop} (hx1 : R32 x1) (hx2 : R32 x2) (hO : OKm σ) (h : wp_X8_wordFrom x1 x2 σ Q) : Mt yX8_wordFrom cX8_wordFrom 8 (some .int) d [aR (30), aI (x1), aI (x2)] σ (QI Q) := by
  refine Mt.intro (by decide +kernel) (Nat.le_of_ble_eq_true rfl) [(0, aR (30)), (1, aI (x1)), (2, aI (x2))] rfl ?_
  unfold wp_X8_wordFrom at h
  have h := h (fun (v1 : Int) (v2 : Int) (v3 : Int) (v4 : Int) (v5 : Int) (σ : Mem) => R32 v1 → R32 v2 → R32 v3 → R32 v4 → R32 v5 → OKm σ → G yX8_wordFrom cX8_wordFrom 8 (some .int) d (QI Q) 8 [(0, aR (30)), (1, aI (v1)), (2, aI (v2)), (3, aI (v3)), (4, aI (v4)), (5, aI (v5))] [] σ) ?_
  · refine G_iconst dX8_wordFrom_0 ?_
    refine G_istore_n (lv' := [(3, aI (0)), (0, aR (30)), (1, aI (x1)), (2, aI (x2))]) rfl rfl (by decide) dX8_wordFrom_1 ?_
    refine G_iconst dX8_wordFrom_2 ?_
    refine G_istore (lv' := [(4, aI (0)), (3, aI (0)), (0, aR (30)), (1, aI (x1)), (2, aI (x2))]) rfl (by decide) dX8_wordFrom_3 ?_
    refine G_iconst dX8_wordFrom_5 ?_
    refine G_istore (lv' := [(5, aI (0)), (4, aI (0)), (3, aI (0)), (0, aR (30)), (1, aI (x1)), (2, aI (x2))]) rfl (by decide) dX8_wordFrom_6 ?_
    exact G_pick [3, 4, 5, 2, 1, 0] rfl (h hx1 hx2 (rL 0 rfl) (rL 0 rfl) (rL 0 rfl) hO)
  · intro v1 v2 v3 v4 v5 σ h hv1 hv2 hv3 hv4 hv5 hO
    have h := h hv1 hv2 hv3 hv4 hv5 hO
    refine G_iload 5 rfl dX8_wordFrom_8 ?_
    refine G_ldcS0 rfl dX8_wordFrom_10 ?_
    refine G_callVs (i := 0) (as := []) (by decide) cf_X8_69 rfl (sp_J0_length_8abf5_s0 (d - 1) (by omega) _ hO ) (by omega) rfl rfl (Nat.le_of_ble_eq_true rfl) dX8_wordFrom_12 ?_
    rintro _ _ ⟨_, rfl, rfl, rfl⟩ o2 r1
    refine G_icmp_ge hv5 (r1 _ rfl) dX8_wordFrom_15 (tgt := 108) (by decide) (fun c3 => ?_) (fun c3 => ?_)
    · have h := h.1 c3
      refine G_bipush (by decide) dX8_wordFrom_108 ?_
      exact G_iret rfl (rL 42 rfl) dX8_wordFrom_110 ⟨_, rfl, h⟩ hO
    · have h := h.2 c3
      refine G_ldcS0 rfl dX8_wordFrom_18 ?_
      refine G_iload 5 rfl dX8_wordFrom_20 ?_
      obtain ⟨c4, h⟩ := h
      refine G_callVs (i := 0) (as := [_]) (by decide) cf_X8_72 rfl (sp_J0_charAt_5068e_s0 (d - 1) (by omega) _ hO _ hv5 c4) (by omega) rfl rfl (Nat.le_of_ble_eq_true rfl) dX8_wordFrom_22 ?_
      rintro _ _ ⟨_, rfl, rfl, rfl⟩ o6 r5
      refine G_istore (lv' := [(6, aI ((bAnd (sB 0 v5) 255))), (0, aR (30)), (1, aI (v1)), (2, aI (v2)), (3, aI (v3)), (4, aI (v4)), (5, aI (v5))]) rfl (by decide) dX8_wordFrom_25 ?_
      refine G_iload 0 rfl dX8_wordFrom_27 ?_
      refine G_bipush (by decide) dX8_wordFrom_29 ?_
      refine G_icmp_eq (r5 _ rfl) (rL 32 rfl) dX8_wordFrom_31 (tgt := 86) (by decide) (fun c7 => ?_) (fun c7 => ?_)
      · have h := h.1 c7
        refine G_iload 5 rfl dX8_wordFrom_86 ?_
        refine G_iload_n 3 rfl rfl dX8_wordFrom_88 ?_
        refine G_iload_n 2 rfl rfl dX8_wordFrom_89 ?_
        refine G_isub dX8_wordFrom_90 ?_
        obtain ⟨c8, h⟩ := h
        refine G_icmp_ne hv4 c8 dX8_wordFrom_91 (tgt := 96) (by decide) (fun c9 => ?_) (fun c9 => ?_)
        · have h := h.1 c9
          refine G_iinc (lv' := [(3, aI ((v3 + 1))), (6, aI ((bAnd (sB 0 v5) 255))), (0, aR (30)), (1, aI (v1)), (2, aI (v2)), (4, aI (v4)), (5, aI (v5))]) (k := 4) rfl rfl (by decide) dX8_wordFrom_96 ?_
          refine G_iconst dX8_wordFrom_99 ?_
          refine G_istore (lv' := [(4, aI (0)), (3, aI ((v3 + 1))), (6, aI ((bAnd (sB 0 v5) 255))), (0, aR (30)), (1, aI (v1)), (2, aI (v2)), (5, aI (v5))]) rfl (by decide) dX8_wordFrom_100 ?_
          refine G_iinc (lv' := [(5, aI ((v5 + 1))), (4, aI (0)), (3, aI ((v3 + 1))), (6, aI ((bAnd (sB 0 v5) 255))), (0, aR (30)), (1, aI (v1)), (2, aI (v2))]) (k := 6) rfl rfl (by decide) dX8_wordFrom_102 ?_
          refine G_goto (tgt := 8) dX8_wordFrom_105 (by decide) ?_
          obtain ⟨c10, h⟩ := h
          obtain ⟨c11, h⟩ := h
          exact G_pick [4, 5, 6, 2, 1, 0] rfl (h hv1 hv2 c10 (rL 0 rfl) c11 hO)
        · have h := h.2 c9
          refine G_iload_n 4 rfl rfl dX8_wordFrom_94 ?_
          exact G_iret rfl hv3 dX8_wordFrom_95 ⟨_, rfl, h⟩ hO
      · have h := h.2 c7
        refine G_iload 5 rfl dX8_wordFrom_34 ?_
        refine G_if_lt hv4 dX8_wordFrom_36 (tgt := 65) (by decide) (fun c12 => ?_) (fun c12 => ?_)
        · have h := h.1 c12
          refine G_iconst dX8_wordFrom_65 ?_
          refine G_istore (lv' := [(7, aI (0)), (6, aI ((bAnd (sB 0 v5) 255))), (0, aR (30)), (1, aI (v1)), (2, aI (v2)), (3, aI (v3)), (4, aI (v4)), (5, aI (v5))]) rfl (by decide) dX8_wordFrom_66 ?_
          refine G_iload 0 rfl dX8_wordFrom_68 ?_
          refine G_if_eq (rL 0 rfl) dX8_wordFrom_70 (tgt := 80) (by decide) (fun _ => ?_) (fun c13 => absurd c13 (by decide))
          refine G_iconst dX8_wordFrom_80 ?_
          refine G_istore (lv' := [(4, aI ((-1))), (7, aI (0)), (6, aI ((bAnd (sB 0 v5) 255))), (0, aR (30)), (1, aI (v1)), (2, aI (v2)), (3, aI (v3)), (5, aI (v5))]) rfl (by decide) dX8_wordFrom_81 ?_
          refine G_goto (tgt := 102) dX8_wordFrom_83 (by decide) ?_
          refine G_iinc (lv' := [(5, aI ((v5 + 1))), (4, aI ((-1))), (7, aI (0)), (6, aI ((bAnd (sB 0 v5) 255))), (0, aR (30)), (1, aI (v1)), (2, aI (v2)), (3, aI (v3))]) (k := 7) rfl rfl (by decide) dX8_wordFrom_102 ?_
          refine G_goto (tgt := 8) dX8_wordFrom_105 (by decide) ?_
          obtain ⟨c14, h⟩ := h
          exact G_pick [4, 5, 6, 7, 1, 0] rfl (h hv1 hv2 hv3 (rL (-1) rfl) c14 hO)
        · have h := h.2 c12
          refine G_iload_n 2 rfl rfl dX8_wordFrom_39 ?_
          refine G_iload 5 rfl dX8_wordFrom_40 ?_
          refine G_iadd dX8_wordFrom_42 ?_
          refine G_iload_n 3 rfl rfl dX8_wordFrom_43 ?_
          obtain ⟨c15, h⟩ := h
          refine G_icmp_ge c15 hv2 dX8_wordFrom_44 (tgt := 65) (by decide) (fun c16 => ?_) (fun c16 => ?_)
          · have h := h.1 c16
            refine G_iconst dX8_wordFrom_65 ?_
            refine G_istore (lv' := [(7, aI (0)), (6, aI ((bAnd (sB 0 v5) 255))), (0, aR (30)), (1, aI (v1)), (2, aI (v2)), (3, aI (v3)), (4, aI (v4)), (5, aI (v5))]) rfl (by decide) dX8_wordFrom_66 ?_
            refine G_iload 0 rfl dX8_wordFrom_68 ?_
            refine G_if_eq (rL 0 rfl) dX8_wordFrom_70 (tgt := 80) (by decide) (fun _ => ?_) (fun c17 => absurd c17 (by decide))
            refine G_iconst dX8_wordFrom_80 ?_
            refine G_istore (lv' := [(4, aI ((-1))), (7, aI (0)), (6, aI ((bAnd (sB 0 v5) 255))), (0, aR (30)), (1, aI (v1)), (2, aI (v2)), (3, aI (v3)), (5, aI (v5))]) rfl (by decide) dX8_wordFrom_81 ?_
            refine G_goto (tgt := 102) dX8_wordFrom_83 (by decide) ?_
            refine G_iinc (lv' := [(5, aI ((v5 + 1))), (4, aI ((-1))), (7, aI (0)), (6, aI ((bAnd (sB 0 v5) 255))), (0, aR (30)), (1, aI (v1)), (2, aI (v2)), (3, aI (v3))]) (k := 7) rfl rfl (by decide) dX8_wordFrom_102 ?_
            refine G_goto (tgt := 8) dX8_wordFrom_105 (by decide) ?_
            obtain ⟨c18, h⟩ := h
            exact G_pick [4, 5, 6, 7, 1, 0] rfl (h hv1 hv2 hv3 (rL (-1) rfl) c18 hO)
          · have h := h.2 c16
            refine G_aload_n 1 rfl rfl dX8_wordFrom_47 ?_
            refine G_get (k := 0) (kd := (3, 1)) (v := aR (31)) gf_X8_9 rfl rfl rfl rfl dX8_wordFrom_48 ?_
            refine G_iload_n 2 rfl rfl dX8_wordFrom_51 ?_
            refine G_iload 5 rfl dX8_wordFrom_52 ?_
            refine G_iadd dX8_wordFrom_54 ?_
            obtain ⟨c19, h⟩ := h
            refine G_iald (n := 300) rfl c19.1 c19.2 dX8_wordFrom_55 ?_
            refine G_iload 0 rfl dX8_wordFrom_56 ?_
            refine G_icmp_ne (OKm.i hO 31 (v1 + v4) (isLg_row (show shp 31 = (1, 300, []) from rfl) _)) (r5 _ rfl) dX8_wordFrom_58 (tgt := 65) (by decide) (fun c20 => ?_) (fun c20 => ?_)
            · have h := h.1 c20
              refine G_iconst dX8_wordFrom_65 ?_
              refine G_istore (lv' := [(7, aI (0)), (6, aI ((bAnd (sB 0 v5) 255))), (0, aR (30)), (1, aI (v1)), (2, aI (v2)), (3, aI (v3)), (4, aI (v4)), (5, aI (v5))]) rfl (by decide) dX8_wordFrom_66 ?_
              refine G_iload 0 rfl dX8_wordFrom_68 ?_
              refine G_if_eq (rL 0 rfl) dX8_wordFrom_70 (tgt := 80) (by decide) (fun _ => ?_) (fun c21 => absurd c21 (by decide))
              refine G_iconst dX8_wordFrom_80 ?_
              refine G_istore (lv' := [(4, aI ((-1))), (7, aI (0)), (6, aI ((bAnd (sB 0 v5) 255))), (0, aR (30)), (1, aI (v1)), (2, aI (v2)), (3, aI (v3)), (5, aI (v5))]) rfl (by decide) dX8_wordFrom_81 ?_
              refine G_goto (tgt := 102) dX8_wordFrom_83 (by decide) ?_
              refine G_iinc (lv' := [(5, aI ((v5 + 1))), (4, aI ((-1))), (7, aI (0)), (6, aI ((bAnd (sB 0 v5) 255))), (0, aR (30)), (1, aI (v1)), (2, aI (v2)), (3, aI (v3))]) (k := 7) rfl rfl (by decide) dX8_wordFrom_102 ?_
              refine G_goto (tgt := 8) dX8_wordFrom_105 (by decide) ?_
              obtain ⟨c22, h⟩ := h
              exact G_pick [4, 5, 6, 7, 1, 0] rfl (h hv1 hv2 hv3 (rL (-1) rfl) c22 hO)
            · have h := h.2 c20
              refine G_iconst dX8_wordFrom_61 ?_
              refine G_goto (tgt := 66) dX8_wordFrom_62 (by decide) ?_
              refine G_istore (lv' := [(7, aI (1)), (6, aI ((bAnd (sB 0 v5) 255))), (0, aR (30)), (1, aI (v1)), (2, aI (v2)), (3, aI (v3)), (4, aI (v4)), (5, aI (v5))]) rfl (by decide) dX8_wordFrom_66 ?_
              refine G_iload 0 rfl dX8_wordFrom_68 ?_
              refine G_if_eq (rL 1 rfl) dX8_wordFrom_70 (tgt := 80) (by decide) (fun c23 => absurd c23 (by decide)) (fun _ => ?_)
              refine G_iload 6 rfl dX8_wordFrom_73 ?_
              refine G_iconst dX8_wordFrom_75 ?_
              refine G_iadd dX8_wordFrom_76 ?_
              refine G_goto (tgt := 81) dX8_wordFrom_77 (by decide) ?_
              refine G_istore (lv' := [(4, aI ((v4 + 1))), (7, aI (1)), (6, aI ((bAnd (sB 0 v5) 255))), (0, aR (30)), (1, aI (v1)), (2, aI (v2)), (3, aI (v3)), (5, aI (v5))]) rfl (by decide) dX8_wordFrom_81 ?_
              refine G_goto (tgt := 102) dX8_wordFrom_83 (by decide) ?_
              refine G_iinc (lv' := [(5, aI ((v5 + 1))), (4, aI ((v4 + 1))), (7, aI (1)), (6, aI ((bAnd (sB 0 v5) 255))), (0, aR (30)), (1, aI (v1)), (2, aI (v2)), (3, aI (v3))]) (k := 7) rfl rfl (by decide) dX8_wordFrom_102 ?_
              refine G_goto (tgt := 8) dX8_wordFrom_105 (by decide) ?_
              obtain ⟨c24, h⟩ := h
              obtain ⟨c25, h⟩ := h
              exact G_pick [4, 5, 6, 7, 1, 0] rfl (h hv1 hv2 hv3 c24 c25 hO)

theorem sp_X8_wordFrom (d : Nat) (hd : 4 ≤ d) (σ : Mem) (hO : OKm σ) (x1 : Int) (hx1 : R32 x1) (x2 : Int) (hx2 : R32 x2) (u : Unit) (hpre : 0 ≤ x1 ∧ x1 ≤ x2 ∧ x2 ≤ 300) : Mt yX8_wordFrom cX8_wordFrom 8 (some .int) d [aR (30), aI (x1), aI (x2)] σ (QI (fun v σ' => v = wdC (σ 31) x1 x2 ∧ σ' = σ)) := mt_X8_wordFrom hd hx1 hx2 hO (by
  unfold wp_X8_wordFrom
  intro P8 h8
  have H : ∀ (n : Nat) (k w al : Int), k + n = 132 → 0 ≤ k → (0 ≤ w ∧ w ≤ k) → (-1 ≤ al ∧ al ≤ k) → wdF (σ 31) x1 x2 n k w al = wdC (σ 31) x1 x2 → P8 x1 x2 w al k σ := by
    intro n
    induction n with
    | zero =>
      intro k w al hk h0 hw ha he
      exact h8 _ _ _ _ _ _ (fun _ _ _ _ _ _ => ⟨fun _ => ⟨by rw [← he]; rfl, rfl⟩, fun h => absurd h (by omega)⟩)
    | succ n ih =>
      intro k w al hk h0 hw ha he
      have step : ∀ al' : Int, chW k ≠ 32 → al' = (if 0 ≤ al ∧ x1 + al < x2 ∧ σ 31 (x1 + al) = chW k then al + 1 else -1) → R32 (k + 1) ∧ P8 x1 x2 w al' (k + 1) σ := fun al' hne e => by
        refine ⟨by unfold R32; omega, ih (k + 1) w al' (by omega) (by omega) (by omega) (by rw [e]; split <;> omega) ?_⟩
        rw [← he, e]
        show _ = if chW k = 32 then _ else _
        rw [if_neg hne]
      refine h8 _ _ _ _ _ _ (fun _ _ _ _ _ _ => ⟨fun h => absurd h (by omega), fun _ => ⟨by omega, fun h32 => ⟨by unfold R32; omega, fun hne => ⟨by unfold R32; omega, by unfold R32; omega, ?_⟩, fun heq => ⟨?_, rfl⟩⟩, fun h32 => ⟨fun hlt => step _ h32 ?_, fun hge => ⟨by unfold R32; omega, fun hp => step _ h32 ?_, fun hp => ⟨by omega, fun hn => step _ h32 ?_, fun hy => ⟨by unfold R32; omega, step _ h32 ?_⟩⟩⟩⟩⟩⟩)
      · refine ih (k + 1) (w + 1) 0 (by omega) (by omega) (by omega) (by omega) ?_
        rw [← he]
        show _ = if chW k = 32 then _ else _
        rw [if_pos (show chW k = 32 from h32), if_neg hne]
      · rw [← he]
        show w = if chW k = 32 then _ else _
        rw [if_pos (show chW k = 32 from h32), if_pos heq]
      · rw [if_neg (by omega)]
      · rw [if_neg (by omega)]
      · rw [if_neg (fun q => hn q.2.2)]
      · rw [if_pos ⟨hge, hp, hy⟩]
  exact H 132 0 0 0 (by omega) (by omega) (by omega) (by omega) rfl)
