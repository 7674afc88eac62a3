/-- the farthest town that one comes to from t -/
def mostN (A : Mem) (t : Int) : Nat → Int
  | 0 => 0
  | n + 1 => if dst A 1 (-1) t (n : Int) < 1000000 then max (mostN A t n) (dst A 1 (-1) t (n : Int)) else mostN A t n
theorem mostN_r {A : Mem} {t : Int} (hI : InvA A) : ∀ n : Nat, 0 ≤ mostN A t n ∧ mostN A t n < 1000000
  | 0 => by simp [mostN]
  | n + 1 => by
    have := mostN_r (t := t) hI n
    have := dst_r (th := 1) (wo := -1) (a := t) (b := (n : Int)) hI
    unfold mostN; split <;> omega
def cenN (A : Mem) : Nat → Int × Int
  | 0 => (-1, 1000000)
  | n + 1 => if 0 < degS A (n : Int) ∧ mostN A (n : Int) 8 < (cenN A n).2 then ((n : Int), mostN A (n : Int) 8) else cenN A n
theorem cenN_r {A : Mem} (hI : InvA A) : ∀ n : Nat, 0 ≤ (cenN A n).2 ∧ (cenN A n).2 ≤ 1000000
  | 0 => by simp [cenN]
  | n + 1 => by
    have := cenN_r hI n
    have := mostN_r (t := (n : Int)) hI 8
    unfold cenN; split
    · show 0 ≤ mostN A (n : Int) 8 ∧ mostN A (n : Int) 8 ≤ 1000000; omega
    · assumption

def wp_X4_mostMiles  (σ : Mem) (Q : Int → Mem → Prop) : Prop :=
 ∀ P4 : Int → Int → Mem → Prop,
 (∀ (v1 : Int) (v2 : Int) (σ : Mem), (R32 v1 → R32 v2 → OKm σ →
   ((8 ≤ v2) →
     Q v1 σ) ∧
    ((v2 < 8) →
     (0 ≤ v2 ∧ v2 < 8) ∧
     ((1000000 ≤ (σ 41 v2)) →
      R32 (v2 + 1) ∧ P4 v1 (v2 + 1) σ) ∧
     (((σ 41 v2) < 1000000) →
      (0 ≤ v2 ∧ v2 < 8) ∧
      R32 (v2 + 1) ∧ P4 (max v1 (σ 41 v2)) (v2 + 1) σ))) → P4 v1 v2 σ) →
  P4 0 0 σ
theorem mt_X4_mostMiles {d : Nat} (hd : 0 ≤ d)  {σ : Mem} {Q : Int → Mem → Prop}  (hO : OKm σ) (h : wp_X4_mostMiles  σ Q) : Mt yX4_mostMiles cX4_mostMiles 3 (some .int) d [aR (40)] σ (QI Q) := by
  refine Mt.intro (by decide +kernel) (Nat.le_of_ble_eq_true rfl) [(0, aR (40))] rfl ?_
  unfold wp_X4_mostMiles at h
  have h := h (fun (v1 : Int) (v2 : Int) (σ : Mem) => R32 v1 → R32 v2 → OKm σ → G yX4_mostMiles cX4_mostMiles 3 (some .int) d (QI Q) 4 [(0, aR (40)), (1, aI (v1)), (2, aI (v2))] [] σ) ?_
  · refine G_iconst dX4_mostMiles_0 ?_
    refine G_istore_n (lv' := [(1, aI (0)), (0, aR (40))]) rfl rfl (by decide) dX4_mostMiles_1 ?_
    refine G_iconst dX4_mostMiles_2 ?_
    refine G_istore_n (lv' := [(2, aI (0)), (1, aI (0)), (0, aR (40))]) rfl rfl (by decide) dX4_mostMiles_3 ?_
    exact G_pick [2, 1, 0] rfl (h (rL 0 rfl) (rL 0 rfl) hO)
  · intro v1 v2 σ h hv1 hv2 hO
    have h := h hv1 hv2 hO
    refine G_iload_n 2 rfl rfl dX4_mostMiles_4 ?_
    refine G_bipush (by decide) dX4_mostMiles_5 ?_
    refine G_icmp_ge hv2 (rL 8 rfl) dX4_mostMiles_7 (tgt := 38) (by decide) (fun c1 => ?_) (fun c1 => ?_)
    · have h := h.1 c1
      refine G_iload_n 1 rfl rfl dX4_mostMiles_38 ?_
      exact G_iret rfl hv1 dX4_mostMiles_39 ⟨_, rfl, h⟩ hO
    · have h := h.2 c1
      refine G_aload_n 0 rfl rfl dX4_mostMiles_10 ?_
      refine G_get (k := 2) (kd := (3, 1)) (v := aR (41)) gf_X4_9 rfl rfl rfl rfl dX4_mostMiles_11 ?_
      refine G_iload_n 2 rfl rfl dX4_mostMiles_14 ?_
      obtain ⟨c2, h⟩ := h
      refine G_iald (n := 8) rfl c2.1 c2.2 dX4_mostMiles_15 ?_
      refine G_ldc (n := 1000000) rfl (by decide) kc_X4_64 dX4_mostMiles_16 ?_
      refine G_icmp_ge (OKm.i hO 41 v2 (isLg_row (show shp 41 = (1, 8, []) from rfl) _)) (rL 1000000 rfl) dX4_mostMiles_18 (tgt := 32) (by decide) (fun c3 => ?_) (fun c3 => ?_)
      · have h := h.1 c3
        refine G_iinc (lv' := [(2, aI ((v2 + 1))), (0, aR (40)), (1, aI (v1))]) (k := 2) rfl rfl (by decide) dX4_mostMiles_32 ?_
        refine G_goto (tgt := 4) dX4_mostMiles_35 (by decide) ?_
        obtain ⟨c4, h⟩ := h
        exact G_pick [1, 2, 0] rfl (h hv1 c4 hO)
      · have h := h.2 c3
        refine G_iload_n 1 rfl rfl dX4_mostMiles_21 ?_
        refine G_aload_n 0 rfl rfl dX4_mostMiles_22 ?_
        refine G_get (k := 2) (kd := (3, 1)) (v := aR (41)) gf_X4_9 rfl rfl rfl rfl dX4_mostMiles_23 ?_
        refine G_iload_n 2 rfl rfl dX4_mostMiles_26 ?_
        obtain ⟨c5, h⟩ := h
        refine G_iald (n := 8) rfl c5.1 c5.2 dX4_mostMiles_27 ?_
        refine G_mmax rfl hv1 (OKm.i hO 41 v2 (isLg_row (show shp 41 = (1, 8, []) from rfl) _)) (Nat.le_of_ble_eq_true rfl) sf_X4_96 dX4_mostMiles_28 ?_
        refine G_istore_n (lv' := [(1, aI ((max v1 (σ 41 v2)))), (0, aR (40)), (2, aI (v2))]) rfl rfl (by decide) dX4_mostMiles_31 ?_
        refine G_iinc (lv' := [(2, aI ((v2 + 1))), (1, aI ((max v1 (σ 41 v2)))), (0, aR (40))]) (k := 2) rfl rfl (by decide) dX4_mostMiles_32 ?_
        refine G_goto (tgt := 4) dX4_mostMiles_35 (by decide) ?_
        obtain ⟨c6, h⟩ := h
        exact G_pick [2, 1, 0] rfl (h (r32_max hv1 (OKm.i hO 41 v2 (isLg_row (show shp 41 = (1, 8, []) from rfl) _))) c6 hO)

theorem sp_X4_mostMiles (d : Nat) (hd : 0 ≤ d) (σ : Mem) (hO : OKm σ) (A : Mem) (t : Int) (hpre : inF σ 41 (dst A 1 (-1) t) ∧ InvA A) : Mt yX4_mostMiles cX4_mostMiles 3 (some .int) d [aR (40)] σ (QI (fun v σ' => v = mostN A t 8 ∧ σ' = σ)) := mt_X4_mostMiles hd  hO (by
  unfold wp_X4_mostMiles
  intro P4 h4
  obtain ⟨hm, hI⟩ := hpre
  have H : ∀ (n k : Nat), k + n = 8 → P4 (mostN A t k) (k : Int) σ := by
    intro n
    induction n with
    | zero =>
      intro k hk
      have hk2 : k = 8 := by omega
      subst hk2
      exact h4 _ _ _ (fun _ _ _ => ⟨fun _ => ⟨rfl, rfl⟩, fun h => absurd h (by omega)⟩)
    | succ n ih =>
      intro k hk
      have ih1 := ih (k + 1) (by omega)
      have em : σ 41 (k : Int) = dst A 1 (-1) t (k : Int) := hm _ (by omega) (by omega)
      refine h4 _ _ _ (fun _ _ _ => ⟨fun h => absurd h (by omega), fun _ => ?_⟩)
      rw [em]
      refine ⟨by omega, fun h => ⟨by unfold R32; omega, ?_⟩, fun h => ⟨by omega, by unfold R32; omega, ?_⟩⟩
      · have e : mostN A t (k + 1) = mostN A t k := by show (if _ then _ else _) = _; rw [if_neg (by omega)]
        rw [e] at ih1; exact ih1
      · have e : mostN A t (k + 1) = max (mostN A t k) (dst A 1 (-1) t (k : Int)) := by show (if _ then _ else _) = _; rw [if_pos h]
        rw [e] at ih1; exact ih1
  exact H _ 0 (Nat.zero_add _))

def wp_X4_centreTown  (σ : Mem) (Q : Int → Mem → Prop) : Prop :=
 ∀ P7 : Int → Int → Int → Mem → Prop,
 (∀ (v1 : Int) (v2 : Int) (v3 : Int) (σ : Mem), (R32 v1 → R32 v2 → R32 v3 → OKm σ →
   ((8 ≤ v3) →
     Q v1 σ) ∧
    ((v3 < 8) →
     ∃ g2 : Mem, ∃ g3 : Nat → Txt, (vwC σ g2 g3) ∧
     ∀ (u8 : Int) (σ7 : Mem), R32 u8 → OKm σ7 → (u8 = degS g2 v3 ∧ σ7 = σ) →
     ((u8 ≤ 0) →
      R32 (v3 + 1) ∧ P7 v1 v2 (v3 + 1) σ7) ∧
     ((0 < u8) →
      ∃ g12 : Mem, ∃ g13 : Nat → Txt, (vwC σ7 g12 g13 ∧ (0 ≤ v3 ∧ v3 ≤ 7)) ∧
      ∀ σ17 : Mem, OKm σ17 → (inF σ17 41 (sprC g12 (1 : Int) ((-1) : Int) v3 7) ∧ Fr [41] σ7 σ17) →
      ∃ g20 : Mem, ∃ g21 : Int, (inF σ17 41 (dst g20 1 (-1) g21) ∧ InvA g20) ∧
      ∀ (u26 : Int) (σ25 : Mem), R32 u26 → OKm σ25 → (u26 = mostN g20 g21 8 ∧ σ25 = σ17) →
      ((v2 ≤ u26) →
       R32 (v3 + 1) ∧ P7 v1 v2 (v3 + 1) σ25) ∧
      ((u26 < v2) →
       R32 (v3 + 1) ∧ P7 v3 u26 (v3 + 1) σ25)))) → P7 v1 v2 v3 σ) →
  P7 (-1) 1000000 0 σ
theorem mt_X4_centreTown {d : Nat} (hd : 2 ≤ d)  {σ : Mem} {Q : Int → Mem → Prop}  (hO : OKm σ) (h : wp_X4_centreTown  σ Q) : Mt yX4_centreTown cX4_centreTown 5 (some .int) d [aR (40)] σ (QI Q) := by
  refine Mt.intro (by decide +kernel) (Nat.le_of_ble_eq_true rfl) [(0, aR (40))] rfl ?_
  unfold wp_X4_centreTown at h
  have h := h (fun (v1 : Int) (v2 : Int) (v3 : Int) (σ : Mem) => R32 v1 → R32 v2 → R32 v3 → OKm σ → G yX4_centreTown cX4_centreTown 5 (some .int) d (QI Q) 7 [(0, aR (40)), (1, aI (v1)), (2, aI (v2)), (3, aI (v3))] [] σ) ?_
  · refine G_iconst dX4_centreTown_0 ?_
    refine G_istore_n (lv' := [(1, aI ((-1))), (0, aR (40))]) rfl rfl (by decide) dX4_centreTown_1 ?_
    refine G_ldc (n := 1000000) rfl (by decide) kc_X4_64 dX4_centreTown_2 ?_
    refine G_istore_n (lv' := [(2, aI (1000000)), (1, aI ((-1))), (0, aR (40))]) rfl rfl (by decide) dX4_centreTown_4 ?_
    refine G_iconst dX4_centreTown_5 ?_
    refine G_istore_n (lv' := [(3, aI (0)), (2, aI (1000000)), (1, aI ((-1))), (0, aR (40))]) rfl rfl (by decide) dX4_centreTown_6 ?_
    exact G_pick [3, 2, 1, 0] rfl (h (rL (-1) rfl) (rL 1000000 rfl) (rL 0 rfl) hO)
  · intro v1 v2 v3 σ h hv1 hv2 hv3 hO
    have h := h hv1 hv2 hv3 hO
    refine G_iload_n 3 rfl rfl dX4_centreTown_7 ?_
    refine G_bipush (by decide) dX4_centreTown_8 ?_
    refine G_icmp_ge hv3 (rL 8 rfl) dX4_centreTown_10 (tgt := 51) (by decide) (fun c1 => ?_) (fun c1 => ?_)
    · have h := h.1 c1
      refine G_iload_n 1 rfl rfl dX4_centreTown_51 ?_
      exact G_iret rfl hv1 dX4_centreTown_52 ⟨_, rfl, h⟩ hO
    · have h := h.2 c1
      refine G_aload_n 0 rfl rfl dX4_centreTown_13 ?_
      refine G_iload_n 3 rfl rfl dX4_centreTown_14 ?_
      obtain ⟨g2, g3, c4, h⟩ := h
      refine G_callV (as := [_]) cf_X4_106 rfl rfl rfl (sp_X4_roadsAt (d - 1) (by omega) _ hO _ hv3 g2 g3 c4) (by omega) rfl rfl (Nat.le_of_ble_eq_true rfl) dX4_centreTown_15 ?_
      rintro _ σ7 ⟨u8, rfl, z9⟩ o6 r5
      have h := h _ _ (r5 _ rfl) o6 z9
      refine G_if_le (r5 _ rfl) dX4_centreTown_18 (tgt := 45) (by decide) (fun c10 => ?_) (fun c10 => ?_)
      · have h := h.1 c10
        refine G_iinc (lv' := [(3, aI ((v3 + 1))), (0, aR (40)), (1, aI (v1)), (2, aI (v2))]) (k := 3) rfl rfl (by decide) dX4_centreTown_45 ?_
        refine G_goto (tgt := 7) dX4_centreTown_48 (by decide) ?_
        obtain ⟨c11, h⟩ := h
        exact G_pick [1, 2, 3, 0] rfl (h hv1 hv2 c11 o6)
      · have h := h.2 c10
        refine G_aload_n 0 rfl rfl dX4_centreTown_21 ?_
        refine G_iload_n 3 rfl rfl dX4_centreTown_22 ?_
        refine G_iconst dX4_centreTown_23 ?_
        refine G_iconst dX4_centreTown_24 ?_
        obtain ⟨g12, g13, c14, h⟩ := h
        refine G_callV (as := [_, _, _]) cf_X4_86 rfl rfl rfl (sp_X4_spread (d - 1) (by omega) _ o6 _ hv3 _ (rL 1 rfl) _ (rL (-1) rfl) g12 g13 c14) (by omega) rfl rfl (Nat.le_of_ble_eq_true rfl) dX4_centreTown_25 ?_
        rintro _ σ17 ⟨rfl, z19⟩ o16 r15
        have h := h _ o16 z19
        refine G_aload_n 0 rfl rfl dX4_centreTown_28 ?_
        obtain ⟨g20, g21, c22, h⟩ := h
        refine G_callV (as := []) cf_X4_133 rfl rfl rfl (sp_X4_mostMiles (d - 1) (by omega) _ o16  g20 g21 c22) (by omega) rfl rfl (Nat.le_of_ble_eq_true rfl) dX4_centreTown_29 ?_
        rintro _ σ25 ⟨u26, rfl, z27⟩ o24 r23
        have h := h _ _ (r23 _ rfl) o24 z27
        refine G_istore (lv' := [(4, aI (u26)), (0, aR (40)), (1, aI (v1)), (2, aI (v2)), (3, aI (v3))]) rfl (by decide) dX4_centreTown_32 ?_
        refine G_iload 0 rfl dX4_centreTown_34 ?_
        refine G_iload_n 3 rfl rfl dX4_centreTown_36 ?_
        refine G_icmp_ge (r23 _ rfl) hv2 dX4_centreTown_37 (tgt := 45) (by decide) (fun c28 => ?_) (fun c28 => ?_)
        · have h := h.1 c28
          refine G_iinc (lv' := [(3, aI ((v3 + 1))), (4, aI (u26)), (0, aR (40)), (1, aI (v1)), (2, aI (v2))]) (k := 4) rfl rfl (by decide) dX4_centreTown_45 ?_
          refine G_goto (tgt := 7) dX4_centreTown_48 (by decide) ?_
          obtain ⟨c29, h⟩ := h
          exact G_pick [2, 3, 4, 0] rfl (h hv1 hv2 c29 o24)
        · have h := h.2 c28
          refine G_iload 0 rfl dX4_centreTown_40 ?_
          refine G_istore_n (lv' := [(2, aI (u26)), (4, aI (u26)), (0, aR (40)), (1, aI (v1)), (3, aI (v3))]) rfl rfl (by decide) dX4_centreTown_42 ?_
          refine G_iload_n 4 rfl rfl dX4_centreTown_43 ?_
          refine G_istore_n (lv' := [(1, aI (v3)), (2, aI (u26)), (4, aI (u26)), (0, aR (40)), (3, aI (v3))]) rfl rfl (by decide) dX4_centreTown_44 ?_
          refine G_iinc (lv' := [(3, aI ((v3 + 1))), (1, aI (v3)), (2, aI (u26)), (4, aI (u26)), (0, aR (40))]) (k := 4) rfl rfl (by decide) dX4_centreTown_45 ?_
          refine G_goto (tgt := 7) dX4_centreTown_48 (by decide) ?_
          obtain ⟨c30, h⟩ := h
          exact G_pick [4, 1, 2, 0] rfl (h hv3 (r23 _ rfl) c30 o24)

theorem sp_X4_centreTown (d : Nat) (hd : 2 ≤ d) (σ : Mem) (hO : OKm σ) (A : Mem) (tx : Nat → Txt) (hpre : vwC σ A tx) : Mt yX4_centreTown cX4_centreTown 5 (some .int) d [aR (40)] σ (QI (fun v σ' => v = (cenN A 8).1 ∧ Fr [41] σ σ')) := mt_X4_centreTown hd  hO (by
  unfold wp_X4_centreTown
  intro P6 h6
  have hV := hpre
  have hI := hV.2.2.1
  have hc := hI.1
  have e8 : σ 1 8 = A 10 0 := hV.1.1.1
  have e9 : σ 1 9 = A 10 1 := hV.1.1.2.1
  have H : ∀ (n k : Nat) (τ : Mem), k + n = 8 → (Fr [41] σ τ) → P6 (cenN A k).1 (cenN A k).2 (k : Int) τ := by
    intro n
    induction n with
    | zero =>
      intro k τ hk hF
      have hk2 : k = 8 := by omega
      subst hk2
      exact h6 _ _ _ _ (fun _ _ _ _ => ⟨fun _ => ⟨rfl, hF⟩, fun h => absurd h (by omega)⟩)
    | succ n ih =>
      intro k τ hk hF
      have hVt : vwC τ A tx := hV.fr (scr41 hF)
      have no : ∀ ρ : Mem, Fr [41] σ ρ → ¬ (0 < degS A (k : Int) ∧ mostN A (k : Int) 8 < (cenN A k).2) → R32 ((k : Int) + 1) ∧ P6 (cenN A k).1 (cenN A k).2 ((k : Int) + 1) ρ := fun ρ hf h => by
        have ih1 := ih (k + 1) ρ (by omega) hf
        have e : cenN A (k + 1) = cenN A k := by show (if _ then _ else _) = _; rw [if_neg h]
        rw [e] at ih1
        exact ⟨by unfold R32; omega, ih1⟩
      refine h6 _ _ _ _ (fun _ _ _ _ => ⟨fun h => absurd h (by omega), fun _ => ⟨A, tx, hVt, ?_⟩⟩)
      intro u σ1 hu hO1 ⟨eu, e1⟩
      subst e1
      refine ⟨fun h => no _ hF (fun q => by omega), fun h => ⟨A, tx, ⟨hVt, by omega⟩, ?_⟩⟩
      intro σ2 o2 ⟨q2, f2⟩
      refine ⟨A, (k : Int), ⟨q2, hI⟩, ?_⟩
      intro u3 σ3 hu3 hO3 ⟨eu3, e3⟩
      subst e3
      refine ⟨fun h2 => no _ (hF.tr f2) (fun q => by omega), fun h2 => ⟨by unfold R32; omega, ?_⟩⟩
      have ih1 := ih (k + 1) σ3 (by omega) (hF.tr f2)
      have e : cenN A (k + 1) = ((k : Int), mostN A (k : Int) 8) := by show (if _ then _ else _) = _; rw [if_pos ⟨by omega, by omega⟩]
      rw [e] at ih1
      rw [eu3]; exact ih1
  exact H _ 0 σ (Nat.zero_add _) (Fr.rf _ _))

def wp_X11_centre  (σ : Mem) (Q : Int → Mem → Prop) : Prop :=
  ∃ g1 : Mem, ∃ g2 : Nat → Txt, (vwC σ g1 g2) ∧
   ∀ (u7 : Int) (σ6 : Mem), R32 u7 → OKm σ6 → (u7 = (cenN g1 8).1 ∧ Fr [41] σ σ6) →
   Q u7 σ6
theorem mt_X11_centre {d : Nat} (hd : 3 ≤ d)  {σ : Mem} {Q : Int → Mem → Prop}  (hO : OKm σ) (h : wp_X11_centre  σ Q) : Mt yX11_centre cX11_centre 1 (some .int) d [aR (0)] σ (QI Q) := by
  refine Mt.intro (by decide +kernel) (Nat.le_of_ble_eq_true rfl) [(0, aR (0))] rfl ?_
  unfold wp_X11_centre at h
  refine G_aload_n 0 rfl rfl dX11_centre_0 ?_
  refine G_get (k := 11) (kd := (2, 40)) (v := aR 40) gf_X11_85 rfl rfl rfl rfl dX11_centre_1 ?_
  obtain ⟨g1, g2, c3, h⟩ := h
  refine G_callV (as := []) cf_X11_282 rfl rfl rfl (sp_X4_centreTown (d - 1) (by omega) _ hO  g1 g2 c3) (by omega) rfl rfl (Nat.le_of_ble_eq_true rfl) dX11_centre_4 ?_
  rintro _ σ6 ⟨u7, rfl, z8⟩ o5 r4
  have h := h _ _ (r4 _ rfl) o5 z8
  exact G_iret rfl (r4 _ rfl) dX11_centre_7 ⟨_, rfl, h⟩ o5

theorem sp_X11_centre (d : Nat) (hd : 3 ≤ d) (σ : Mem) (hO : OKm σ) (A : Mem) (tx : Nat → Txt) (hpre : vwC σ A tx) : Mt yX11_centre cX11_centre 1 (some .int) d [aR (0)] σ (QI (fun v σ' => v = (cenN A 8).1 ∧ Fr ScrC σ σ')) := mt_X11_centre hd  hO (by
  unfold wp_X11_centre
  refine ⟨A, tx, hpre, ?_⟩
  intro u σ1 hu hO1 ⟨eu, hF⟩
  exact ⟨eu, scr41 hF⟩)

def betw (τ A : Mem) (n : Int) : Prop := ∀ t u : Int, 0 ≤ t → t < n → 0 ≤ u → u < 8 → τ 86 (8 * t + u) = dst A 1 (-1) t u
abbrev F86 : List Nat := [80, 81, 82, 84, 86]

def wp_X12_layBetween  (σ : Mem) (Q : Mem → Prop) : Prop :=
 ∀ P2 : Int → Mem → Prop,
 ∀ P17 : Int → Int → Mem → Prop,
 (∀ (v1 : Int) (σ : Mem), (R32 v1 → OKm σ →
   ((8 ≤ v1) →
     Q σ) ∧
    ((v1 < 8) →
     ∃ g2 : Mem, ∃ g3 : Nat → Txt, (vwM σ g2 g3 ∧ (0 ≤ v1 ∧ v1 ≤ 7)) ∧
     ∀ σ7 : Mem, OKm σ7 → (inF σ7 84 (sprM g2 (1 : Int) ((-1) : Int) v1 8) ∧ vwM σ7 g2 g3 ∧ Fr [84] σ σ7) →
     P17 v1 0 σ7)) → P2 v1 σ) →
 (∀ (v1 : Int) (v2 : Int) (σ : Mem), (R32 v1 → R32 v2 → OKm σ →
   ((8 ≤ v2) →
     R32 (v1 + 1) ∧ P2 (v1 + 1) σ) ∧
    ((v2 < 8) →
     (0 ≤ v2 ∧ v2 < 8) ∧
     (0 ≤ ((8 * v1) + v2) ∧ ((8 * v1) + v2) < 64) ∧
     ∀ σ14 : Mem, σ14 = mset σ 86 ((8 * v1) + v2) (σ 84 v2) →
     R32 (v2 + 1) ∧ P17 v1 (v2 + 1) σ14)) → P17 v1 v2 σ) →
  P2 0 σ
theorem mt_X12_layBetween {d : Nat} (hd : 2 ≤ d)  {σ : Mem} {Q : Mem → Prop}  (hO : OKm σ) (h : wp_X12_layBetween  σ Q) : Mt yX12_layBetween cX12_layBetween 3 none d [aR (74)] σ (QV Q) := by
  refine Mt.intro (by decide +kernel) (Nat.le_of_ble_eq_true rfl) [(0, aR (74))] rfl ?_
  unfold wp_X12_layBetween at h
  have h := h (fun (v1 : Int) (σ : Mem) => R32 v1 → OKm σ → G yX12_layBetween cX12_layBetween 3 none d (QV Q) 2 [(0, aR (74)), (1, aI (v1))] [] σ)
    (fun (v1 : Int) (v2 : Int) (σ : Mem) => R32 v1 → R32 v2 → OKm σ → G yX12_layBetween cX12_layBetween 3 none d (QV Q) 17 [(0, aR (74)), (1, aI (v1)), (2, aI (v2))] [] σ) ?_ ?_
  · refine G_iconst dX12_layBetween_0 ?_
    refine G_istore_n (lv' := [(1, aI (0)), (0, aR (74))]) rfl rfl (by decide) dX12_layBetween_1 ?_
    exact G_pick [1, 0] rfl (h (rL 0 rfl) hO)
  · intro v1 σ h hv1 hO
    have h := h hv1 hO
    refine G_iload_n 1 rfl rfl dX12_layBetween_2 ?_
    refine G_bipush (by decide) dX12_layBetween_3 ?_
    refine G_icmp_ge hv1 (rL 8 rfl) dX12_layBetween_5 (tgt := 52) (by decide) (fun c1 => ?_) (fun c1 => ?_)
    · have h := h.1 c1
      exact G_vret rfl dX12_layBetween_52 ⟨rfl, h⟩ hO
    · have h := h.2 c1
      refine G_aload_n 0 rfl rfl dX12_layBetween_8 ?_
      refine G_iload_n 1 rfl rfl dX12_layBetween_9 ?_
      refine G_iconst dX12_layBetween_10 ?_
      refine G_iconst dX12_layBetween_11 ?_
      obtain ⟨g2, g3, c4, h⟩ := h
      refine G_callV (as := [_, _, _]) cf_X12_413 rfl rfl rfl (sp_X12_layFar (d - 1) (by omega) _ hO _ hv1 _ (rL 1 rfl) _ (rL (-1) rfl) g2 g3 c4) (by omega) rfl rfl (Nat.le_of_ble_eq_true rfl) dX12_layBetween_12 ?_
      rintro _ σ7 ⟨rfl, z9⟩ o6 r5
      have h := h _ o6 z9
      refine G_iconst dX12_layBetween_15 ?_
      refine G_istore_n (lv' := [(2, aI (0)), (0, aR (74)), (1, aI (v1))]) rfl rfl (by decide) dX12_layBetween_16 ?_
      exact G_pick [1, 2, 0] rfl (h hv1 (rL 0 rfl) o6)
  · intro v1 v2 σ h hv1 hv2 hO
    have h := h hv1 hv2 hO
    refine G_iload_n 2 rfl rfl dX12_layBetween_17 ?_
    refine G_bipush (by decide) dX12_layBetween_18 ?_
    refine G_icmp_ge hv2 (rL 8 rfl) dX12_layBetween_20 (tgt := 46) (by decide) (fun c10 => ?_) (fun c10 => ?_)
    · have h := h.1 c10
      refine G_iinc (lv' := [(1, aI ((v1 + 1))), (0, aR (74)), (2, aI (v2))]) (k := 1) rfl rfl (by decide) dX12_layBetween_46 ?_
      refine G_goto (tgt := 2) dX12_layBetween_49 (by decide) ?_
      obtain ⟨c11, h⟩ := h
      exact G_pick [1, 0] rfl (h c11 hO)
    · have h := h.2 c10
      refine G_aload_n 0 rfl rfl dX12_layBetween_23 ?_
      refine G_get (k := 28) (kd := (2, 86)) (v := aR 86) gf_X12_56 rfl rfl rfl rfl dX12_layBetween_24 ?_
      refine G_bipush (by decide) dX12_layBetween_27 ?_
      refine G_iload_n 1 rfl rfl dX12_layBetween_29 ?_
      refine G_imul dX12_layBetween_30 ?_
      refine G_iload_n 2 rfl rfl dX12_layBetween_31 ?_
      refine G_iadd dX12_layBetween_32 ?_
      refine G_aload_n 0 rfl rfl dX12_layBetween_33 ?_
      refine G_get (k := 26) (kd := (2, 84)) (v := aR 84) gf_X12_50 rfl rfl rfl rfl dX12_layBetween_34 ?_
      refine G_iload_n 2 rfl rfl dX12_layBetween_37 ?_
      obtain ⟨c12, h⟩ := h
      refine G_iald (n := 8) rfl c12.1 c12.2 dX12_layBetween_38 ?_
      obtain ⟨c13, h⟩ := h
      obtain ⟨σ14, e16⟩ : ∃ τ : Mem, τ = mset σ 86 ((8 * v1) + v2) (σ 84 v2) := ⟨_, rfl⟩
      have h := h σ14 e16
      have o15 : OKm σ14 := by rw [e16]; exact OKm.seti hO _ _ _ (OKm.i hO 84 v2 (isLg_row (show shp 84 = (1, 8, []) from rfl) _)) (isLg_row (show shp 86 = (1, 64, []) from rfl) _)
      refine G_iast (n := 64) rfl c13.1 c13.2 dX12_layBetween_39 ?_
      rw [← e16]
      refine G_iinc (lv' := [(2, aI ((v2 + 1))), (0, aR (74)), (1, aI (v1))]) (k := 2) rfl rfl (by decide) dX12_layBetween_40 ?_
      refine G_goto (tgt := 17) dX12_layBetween_43 (by decide) ?_
      obtain ⟨c17, h⟩ := h
      exact G_pick [1, 2, 0] rfl (h hv1 c17 o15)

theorem sp_X12_layBetween (d : Nat) (hd : 2 ≤ d) (σ : Mem) (hO : OKm σ) (A : Mem) (tx : Nat → Txt) (hpre : vwM σ A tx) : Mt yX12_layBetween cX12_layBetween 3 none d [aR (74)] σ (QV (fun σ' => betw σ' A 8 ∧ vwM σ' A tx ∧ Fr [84, 86] σ σ')) := mt_X12_layBetween hd  hO (by
  unfold wp_X12_layBetween
  intro P2 P17 h2 h17
  have hV := hpre
  have hI := hV.2.2.1
  have hc := hI.1
  have e0 : σ 75 0 = A 10 0 := hV.1.1.1
  have e1 : σ 75 1 = A 10 1 := hV.1.1.2.1
  have H17 : ∀ (t : Nat), t < 8 → (∀ τ : Mem, vwM τ A tx → betw τ A ((t : Int) + 1) → Fr [84, 86] σ τ → R32 ((t : Int) + 1) ∧ P2 ((t : Int) + 1) τ) → ∀ (n k : Nat) (τ : Mem), k + n = 8 → vwM τ A tx → inF τ 84 (dst A 1 (-1) (t : Int)) → betw τ A (t : Int) → (∀ u : Int, 0 ≤ u → u < k → τ 86 (8 * (t : Int) + u) = dst A 1 (-1) (t : Int) u) → Fr [84, 86] σ τ → P17 (t : Int) (k : Int) τ := by
    intro t ht hnext n
    induction n with
    | zero =>
      intro k τ hk hVt hm hb hu hF
      refine h17 _ _ _ (fun _ _ _ => ⟨fun _ => hnext τ hVt (fun a b h1 h2 h3 h4 => ?_) hF, fun h => absurd h (by omega)⟩)
      by_cases e : a = t
      · subst e; exact hu b h3 (by omega)
      · exact hb a b h1 (by omega) h3 h4
    | succ n ih =>
      intro k τ hk hVt hm hb hu hF
      refine h17 _ _ _ (fun _ _ _ => ⟨fun h => absurd h (by omega), fun _ => ⟨by omega, by omega, fun σ14 e14 => ⟨by unfold R32; omega, ?_⟩⟩⟩)
      have f14 : Fr [86] τ σ14 := by rw [e14]; exact (Fr.rf _ _).set (by simp)
      refine ih (k + 1) σ14 (by omega) (hVt.fr (f14.wk (by simp))) (hm.ne (f14 84 (by simp))) (fun a b h1 h2 h3 h4 => ?_) (fun u h1 h2 => ?_) (hF.tr (f14.wk (by simp)))
      · rw [e14, mset_miss (by omega)]; exact hb a b h1 h2 h3 h4
      · by_cases e : u = k
        · subst e; rw [e14, mset_hit rfl]; exact hm _ (by omega) (by omega)
        · rw [e14, mset_miss (by omega)]; exact hu u h1 (by omega)
  have H2 : ∀ (n k : Nat) (τ : Mem), k + n = 8 → vwM τ A tx → betw τ A (k : Int) → Fr [84, 86] σ τ → P2 (k : Int) τ := by
    intro n
    induction n with
    | zero =>
      intro k τ hk hVt hb hF
      have hk2 : k = 8 := by omega
      subst hk2
      exact h2 _ _ (fun _ _ => ⟨fun _ => ⟨hb, hVt, hF⟩, fun h => absurd h (by omega)⟩)
    | succ n ih =>
      intro k τ hk hVt hb hF
      refine h2 _ _ (fun _ _ => ⟨fun h => absurd h (by omega), fun _ => ⟨A, tx, ⟨hVt, by omega⟩, ?_⟩⟩)
      intro σ7 o7 ⟨q7, hV7, f7⟩
      refine H17 k (by omega) (fun τ2 hV2 hb2 hF2 => ⟨by unfold R32; omega, ih (k + 1) τ2 (by omega) hV2 hb2 hF2⟩) _ 0 σ7 (Nat.zero_add _) hV7 (fun u h1 h2 => by rw [q7 u h1 h2]; exact dst_M hI (by omega)) (fun a b h1 h2 h3 h4 => by rw [f7 86 (by simp)]; exact hb a b h1 h2 h3 h4) (fun u h1 h2 => by omega) (hF.tr (f7.wk (by simp)))
  exact H2 _ 0 σ (Nat.zero_add _) hV (fun a b h1 h2 => by omega) (Fr.rf _ _))
