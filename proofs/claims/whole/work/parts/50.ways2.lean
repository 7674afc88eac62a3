theorem nextR_at {A : Mem} {th b t : Int} (hI : InvA A) (hb : 0 ≤ b ∧ b ≤ 7) (h : dst A th (-1) b t < 1000000) (hne : t ≠ b) : 0 ≤ nextR A th b t ∧ nextR A th b t < A 10 0 := by
  obtain ⟨k, h1, h2, -⟩ := twd_yes hI hb h hne
  omega
theorem townK_s {A : Mem} {th b a : Int} {k : Nat} (h : townK A th b a k ≠ b) : townK A th b a (k + 1) = acrS A (nextR A th b (townK A th b a k)) (townK A th b a k) := by
  show (if _ then _ else _) = _; rw [if_neg h]

def wp_X4_roadOfWay (x1 : Int) (x2 : Int) (x3 : Int) (x4 : Int) (σ : Mem) (Q : Int → Mem → Prop) : Prop :=
 ∀ P13 : Int → Int → Int → Int → Mem → Prop,
 (∀ (v3 : Int) (v4 : Int) (v5 : Int) (v6 : Int) (σ : Mem), (R32 v3 → R32 v4 → R32 v5 → R32 v6 → OKm σ →
   ((8 ≤ v6) →
     Q (-2) σ) ∧
    ((v6 < 8) →
     ∃ g10 : Mem, ∃ g11 : Nat → Txt, ∃ g12 : Int, (vwC σ g10 g11 ∧ inF σ 41 (dst g10 v3 (-1) g12) ∧ (0 ≤ v5 ∧ v5 ≤ 7)) ∧
     ∀ (u17 : Int) (σ16 : Mem), R32 u17 → OKm σ16 → (u17 = nextR g10 v3 g12 v5 ∧ σ16 = σ) →
     ((u17 ≠ (-1)) →
      ((v6 ≠ v4) →
       (0 ≤ u17 ∧ u17 < 16) ∧
       ∀ y24 : Int, y24 = (if σ16 2 u17 = v5 then σ16 3 u17 else σ16 2 u17) →
       R32 (v6 + 1) ∧ P13 v3 v4 y24 (v6 + 1) σ16) ∧
      ((v6 = v4) →
       Q u17 σ16)) ∧
     ((u17 = (-1)) →
      Q (-2) σ16))) → P13 v3 v4 v5 v6 σ) →
  ∃ g1 : Mem, ∃ g2 : Nat → Txt, (vwC σ g1 g2 ∧ (0 ≤ x2 ∧ x2 ≤ 7)) ∧
   ∀ σ6 : Mem, OKm σ6 → (inF σ6 41 (sprC g1 x3 ((-1) : Int) x2 7) ∧ Fr [41] σ σ6) →
   P13 x3 x4 x1 0 σ6
theorem mt_X4_roadOfWay {d : Nat} (hd : 2 ≤ d) {x1 : Int} {x2 : Int} {x3 : Int} {x4 : Int} {σ : Mem} {Q : Int → Mem → Prop} (hx1 : R32 x1) (hx2 : R32 x2) (hx3 : R32 x3) (hx4 : R32 x4) (hO : OKm σ) (h : wp_X4_roadOfWay x1 x2 x3 x4 σ Q) : Mt yX4_roadOfWay cX4_roadOfWay 8 (some .int) d [aR (40), aI (x1), aI (x2), aI (x3), aI (x4)] σ (QI Q) := by
  refine Mt.intro (by decide +kernel) (Nat.le_of_ble_eq_true rfl) [(0, aR (40)), (1, aI (x1)), (2, aI (x2)), (3, aI (x3)), (4, aI (x4))] rfl ?_
  unfold wp_X4_roadOfWay at h
  have h := h (fun (v3 : Int) (v4 : Int) (v5 : Int) (v6 : Int) (σ : Mem) => R32 v3 → R32 v4 → R32 v5 → R32 v6 → OKm σ → G yX4_roadOfWay cX4_roadOfWay 8 (some .int) d (QI Q) 13 [(0, aR (40)), (3, aI (v3)), (4, aI (v4)), (5, aI (v5)), (6, aI (v6))] [] σ) ?_
  · refine G_aload_n 0 rfl rfl dX4_roadOfWay_0 ?_
    refine G_iload_n 2 rfl rfl dX4_roadOfWay_1 ?_
    refine G_iload_n 3 rfl rfl dX4_roadOfWay_2 ?_
    refine G_iconst dX4_roadOfWay_3 ?_
    obtain ⟨g1, g2, c3, h⟩ := h
    refine G_callV (as := [_, _, _]) cf_X4_86 rfl rfl rfl (sp_X4_spread (d - 1) (by omega) _ hO _ hx2 _ hx3 _ (rL (-1) rfl) g1 g2 c3) (by omega) rfl rfl (Nat.le_of_ble_eq_true rfl) dX4_roadOfWay_4 ?_
    rintro _ σ6 ⟨rfl, z8⟩ o5 r4
    have h := h _ o5 z8
    refine G_iload_n 1 rfl rfl dX4_roadOfWay_7 ?_
    refine G_istore (lv' := [(5, aI (x1)), (0, aR (40)), (1, aI (x1)), (2, aI (x2)), (3, aI (x3)), (4, aI (x4))]) rfl (by decide) dX4_roadOfWay_8 ?_
    refine G_iconst dX4_roadOfWay_10 ?_
    refine G_istore (lv' := [(6, aI (0)), (5, aI (x1)), (0, aR (40)), (1, aI (x1)), (2, aI (x2)), (3, aI (x3)), (4, aI (x4))]) rfl (by decide) dX4_roadOfWay_11 ?_
    exact G_pick [2, 5, 6, 1, 0] rfl (h hx3 hx4 hx1 (rL 0 rfl) o5)
  · intro v3 v4 v5 v6 σ h hv3 hv4 hv5 hv6 hO
    have h := h hv3 hv4 hv5 hv6 hO
    refine G_iload 4 rfl dX4_roadOfWay_13 ?_
    refine G_bipush (by decide) dX4_roadOfWay_15 ?_
    refine G_icmp_ge hv6 (rL 8 rfl) dX4_roadOfWay_17 (tgt := 67) (by decide) (fun c9 => ?_) (fun c9 => ?_)
    · have h := h.1 c9
      refine G_bipush (by decide) dX4_roadOfWay_67 ?_
      exact G_iret rfl (rL (-2) rfl) dX4_roadOfWay_69 ⟨_, rfl, h⟩ hO
    · have h := h.2 c9
      refine G_aload_n 0 rfl rfl dX4_roadOfWay_20 ?_
      refine G_iload 3 rfl dX4_roadOfWay_21 ?_
      refine G_iload_n 1 rfl rfl dX4_roadOfWay_23 ?_
      obtain ⟨g10, g11, g12, c13, h⟩ := h
      refine G_callV (as := [_, _]) cf_X4_90 rfl rfl rfl (sp_X4_roadTowards (d - 1) (by omega) _ hO _ hv5 _ hv3 g10 g11 g12 c13) (by omega) rfl rfl (Nat.le_of_ble_eq_true rfl) dX4_roadOfWay_24 ?_
      rintro _ σ16 ⟨u17, rfl, z18⟩ o15 r14
      have h := h _ _ (r14 _ rfl) o15 z18
      refine G_istore (lv' := [(7, aI (u17)), (0, aR (40)), (3, aI (v3)), (4, aI (v4)), (5, aI (v5)), (6, aI (v6))]) rfl (by decide) dX4_roadOfWay_27 ?_
      refine G_iload 0 rfl dX4_roadOfWay_29 ?_
      refine G_iconst dX4_roadOfWay_31 ?_
      refine G_icmp_ne (r14 _ rfl) (rL (-1) rfl) dX4_roadOfWay_32 (tgt := 38) (by decide) (fun c19 => ?_) (fun c19 => ?_)
      · have h := h.1 c19
        refine G_iload 5 rfl dX4_roadOfWay_38 ?_
        refine G_iload 3 rfl dX4_roadOfWay_40 ?_
        refine G_icmp_ne hv6 hv4 dX4_roadOfWay_42 (tgt := 48) (by decide) (fun c20 => ?_) (fun c20 => ?_)
        · have h := h.1 c20
          refine G_aload_n 1 rfl rfl dX4_roadOfWay_48 ?_
          refine G_get (k := 0) (kd := (2, 1)) (v := aR 1) gf_X4_37 rfl rfl rfl rfl dX4_roadOfWay_49 ?_
          refine G_iload 0 rfl dX4_roadOfWay_52 ?_
          refine G_iload 4 rfl dX4_roadOfWay_54 ?_
          obtain ⟨c21, h⟩ := h
          refine G_callV (as := [_, _]) cf_X4_93 rfl rfl rfl (sp_X10_across (d - 1) (by omega) _ o15 _ (r14 _ rfl) _ hv5 c21) (by omega) rfl rfl (Nat.le_of_ble_eq_true rfl) dX4_roadOfWay_56 ?_
          rintro _ _ ⟨_, rfl, rfl, rfl⟩ o23 r22
          have h := h _ rfl
          refine G_istore (lv' := [(5, aI (((if σ16 2 u17 = v5 then σ16 3 u17 else σ16 2 u17)))), (7, aI (u17)), (0, aR (40)), (3, aI (v3)), (4, aI (v4)), (6, aI (v6))]) rfl (by decide) dX4_roadOfWay_59 ?_
          refine G_iinc (lv' := [(6, aI ((v6 + 1))), (5, aI (((if σ16 2 u17 = v5 then σ16 3 u17 else σ16 2 u17)))), (7, aI (u17)), (0, aR (40)), (3, aI (v3)), (4, aI (v4))]) (k := 5) rfl rfl (by decide) dX4_roadOfWay_61 ?_
          refine G_goto (tgt := 13) dX4_roadOfWay_64 (by decide) ?_
          obtain ⟨c25, h⟩ := h
          exact G_pick [3, 4, 5, 1, 0] rfl (h hv3 hv4 (r22 _ rfl) c25 o15)
        · have h := h.2 c20
          refine G_iload 0 rfl dX4_roadOfWay_45 ?_
          exact G_iret rfl (r14 _ rfl) dX4_roadOfWay_47 ⟨_, rfl, h⟩ o15
      · have h := h.2 c19
        refine G_bipush (by decide) dX4_roadOfWay_35 ?_
        exact G_iret rfl (rL (-2) rfl) dX4_roadOfWay_37 ⟨_, rfl, h⟩ o15

theorem sp_X4_roadOfWay (d : Nat) (hd : 2 ≤ d) (σ : Mem) (hO : OKm σ) (x1 : Int) (hx1 : R32 x1) (x2 : Int) (hx2 : R32 x2) (x3 : Int) (hx3 : R32 x3) (x4 : Int) (hx4 : R32 x4) (A : Mem) (tx : Nat → Txt) (hpre : vwC σ A tx ∧ (0 ≤ x1 ∧ x1 ≤ 7) ∧ (0 ≤ x2 ∧ x2 ≤ 7) ∧ (0 ≤ x3 ∧ x3 ≤ 99) ∧ (0 ≤ x4 ∧ x4 ≤ 8)) : Mt yX4_roadOfWay cX4_roadOfWay 8 (some .int) d [aR (40), aI (x1), aI (x2), aI (x3), aI (x4)] σ (QI (fun v σ' => v = wayS A x1 x2 x3 x4 ∧ Fr [41] σ σ')) := mt_X4_roadOfWay hd hx1 hx2 hx3 hx4 hO (by
  unfold wp_X4_roadOfWay
  intro P13 h13
  obtain ⟨hV, ha, hb, hth, hi⟩ := hpre
  have hI := hV.2.2.1
  have hc := hI.1
  refine ⟨A, tx, ⟨hV, hb⟩, ?_⟩
  intro σ6 o6 ⟨q6, f6⟩
  have hV6 : vwC σ6 A tx := hV.fr (scr41 f6)
  have hm : inF σ6 41 (dst A x3 (-1) x2) := q6
  have hd := dst_r (th := x3) (wo := -1) (a := x2) (b := x1) hI
  by_cases hfin : dst A x3 (-1) x2 x1 < 1000000
  · have hok := townK_ok hI hb ha hfin
    have H : ∀ (n k : Nat), k + n = 8 → (k : Int) ≤ x4 → P13 x3 x4 (townK A x3 x2 x1 k) (k : Int) σ6 := by
      intro n
      induction n with
      | zero =>
        intro k hk hkx
        refine h13 _ _ _ _ _ (fun _ _ _ _ _ => ⟨fun _ => ⟨?_, f6⟩, fun h => absurd h (by omega)⟩)
        unfold wayS
        rw [if_neg (fun q => q.2.2 (townK_8 hI hb ha hfin (by omega)))]
      | succ n ih =>
        intro k hk hkx
        obtain ⟨k1, k2, k3⟩ := hok k
        refine h13 _ _ _ _ _ (fun _ _ _ _ _ => ⟨fun h => absurd h (by omega), fun _ => ⟨A, tx, x2, ⟨hV6, hm, k1⟩, ?_⟩⟩)
        intro u σ1 hu hO1 ⟨eu, e1⟩
        subst e1
        by_cases hb2 : townK A x3 x2 x1 k = x2
        · have e0 : nextR A x3 x2 (townK A x3 x2 x1 k) = -1 := twd_no hI hb (Or.inl (by rw [hb2, dst_self hI hb]))
          refine ⟨fun h => absurd (eu.trans e0) h, fun _ => ⟨?_, f6⟩⟩
          have := townK_b hb2 (x4.toNat - k)
          rw [show k + (x4.toNat - k) = x4.toNat by omega] at this
          unfold wayS
          rw [if_neg (fun q => q.2.2 this)]
        · have hr := nextR_at hI hb k2 hb2
          refine ⟨fun _ => ⟨fun hne => ⟨by omega, fun y24 e24 => ⟨by unfold R32; omega, ?_⟩⟩, fun heq => ⟨?_, f6⟩⟩, fun h => absurd h (by omega)⟩
          · have s2 : σ1 2 u = A 11 u := (hV6.1.2.1 u (by omega) (by omega)).1
            have s3 : σ1 3 u = A 12 u := (hV6.1.2.1 u (by omega) (by omega)).2.1
            rw [s2, s3] at e24
            have e25 : y24 = townK A x3 x2 x1 (k + 1) := by rw [townK_s hb2, ← eu]; exact e24
            rw [e25]
            exact ih (k + 1) (by omega) (by omega)
          · unfold wayS
            have hk4 : x4.toNat = k := by omega
            rw [hk4, if_pos ⟨⟨ha, hb, hth, hi.1⟩, hfin, hb2⟩]; exact eu
    exact H 8 0 (by omega) (by omega)
  · have e0 : nextR A x3 x2 x1 = -1 := twd_no hI hb (Or.inr (by omega))
    refine h13 _ _ _ _ _ (fun _ _ _ _ _ => ⟨fun h => absurd h (by omega), fun _ => ⟨A, tx, x2, ⟨hV6, hm, ha⟩, ?_⟩⟩)
    intro u σ1 hu hO1 ⟨eu, e1⟩
    subst e1
    refine ⟨fun h => absurd (eu.trans e0) h, fun _ => ⟨?_, f6⟩⟩
    unfold wayS
    rw [if_neg (fun q => hfin q.2.1)])

def wp_X11_way (x1 : Int) (x2 : Int) (x3 : Int) (x4 : Int) (σ : Mem) (Q : Int → Mem → Prop) : Prop :=
  ((¬ (0 ≤ x1 ∧ x1 ≤ 7)) →
    Q (-2) σ) ∧
   ((0 ≤ x1 ∧ x1 ≤ 7) →
    ((¬ (0 ≤ x2 ∧ x2 ≤ 7)) →
     Q (-2) σ) ∧
    ((0 ≤ x2 ∧ x2 ≤ 7) →
     ((¬ ((0 : Int) ≤ x3 ∧ x3 ≤ (99 : Int))) →
      Q (-2) σ) ∧
     (((0 : Int) ≤ x3 ∧ x3 ≤ (99 : Int)) →
      ((¬ ((0 : Int) ≤ x4 ∧ x4 ≤ (8 : Int))) →
       Q (-2) σ) ∧
      (((0 : Int) ≤ x4 ∧ x4 ≤ (8 : Int)) →
       ∃ g18 : Mem, ∃ g19 : Nat → Txt, (vwC σ g18 g19 ∧ (0 ≤ x1 ∧ x1 ≤ 7) ∧ (0 ≤ x2 ∧ x2 ≤ 7) ∧ (0 ≤ x3 ∧ x3 ≤ 99) ∧ (0 ≤ x4 ∧ x4 ≤ 8)) ∧
       ∀ (u24 : Int) (σ23 : Mem), R32 u24 → OKm σ23 → (u24 = wayS g18 x1 x2 x3 x4 ∧ Fr [41] σ σ23) →
       Q u24 σ23))))
theorem mt_X11_way {d : Nat} (hd : 3 ≤ d) {x1 : Int} {x2 : Int} {x3 : Int} {x4 : Int} {σ : Mem} {Q : Int → Mem → Prop} (hx1 : R32 x1) (hx2 : R32 x2) (hx3 : R32 x3) (hx4 : R32 x4) (hO : OKm σ) (h : wp_X11_way x1 x2 x3 x4 σ Q) : Mt yX11_way cX11_way 6 (some .int) d [aR (0), aI (x1), aI (x2), aI (x3), aI (x4)] σ (QI Q) := by
  refine Mt.intro (by decide +kernel) (Nat.le_of_ble_eq_true rfl) [(0, aR (0)), (1, aI (x1)), (2, aI (x2)), (3, aI (x3)), (4, aI (x4))] rfl ?_
  unfold wp_X11_way at h
  refine G_iload_n 1 rfl rfl dX11_way_0 ?_
  refine G_callS (as := [_]) cf_X11_103 rfl (sp_X11_isTown (d - 1) (by omega) _ hO _ hx1) (by omega) rfl rfl (Nat.le_of_ble_eq_true rfl) dX11_way_1 ?_
  rintro _ _ ⟨_, rfl, rfl, rfl⟩ o2 r1
  refine G_if_eq (bI_R _) dX11_way_4 (tgt := 39) (by decide) (fun c3 => ?_) (fun c3 => ?_)
  · have h := h.1 ((bI_0 _).mp c3)
    refine G_iconst dX11_way_39 ?_
    refine G_istore (lv' := [(5, aI (0)), (0, aR (0)), (1, aI (x1)), (2, aI (x2)), (3, aI (x3)), (4, aI (x4))]) rfl (by decide) dX11_way_40 ?_
    refine G_iload 0 rfl dX11_way_42 ?_
    refine G_if_eq (rL 0 rfl) dX11_way_44 (tgt := 62) (by decide) (fun _ => ?_) (fun c4 => absurd c4 (by decide))
    refine G_bipush (by decide) dX11_way_62 ?_
    exact G_iret rfl (rL (-2) rfl) dX11_way_64 ⟨_, rfl, h⟩ hO
  · have h := h.2 (bI_ne c3)
    refine G_iload_n 2 rfl rfl dX11_way_7 ?_
    refine G_callS (as := [_]) cf_X11_103 rfl (sp_X11_isTown (d - 1) (by omega) _ hO _ hx2) (by omega) rfl rfl (Nat.le_of_ble_eq_true rfl) dX11_way_8 ?_
    rintro _ _ ⟨_, rfl, rfl, rfl⟩ o6 r5
    refine G_if_eq (bI_R _) dX11_way_11 (tgt := 39) (by decide) (fun c7 => ?_) (fun c7 => ?_)
    · have h := h.1 ((bI_0 _).mp c7)
      refine G_iconst dX11_way_39 ?_
      refine G_istore (lv' := [(5, aI (0)), (0, aR (0)), (1, aI (x1)), (2, aI (x2)), (3, aI (x3)), (4, aI (x4))]) rfl (by decide) dX11_way_40 ?_
      refine G_iload 0 rfl dX11_way_42 ?_
      refine G_if_eq (rL 0 rfl) dX11_way_44 (tgt := 62) (by decide) (fun _ => ?_) (fun c8 => absurd c8 (by decide))
      refine G_bipush (by decide) dX11_way_62 ?_
      exact G_iret rfl (rL (-2) rfl) dX11_way_64 ⟨_, rfl, h⟩ hO
    · have h := h.2 (bI_ne c7)
      refine G_iload_n 3 rfl rfl dX11_way_14 ?_
      refine G_iconst dX11_way_15 ?_
      refine G_bipush (by decide) dX11_way_16 ?_
      refine G_callS (as := [_, _, _]) cf_X11_107 rfl (sp_X11_within (d - 1) (by omega) _ hO _ hx3 _ (rL 0 rfl) _ (rL 99 rfl)) (by omega) rfl rfl (Nat.le_of_ble_eq_true rfl) dX11_way_18 ?_
      rintro _ _ ⟨_, rfl, rfl, rfl⟩ o10 r9
      refine G_if_eq (bI_R _) dX11_way_21 (tgt := 39) (by decide) (fun c11 => ?_) (fun c11 => ?_)
      · have h := h.1 ((bI_0 _).mp c11)
        refine G_iconst dX11_way_39 ?_
        refine G_istore (lv' := [(5, aI (0)), (0, aR (0)), (1, aI (x1)), (2, aI (x2)), (3, aI (x3)), (4, aI (x4))]) rfl (by decide) dX11_way_40 ?_
        refine G_iload 0 rfl dX11_way_42 ?_
        refine G_if_eq (rL 0 rfl) dX11_way_44 (tgt := 62) (by decide) (fun _ => ?_) (fun c12 => absurd c12 (by decide))
        refine G_bipush (by decide) dX11_way_62 ?_
        exact G_iret rfl (rL (-2) rfl) dX11_way_64 ⟨_, rfl, h⟩ hO
      · have h := h.2 (bI_ne c11)
        refine G_iload 4 rfl dX11_way_24 ?_
        refine G_iconst dX11_way_26 ?_
        refine G_bipush (by decide) dX11_way_27 ?_
        refine G_callS (as := [_, _, _]) cf_X11_107 rfl (sp_X11_within (d - 1) (by omega) _ hO _ hx4 _ (rL 0 rfl) _ (rL 8 rfl)) (by omega) rfl rfl (Nat.le_of_ble_eq_true rfl) dX11_way_29 ?_
        rintro _ _ ⟨_, rfl, rfl, rfl⟩ o14 r13
        refine G_if_eq (bI_R _) dX11_way_32 (tgt := 39) (by decide) (fun c15 => ?_) (fun c15 => ?_)
        · have h := h.1 ((bI_0 _).mp c15)
          refine G_iconst dX11_way_39 ?_
          refine G_istore (lv' := [(5, aI (0)), (0, aR (0)), (1, aI (x1)), (2, aI (x2)), (3, aI (x3)), (4, aI (x4))]) rfl (by decide) dX11_way_40 ?_
          refine G_iload 0 rfl dX11_way_42 ?_
          refine G_if_eq (rL 0 rfl) dX11_way_44 (tgt := 62) (by decide) (fun _ => ?_) (fun c16 => absurd c16 (by decide))
          refine G_bipush (by decide) dX11_way_62 ?_
          exact G_iret rfl (rL (-2) rfl) dX11_way_64 ⟨_, rfl, h⟩ hO
        · have h := h.2 (bI_ne c15)
          refine G_iconst dX11_way_35 ?_
          refine G_goto (tgt := 40) dX11_way_36 (by decide) ?_
          refine G_istore (lv' := [(5, aI (1)), (0, aR (0)), (1, aI (x1)), (2, aI (x2)), (3, aI (x3)), (4, aI (x4))]) rfl (by decide) dX11_way_40 ?_
          refine G_iload 0 rfl dX11_way_42 ?_
          refine G_if_eq (rL 1 rfl) dX11_way_44 (tgt := 62) (by decide) (fun c17 => absurd c17 (by decide)) (fun _ => ?_)
          refine G_aload_n 1 rfl rfl dX11_way_47 ?_
          refine G_get (k := 11) (kd := (2, 40)) (v := aR 40) gf_X11_85 rfl rfl rfl rfl dX11_way_48 ?_
          refine G_iload_n 2 rfl rfl dX11_way_51 ?_
          refine G_iload_n 3 rfl rfl dX11_way_52 ?_
          refine G_iload_n 4 rfl rfl dX11_way_53 ?_
          refine G_iload 5 rfl dX11_way_54 ?_
          obtain ⟨g18, g19, c20, h⟩ := h
          refine G_callV (as := [_, _, _, _]) cf_X11_255 rfl rfl rfl (sp_X4_roadOfWay (d - 1) (by omega) _ hO _ hx1 _ hx2 _ hx3 _ hx4 g18 g19 c20) (by omega) rfl rfl (Nat.le_of_ble_eq_true rfl) dX11_way_56 ?_
          rintro _ σ23 ⟨u24, rfl, z25⟩ o22 r21
          have h := h _ _ (r21 _ rfl) o22 z25
          refine G_goto (tgt := 64) dX11_way_59 (by decide) ?_
          exact G_iret rfl (r21 _ rfl) dX11_way_64 ⟨_, rfl, h⟩ o22

theorem sp_X11_way (d : Nat) (hd : 3 ≤ d) (σ : Mem) (hO : OKm σ) (x1 : Int) (hx1 : R32 x1) (x2 : Int) (hx2 : R32 x2) (x3 : Int) (hx3 : R32 x3) (x4 : Int) (hx4 : R32 x4) (A : Mem) (tx : Nat → Txt) (hpre : vwC σ A tx) : Mt yX11_way cX11_way 6 (some .int) d [aR (0), aI (x1), aI (x2), aI (x3), aI (x4)] σ (QI (fun v σ' => v = wayS A x1 x2 x3 x4 ∧ Fr ScrC σ σ')) := mt_X11_way hd hx1 hx2 hx3 hx4 hO (by
  unfold wp_X11_way
  have hV := hpre
  have hI := hV.2.2.1
  have no : ∀ (P : Prop), (((0 ≤ x1 ∧ x1 ≤ 7) ∧ (0 ≤ x2 ∧ x2 ≤ 7) ∧ (0 ≤ x3 ∧ x3 ≤ 99) ∧ 0 ≤ x4) → P) → ¬ P → (-2 : Int) = wayS A x1 x2 x3 x4 ∧ Fr ScrC σ σ := fun P h1 h2 => ⟨by unfold wayS; rw [if_neg (fun q => h2 (h1 q.1))], Fr.rf _ _⟩
  refine ⟨fun h => no _ (fun q => q.1) h, fun h1 => ⟨fun h => no _ (fun q => q.2.1) h, fun h2 => ⟨fun h => no _ (fun q => q.2.2.1) h, fun h3 => ⟨fun h => ?_, fun h4 => ⟨A, tx, ⟨hV, h1, h2, h3, h4⟩, ?_⟩⟩⟩⟩⟩
  · refine ⟨?_, Fr.rf _ _⟩
    unfold wayS
    rw [if_neg (fun q => q.2.2 (townK_8 hI h2 h1 q.2.1 (by have := q.1.2.2.2; omega)))]
  · intro u σ1 hu hO1 ⟨eu, hF⟩
    exact ⟨eu, scr41 hF⟩)

def wp_X12_way (x1 : Int) (x2 : Int) (x3 : Int) (x4 : Int) (σ : Mem) (Q : Int → Mem → Prop) : Prop :=
 ∀ P32 : Int → Int → Int → Int → Int → Mem → Prop,
 ∀ P41 : Int → Int → Int → Int → Int → Int → Mem → Prop,
 (∀ (v2 : Int) (v3 : Int) (v4 : Int) (v5 : Int) (v6 : Int) (σ : Mem), (R32 v2 → R32 v3 → R32 v4 → R32 v5 → R32 v6 → OKm σ →
   ((v5 = v2) →
     Q (-2) σ) ∧
    ((v5 ≠ v2) →
     P41 v2 v3 v4 v5 v6 0 σ)) → P32 v2 v3 v4 v5 v6 σ) →
 (∀ (v2 : Int) (v3 : Int) (v4 : Int) (v5 : Int) (v6 : Int) (v7 : Int) (σ : Mem), (R32 v2 → R32 v3 → R32 v4 → R32 v5 → R32 v6 → R32 v7 → OKm σ →
   (0 ≤ (11 + v7) ∧ (11 + v7) < 2119) ∧
    (((σ 75 (11 + v7)) < v3) →
     R32 (v7 + 1) ∧ P41 v2 v3 v4 v5 v6 (v7 + 1) σ) ∧
    ((v3 ≤ (σ 75 (11 + v7))) →
     (0 ≤ v7 ∧ v7 < 16) ∧
     (((if σ 75 (39 + 4 * v7) = v5 then σ 75 (39 + 4 * v7 + 1) else if σ 75 (39 + 4 * v7 + 1) = v5 then σ 75 (39 + 4 * v7) else -1) = (-1)) →
      R32 (v7 + 1) ∧ P41 v2 v3 v4 v5 v6 (v7 + 1) σ) ∧
     (((if σ 75 (39 + 4 * v7) = v5 then σ 75 (39 + 4 * v7 + 1) else if σ 75 (39 + 4 * v7 + 1) = v5 then σ 75 (39 + 4 * v7) else -1) ≠ (-1)) →
      (0 ≤ v7 ∧ v7 < 16) ∧
      (0 ≤ (if σ 75 (39 + 4 * v7) = v5 then σ 75 (39 + 4 * v7 + 1) else if σ 75 (39 + 4 * v7 + 1) = v5 then σ 75 (39 + 4 * v7) else -1) ∧ (if σ 75 (39 + 4 * v7) = v5 then σ 75 (39 + 4 * v7 + 1) else if σ 75 (39 + 4 * v7 + 1) = v5 then σ 75 (39 + 4 * v7) else -1) < 8) ∧
      (0 ≤ v5 ∧ v5 < 8) ∧
      (0 ≤ v7 ∧ v7 < 16 ∧ 0 ≤ (2 : Int) ∧ (2 : Int) < 4) ∧
      R32 ((σ 84 v5) - (σ 75 (39 + 4 * v7 + (2 : Int)))) ∧
      (((σ 84 (if σ 75 (39 + 4 * v7) = v5 then σ 75 (39 + 4 * v7 + 1) else if σ 75 (39 + 4 * v7 + 1) = v5 then σ 75 (39 + 4 * v7) else -1)) = ((σ 84 v5) - (σ 75 (39 + 4 * v7 + (2 : Int))))) →
       ((v6 ≠ v4) →
        (0 ≤ v7 ∧ v7 < 16) ∧
        ∀ y42 : Int, y42 = (if σ 75 (39 + 4 * v7) = v5 then σ 75 (39 + 4 * v7 + 1) else if σ 75 (39 + 4 * v7 + 1) = v5 then σ 75 (39 + 4 * v7) else -1) →
        R32 (v6 + 1) ∧ P32 v2 v3 v4 y42 (v6 + 1) σ) ∧
       ((v6 = v4) →
        Q v7 σ)) ∧
      (((σ 84 (if σ 75 (39 + 4 * v7) = v5 then σ 75 (39 + 4 * v7 + 1) else if σ 75 (39 + 4 * v7 + 1) = v5 then σ 75 (39 + 4 * v7) else -1)) ≠ ((σ 84 v5) - (σ 75 (39 + 4 * v7 + (2 : Int))))) →
       R32 (v7 + 1) ∧ P41 v2 v3 v4 v5 v6 (v7 + 1) σ)))) → P41 v2 v3 v4 v5 v6 v7 σ) →
  ((x4 < 0) →
    Q (-2) σ) ∧
   ((0 ≤ x4) →
    ∃ g2 : Mem, ∃ g3 : Nat → Txt, (vwM σ g2 g3) ∧
    ∀ (u8 : Int) (σ7 : Mem), R32 u8 → OKm σ7 → (u8 = milesS g2 x1 x2 x3 ∧ vwM σ7 g2 g3 ∧ Fr F84 σ σ7) →
    ((1 ≤ u8) →
     ∃ g11 : Mem, ∃ g12 : Nat → Txt, (vwM σ7 g11 g12 ∧ (0 ≤ x2 ∧ x2 ≤ 7)) ∧
     ∀ σ16 : Mem, OKm σ16 → (inF σ16 84 (sprM g11 x3 ((-1) : Int) x2 8) ∧ vwM σ16 g11 g12 ∧ Fr [84] σ7 σ16) →
     P32 x2 x3 x4 x1 0 σ16) ∧
    ((u8 < 1) →
     Q (-2) σ7))
theorem mt_X12_way {d : Nat} (hd : 4 ≤ d) {x1 : Int} {x2 : Int} {x3 : Int} {x4 : Int} {σ : Mem} {Q : Int → Mem → Prop} (hx1 : R32 x1) (hx2 : R32 x2) (hx3 : R32 x3) (hx4 : R32 x4) (hO : OKm σ) (h : wp_X12_way x1 x2 x3 x4 σ Q) : Mt yX12_way cX12_way 8 (some .int) d [aR (74), aI (x1), aI (x2), aI (x3), aI (x4)] σ (QI Q) := by
  refine Mt.intro (by decide +kernel) (Nat.le_of_ble_eq_true rfl) [(0, aR (74)), (1, aI (x1)), (2, aI (x2)), (3, aI (x3)), (4, aI (x4))] rfl ?_
  unfold wp_X12_way at h
  have h := h (fun (v2 : Int) (v3 : Int) (v4 : Int) (v5 : Int) (v6 : Int) (σ : Mem) => R32 v2 → R32 v3 → R32 v4 → R32 v5 → R32 v6 → OKm σ → G yX12_way cX12_way 8 (some .int) d (QI Q) 32 [(0, aR (74)), (2, aI (v2)), (3, aI (v3)), (4, aI (v4)), (5, aI (v5)), (6, aI (v6))] [] σ)
    (fun (v2 : Int) (v3 : Int) (v4 : Int) (v5 : Int) (v6 : Int) (v7 : Int) (σ : Mem) => R32 v2 → R32 v3 → R32 v4 → R32 v5 → R32 v6 → R32 v7 → OKm σ → G yX12_way cX12_way 8 (some .int) d (QI Q) 41 [(0, aR (74)), (2, aI (v2)), (3, aI (v3)), (4, aI (v4)), (5, aI (v5)), (6, aI (v6)), (7, aI (v7))] [] σ) ?_ ?_
  · refine G_iload 4 rfl dX12_way_0 ?_
    refine G_if_lt hx4 dX12_way_2 (tgt := 16) (by decide) (fun c1 => ?_) (fun c1 => ?_)
    · have h := h.1 c1
      refine G_bipush (by decide) dX12_way_16 ?_
      exact G_iret rfl (rL (-2) rfl) dX12_way_18 ⟨_, rfl, h⟩ hO
    · have h := h.2 c1
      refine G_aload_n 0 rfl rfl dX12_way_5 ?_
      refine G_iload_n 1 rfl rfl dX12_way_6 ?_
      refine G_iload_n 2 rfl rfl dX12_way_7 ?_
      refine G_iload_n 3 rfl rfl dX12_way_8 ?_
      obtain ⟨g2, g3, c4, h⟩ := h
      refine G_callV (as := [_, _, _]) cf_X12_419 rfl rfl rfl (sp_X12_miles (d - 1) (by omega) _ hO _ hx1 _ hx2 _ hx3 g2 g3 c4) (by omega) rfl rfl (Nat.le_of_ble_eq_true rfl) dX12_way_9 ?_
      rintro _ σ7 ⟨u8, rfl, z9⟩ o6 r5
      have h := h _ _ (r5 _ rfl) o6 z9
      refine G_iconst dX12_way_12 ?_
      refine G_icmp_ge (r5 _ rfl) (rL 1 rfl) dX12_way_13 (tgt := 19) (by decide) (fun c10 => ?_) (fun c10 => ?_)
      · have h := h.1 c10
        refine G_aload_n 0 rfl rfl dX12_way_19 ?_
        refine G_iload_n 2 rfl rfl dX12_way_20 ?_
        refine G_iload_n 3 rfl rfl dX12_way_21 ?_
        refine G_iconst dX12_way_22 ?_
        obtain ⟨g11, g12, c13, h⟩ := h
        refine G_callV (as := [_, _, _]) cf_X12_413 rfl rfl rfl (sp_X12_layFar (d - 1) (by omega) _ o6 _ hx2 _ hx3 _ (rL (-1) rfl) g11 g12 c13) (by omega) rfl rfl (Nat.le_of_ble_eq_true rfl) dX12_way_23 ?_
        rintro _ σ16 ⟨rfl, z18⟩ o15 r14
        have h := h _ o15 z18
        refine G_iload_n 1 rfl rfl dX12_way_26 ?_
        refine G_istore (lv' := [(5, aI (x1)), (0, aR (74)), (1, aI (x1)), (2, aI (x2)), (3, aI (x3)), (4, aI (x4))]) rfl (by decide) dX12_way_27 ?_
        refine G_iconst dX12_way_29 ?_
        refine G_istore (lv' := [(6, aI (0)), (5, aI (x1)), (0, aR (74)), (1, aI (x1)), (2, aI (x2)), (3, aI (x3)), (4, aI (x4))]) rfl (by decide) dX12_way_30 ?_
        exact G_pick [2, 4, 5, 6, 1, 0] rfl (h hx2 hx3 hx4 hx1 (rL 0 rfl) o15)
      · have h := h.2 c10
        refine G_bipush (by decide) dX12_way_16 ?_
        exact G_iret rfl (rL (-2) rfl) dX12_way_18 ⟨_, rfl, h⟩ o6
  · intro v2 v3 v4 v5 v6 σ h hv2 hv3 hv4 hv5 hv6 hO
    have h := h hv2 hv3 hv4 hv5 hv6 hO
    refine G_iload 4 rfl dX12_way_32 ?_
    refine G_iload_n 1 rfl rfl dX12_way_34 ?_
    refine G_icmp_eq hv5 hv2 dX12_way_35 (tgt := 130) (by decide) (fun c19 => ?_) (fun c19 => ?_)
    · have h := h.1 c19
      refine G_bipush (by decide) dX12_way_130 ?_
      exact G_iret rfl (rL (-2) rfl) dX12_way_132 ⟨_, rfl, h⟩ hO
    · have h := h.2 c19
      refine G_iconst dX12_way_38 ?_
      refine G_istore (lv' := [(7, aI (0)), (0, aR (74)), (2, aI (v2)), (3, aI (v3)), (4, aI (v4)), (5, aI (v5)), (6, aI (v6))]) rfl (by decide) dX12_way_39 ?_
      exact G_pick [1, 2, 3, 4, 5, 6, 0] rfl (h hv2 hv3 hv4 hv5 hv6 (rL 0 rfl) hO)
  · intro v2 v3 v4 v5 v6 v7 σ h hv2 hv3 hv4 hv5 hv6 hv7 hO
    have h := h hv2 hv3 hv4 hv5 hv6 hv7 hO
    refine G_aload_n 0 rfl rfl dX12_way_41 ?_
    refine G_get (k := 0) (kd := (2, 75)) (v := aR 75) gf_X12_7 rfl rfl rfl rfl dX12_way_42 ?_
    refine G_bipush (by decide) dX12_way_45 ?_
    refine G_iload 6 rfl dX12_way_47 ?_
    refine G_iadd dX12_way_49 ?_
    obtain ⟨c20, h⟩ := h
    refine G_iald (n := 2119) rfl c20.1 c20.2 dX12_way_50 ?_
    refine G_iload_n 2 rfl rfl dX12_way_51 ?_
    refine G_icmp_lt (OKm.i hO 75 (11 + v7) (isLg_row (show shp 75 = (1, 2119, []) from rfl) _)) hv3 dX12_way_52 (tgt := 98) (by decide) (fun c21 => ?_) (fun c21 => ?_)
    · have h := h.1 c21
      refine G_iinc (lv' := [(7, aI ((v7 + 1))), (0, aR (74)), (2, aI (v2)), (3, aI (v3)), (4, aI (v4)), (5, aI (v5)), (6, aI (v6))]) (k := 6) rfl rfl (by decide) dX12_way_98 ?_
      refine G_goto (tgt := 41) dX12_way_101 (by decide) ?_
      obtain ⟨c22, h⟩ := h
      exact G_pick [1, 2, 3, 4, 5, 6, 0] rfl (h hv2 hv3 hv4 hv5 hv6 c22 hO)
    · have h := h.2 c21
      refine G_aload_n 0 rfl rfl dX12_way_55 ?_
      refine G_iload 6 rfl dX12_way_56 ?_
      refine G_iload 4 rfl dX12_way_58 ?_
      obtain ⟨c23, h⟩ := h
      refine G_callV (as := [_, _]) cf_X12_339 rfl rfl rfl (sp_X12_other (d - 1) (by omega) _ hO _ hv7 _ hv5 c23) (by omega) rfl rfl (Nat.le_of_ble_eq_true rfl) dX12_way_60 ?_
      rintro _ _ ⟨_, rfl, rfl, rfl⟩ o25 r24
      refine G_iconst dX12_way_63 ?_
      refine G_icmp_eq (r24 _ rfl) (rL (-1) rfl) dX12_way_64 (tgt := 98) (by decide) (fun c26 => ?_) (fun c26 => ?_)
      · have h := h.1 c26
        refine G_iinc (lv' := [(7, aI ((v7 + 1))), (0, aR (74)), (2, aI (v2)), (3, aI (v3)), (4, aI (v4)), (5, aI (v5)), (6, aI (v6))]) (k := 6) rfl rfl (by decide) dX12_way_98 ?_
        refine G_goto (tgt := 41) dX12_way_101 (by decide) ?_
        obtain ⟨c27, h⟩ := h
        exact G_pick [1, 2, 3, 4, 5, 6, 0] rfl (h hv2 hv3 hv4 hv5 hv6 c27 hO)
      · have h := h.2 c26
        refine G_aload_n 0 rfl rfl dX12_way_67 ?_
        refine G_get (k := 26) (kd := (2, 84)) (v := aR 84) gf_X12_50 rfl rfl rfl rfl dX12_way_68 ?_
        refine G_aload_n 0 rfl rfl dX12_way_71 ?_
        refine G_iload 6 rfl dX12_way_72 ?_
        refine G_iload 4 rfl dX12_way_74 ?_
        obtain ⟨c28, h⟩ := h
        refine G_callV (as := [_, _]) cf_X12_339 rfl rfl rfl (sp_X12_other (d - 1) (by omega) _ hO _ hv7 _ hv5 c28) (by omega) rfl rfl (Nat.le_of_ble_eq_true rfl) dX12_way_76 ?_
        rintro _ _ ⟨_, rfl, rfl, rfl⟩ o30 r29
        obtain ⟨c31, h⟩ := h
        refine G_iald (n := 8) rfl c31.1 c31.2 dX12_way_79 ?_
        refine G_aload_n 0 rfl rfl dX12_way_80 ?_
        refine G_get (k := 26) (kd := (2, 84)) (v := aR 84) gf_X12_50 rfl rfl rfl rfl dX12_way_81 ?_
        refine G_iload 4 rfl dX12_way_84 ?_
        obtain ⟨c32, h⟩ := h
        refine G_iald (n := 8) rfl c32.1 c32.2 dX12_way_86 ?_
        refine G_aload_n 0 rfl rfl dX12_way_87 ?_
        refine G_iload 6 rfl dX12_way_88 ?_
        refine G_iconst dX12_way_90 ?_
        obtain ⟨c33, h⟩ := h
        refine G_callV (as := [_, _]) cf_X12_85 rfl rfl rfl (sp_X12_told (d - 1) (by omega) _ hO _ hv7 _ (rL 2 rfl) c33) (by omega) rfl rfl (Nat.le_of_ble_eq_true rfl) dX12_way_91 ?_
        rintro _ _ ⟨_, rfl, rfl, rfl⟩ o35 r34
        refine G_isub dX12_way_94 ?_
        obtain ⟨c36, h⟩ := h
        refine G_icmp_eq (OKm.i hO 84 (if σ 75 (39 + 4 * v7) = v5 then σ 75 (39 + 4 * v7 + 1) else if σ 75 (39 + 4 * v7 + 1) = v5 then σ 75 (39 + 4 * v7) else -1) (isLg_row (show shp 84 = (1, 8, []) from rfl) _)) c36 dX12_way_95 (tgt := 104) (by decide) (fun c37 => ?_) (fun c37 => ?_)
        · have h := h.1 c37
          refine G_iload 5 rfl dX12_way_104 ?_
          refine G_iload 3 rfl dX12_way_106 ?_
          refine G_icmp_ne hv6 hv4 dX12_way_108 (tgt := 114) (by decide) (fun c38 => ?_) (fun c38 => ?_)
          · have h := h.1 c38
            refine G_aload_n 0 rfl rfl dX12_way_114 ?_
            refine G_iload 6 rfl dX12_way_115 ?_
            refine G_iload 4 rfl dX12_way_117 ?_
            obtain ⟨c39, h⟩ := h
            refine G_callV (as := [_, _]) cf_X12_339 rfl rfl rfl (sp_X12_other (d - 1) (by omega) _ hO _ hv7 _ hv5 c39) (by omega) rfl rfl (Nat.le_of_ble_eq_true rfl) dX12_way_119 ?_
            rintro _ _ ⟨_, rfl, rfl, rfl⟩ o41 r40
            have h := h _ rfl
            refine G_istore (lv' := [(5, aI (((if σ 75 (39 + 4 * v7) = v5 then σ 75 (39 + 4 * v7 + 1) else if σ 75 (39 + 4 * v7 + 1) = v5 then σ 75 (39 + 4 * v7) else -1)))), (0, aR (74)), (2, aI (v2)), (3, aI (v3)), (4, aI (v4)), (6, aI (v6)), (7, aI (v7))]) rfl (by decide) dX12_way_122 ?_
            refine G_iinc (lv' := [(6, aI ((v6 + 1))), (5, aI (((if σ 75 (39 + 4 * v7) = v5 then σ 75 (39 + 4 * v7 + 1) else if σ 75 (39 + 4 * v7 + 1) = v5 then σ 75 (39 + 4 * v7) else -1)))), (0, aR (74)), (2, aI (v2)), (3, aI (v3)), (4, aI (v4)), (7, aI (v7))]) (k := 5) rfl rfl (by decide) dX12_way_124 ?_
            refine G_goto (tgt := 32) dX12_way_127 (by decide) ?_
            obtain ⟨c43, h⟩ := h
            exact G_pick [2, 3, 4, 5, 1, 0] rfl (h hv2 hv3 hv4 (r40 _ rfl) c43 hO)
          · have h := h.2 c38
            refine G_iload 6 rfl dX12_way_111 ?_
            exact G_iret rfl hv7 dX12_way_113 ⟨_, rfl, h⟩ hO
        · have h := h.2 c37
          refine G_iinc (lv' := [(7, aI ((v7 + 1))), (0, aR (74)), (2, aI (v2)), (3, aI (v3)), (4, aI (v4)), (5, aI (v5)), (6, aI (v6))]) (k := 6) rfl rfl (by decide) dX12_way_98 ?_
          refine G_goto (tgt := 41) dX12_way_101 (by decide) ?_
          obtain ⟨c44, h⟩ := h
          exact G_pick [1, 2, 3, 4, 5, 6, 0] rfl (h hv2 hv3 hv4 hv5 hv6 c44 hO)

theorem sp_X12_way (d : Nat) (hd : 4 ≤ d) (σ : Mem) (hO : OKm σ) (x1 : Int) (hx1 : R32 x1) (x2 : Int) (hx2 : R32 x2) (x3 : Int) (hx3 : R32 x3) (x4 : Int) (hx4 : R32 x4) (A : Mem) (tx : Nat → Txt) (hpre : vwM σ A tx) : Mt yX12_way cX12_way 8 (some .int) d [aR (74), aI (x1), aI (x2), aI (x3), aI (x4)] σ (QI (fun v σ' => v = wayS A x1 x2 x3 x4 ∧ vwM σ' A tx ∧ Fr F84 σ σ')) := mt_X12_way hd hx1 hx2 hx3 hx4 hO (by
  unfold wp_X12_way
  intro P32 P41 h32 h41
  have hV := hpre
  have hI := hV.2.2.1
  have hc := hI.1
  refine ⟨fun h => ⟨by unfold wayS; rw [if_neg (fun q => by have := q.1.2.2.2; omega)], hV, Fr.rf _ _⟩, fun h0 => ⟨A, tx, hV, ?_⟩⟩
  intro u8 σ7 hu8 hO7 ⟨eu8, hV7, hF7⟩
  have hmi : 1 ≤ milesS A x1 x2 x3 ↔ ((0 ≤ x1 ∧ x1 ≤ 7) ∧ (0 ≤ x2 ∧ x2 ≤ 7) ∧ (0 ≤ x3 ∧ x3 ≤ 99)) ∧ dst A x3 (-1) x1 x2 < 1000000 ∧ 1 ≤ dst A x3 (-1) x1 x2 := by
    unfold milesS
    constructor
    · intro h
      by_cases q : (0 ≤ x1 ∧ x1 ≤ 7) ∧ (0 ≤ x2 ∧ x2 ≤ 7) ∧ (0 ≤ x3 ∧ x3 ≤ 99)
      · rw [if_pos q] at h
        by_cases q2 : dst A x3 (-1) x1 x2 < 1000000
        · rw [if_pos q2] at h; exact ⟨q, q2, h⟩
        · rw [if_neg q2] at h; omega
      · rw [if_neg q] at h; omega
    · intro h; rw [if_pos h.1, if_pos h.2.1]; exact h.2.2
  refine ⟨fun h1 => ?_, fun h1 => ⟨?_, hV7, hF7⟩⟩
  rotate_left
  · unfold wayS
    rw [if_neg (fun q => ?_)]
    obtain ⟨⟨q1, q2, q3, q4⟩, q5, q6⟩ := q
    have : 1 ≤ milesS A x1 x2 x3 := hmi.mpr ⟨⟨q1, q2, q3⟩, by rw [dst_sm hI q1 q2]; exact q5, by
      have hr := dst_r (th := x3) (wo := -1) (a := x1) (b := x2) hI
      by_cases e : dst A x3 (-1) x1 x2 = 0
      · exfalso
        have e2 := dst_ne0 hI e
        have : townK A x3 x2 x1 0 = x2 := by show x1 = x2; exact e2.symm
        have := townK_b this x4.toNat
        rw [Nat.zero_add] at this
        exact q6 this
      · omega⟩
    omega
  rw [eu8] at h1
  obtain ⟨⟨ha, hb, hth⟩, hfin, hpos⟩ := hmi.mp h1
  rw [dst_sm hI ha hb] at hfin
  refine ⟨A, tx, ⟨hV7, hb⟩, ?_⟩
  intro σ16 hO16 ⟨q16, hV16, f16⟩
  have hm : inF σ16 84 (dst A x3 (-1) x2) := fun t h1 h2 => by rw [q16 t h1 h2]; exact dst_M hI hb
  have hF : Fr F84 σ σ16 := hF7.tr (f16.wk (by simp))
  have hok := townK_ok hI hb ha hfin
  have H : ∀ (n k : Nat), k + n = 9 → (k : Int) ≤ x4 → P32 x2 x3 x4 (townK A x3 x2 x1 k) (k : Int) σ16 := by
    intro n
    induction n with
    | zero =>
      intro k hk hkx
      have e8 := townK_8 hI hb ha hfin (n := k) (by omega)
      refine h32 _ _ _ _ _ _ (fun _ _ _ _ _ _ => ⟨fun _ => ⟨?_, hV16, hF⟩, fun h => absurd e8 h⟩)
      unfold wayS
      rw [if_neg (fun q => q.2.2 (townK_8 hI hb ha hfin (by omega)))]
    | succ n ih =>
      intro k hk hkx
      obtain ⟨k1, k2, k3⟩ := hok k
      refine h32 _ _ _ _ _ _ (fun _ _ _ _ _ _ => ⟨fun hbb => ⟨?_, hV16, hF⟩, fun hb2 => ?_⟩)
      · have := townK_b hbb (x4.toNat - k)
        rw [show k + (x4.toNat - k) = x4.toNat by omega] at this
        unfold wayS
        rw [if_neg (fun q => q.2.2 this)]
      · obtain ⟨rr, r1, r2, r3, r4⟩ := twd_yes hI hb k2 hb2
        have H41 : ∀ (m i : Nat), i + m = rr → P41 x2 x3 x4 (townK A x3 x2 x1 k) (k : Int) (i : Int) σ16 := by
          intro m
          induction m with
          | zero =>
            intro i hi
            have hi : i = rr := by omega
            subst hi
            have t1 := hV16.1.2.1 (i : Int) (by omega) r2
            have n1 := hV16.2.1.2.1 (i : Int) (by omega) r2
            have hl := hI.2.1 (i : Int) (by omega) r2
            have r3 := of_decide_eq_true r3
            have hac := acrS_r (t := townK A x3 x2 x1 k) hI (r := (i : Int)) ⟨by omega, r2⟩
            have eac : (if A 11 (i : Int) = townK A x3 x2 x1 k then A 12 (i : Int) else if A 12 (i : Int) = townK A x3 x2 x1 k then A 11 (i : Int) else -1) = acrS A (i : Int) (townK A x3 x2 x1 k) := by
              unfold acrS
              by_cases q : A 11 (i : Int) = townK A x3 x2 x1 k
              · rw [if_pos q, if_pos q]
              · rw [if_neg q, if_neg q, if_pos (by omega)]
            refine h41 _ _ _ _ _ _ _ (fun _ _ _ _ _ _ _ => ?_)
            rw [t1.1, t1.2.1, t1.2.2.1, n1, eac, hm _ hac.1 (by omega), hm _ k1.1 (by omega)]
            have hdt := dst_r (th := x3) (wo := -1) (a := x2) (b := townK A x3 x2 x1 k) hI
            refine ⟨by omega, fun h => absurd h (by omega), fun _ => ⟨by omega, fun h => absurd h (by omega), fun _ => ⟨by omega, by omega, by omega, by omega, by unfold R32; omega, fun _ => ⟨fun hne => ⟨by omega, fun y42 e42 => ⟨by unfold R32; omega, ?_⟩⟩, fun heq => ⟨?_, hV16, hF⟩⟩, fun h => absurd (by omega) h⟩⟩⟩
            · rw [e42]
              have := ih (k + 1) (by omega) (by omega)
              rw [townK_s hb2, r1] at this
              exact this
            · unfold wayS
              have hk4 : x4.toNat = k := by omega
              rw [hk4, if_pos ⟨⟨ha, hb, hth, h0⟩, hfin, hb2⟩, r1]
          | succ m ihm =>
            intro i hi
            have t1 := hV16.1.2.1 (i : Int) (by omega) (by omega)
            have n1 := hV16.2.1.2.1 (i : Int) (by omega) (by omega)
            have hl := hI.2.1 (i : Int) (by omega) (by omega)
            have hno := of_decide_eq_false (r4 i (by omega))
            have hac := acrS_r (t := townK A x3 x2 x1 k) hI (r := (i : Int)) ⟨by omega, by omega⟩
            have nx : R32 ((i : Int) + 1) ∧ P41 x2 x3 x4 (townK A x3 x2 x1 k) (k : Int) ((i : Int) + 1) σ16 := ⟨by unfold R32; omega, ihm (i + 1) (by omega)⟩
            refine h41 _ _ _ _ _ _ _ (fun _ _ _ _ _ _ _ => ?_)
            rw [t1.1, t1.2.1, t1.2.2.1, n1]
            refine ⟨by omega, fun _ => nx, fun hth2 => ⟨by omega, fun _ => nx, fun hne => ?_⟩⟩
            have htch : A 11 (i : Int) = townK A x3 x2 x1 k ∨ A 12 (i : Int) = townK A x3 x2 x1 k := by
              by_cases q1 : A 11 (i : Int) = townK A x3 x2 x1 k
              · exact Or.inl q1
              · by_cases q2 : A 12 (i : Int) = townK A x3 x2 x1 k
                · exact Or.inr q2
                · rw [if_neg q1, if_neg q2] at hne; exact absurd rfl hne
            have eac : (if A 11 (i : Int) = townK A x3 x2 x1 k then A 12 (i : Int) else if A 12 (i : Int) = townK A x3 x2 x1 k then A 11 (i : Int) else -1) = acrS A (i : Int) (townK A x3 x2 x1 k) := by
              unfold acrS
              by_cases q : A 11 (i : Int) = townK A x3 x2 x1 k
              · rw [if_pos q, if_pos q]
              · rw [if_neg q, if_neg q, if_pos (by omega)]
            rw [eac, hm _ hac.1 (by omega), hm _ k1.1 (by omega)]
            have hdt := dst_r (th := x3) (wo := -1) (a := x2) (b := townK A x3 x2 x1 k) hI
            refine ⟨by omega, by omega, by omega, by omega, by unfold R32; omega, fun he => ?_, fun _ => nx⟩
            exact absurd ⟨hth2, htch, by omega, by omega⟩ hno
        exact H41 rr 0 (by omega)
  exact H 9 0 (by omega) (by omega))
