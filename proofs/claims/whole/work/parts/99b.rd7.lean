theorem frR.so {p : Nat} {ρ ω : Mem} {x y : Int} (hp : isText p) (h : 0 ≤ ρ p 2 ∧ ρ p 2 ≤ 300) (e : ω = mset ρ (p + 2) x y) : frR p ρ ω ∧ ω 35 = ρ 35 ∧ ω p 2 = ρ p 2 ∧ ω (p + 1) = ρ (p + 1) := by
  have h3 := off35 hp
  subst e
  have e1 : mset ρ (p + 2) x y 35 = ρ 35 := mset_ne h3.2.2
  have e2 : mset ρ (p + 2) x y p = ρ p := mset_ne (by omega)
  refine ⟨⟨(Fr.rf _ _).set (by simp), fun j _ _ _ => by rw [e1], fun j _ => by rw [e2], by rw [e2]; exact h⟩, e1, by rw [e2], mset_ne (by omega)⟩
theorem okQ.cho {p i j j2 j3 : Nat} {nd1 nd2 nd3 nd : Int} {σ ρ1 ρ2 ρ3 ρ4 ρ5 ρ6 ρ7 ρ8 ρ9 ω : Mem} {q f g : Env → Int} (hp : isText p) (h1 : okQ p i j nd1 σ ρ1 q) (a1 : adv p j ρ1 ρ2) (e3 : ρ3 = emS ρ2 p 22 0) (h2 : okQ p (j + 1) j2 nd2 ρ3 ρ4 f) (a2 : adv p j2 ρ4 ρ5) (e6 : ρ6 = emS ρ5 p 23 0) (e7 : ρ7 = mset ρ6 (p + 2) (ρ2 p 2) (ρ5 p 2)) (h3 : okQ p (j2 + 1) j3 nd3 ρ7 ρ8 g) (a3 : adv p j3 ρ8 ρ9) (e10 : ω = mset ρ9 (p + 2) (ρ5 p 2) (ρ9 p 2 - 1)) (hz : σ p 2 ≤ (i : Int)) (hj : j < 300) (hj2 : j2 < 300) (hj3 : j3 < 300) (n1 : nd1 ≤ nd) (n2 : nd2 ≤ nd) (n3 : nd3 ≤ nd) : okQ p i (j3 + 1) nd σ ω (fun e => if q e = 0 then g e else f e) := by
  have l1 := h1.lt
  have l2 := h2.lt
  have l3 := h3.lt
  obtain ⟨f1, t1, m1, hm1, F1⟩ := h1
  obtain ⟨f2, t2, m2, hm2, F2⟩ := h2
  obtain ⟨f3, t3, m3, hm3, F3⟩ := h3
  have c3 := emS_c (σ := ρ2) (p := p) (c := 22) (o := 0)
  have k3 : kpC p (ρ2 p 2) ρ2 ρ3 := by rw [e3]; exact kpC.em hp
  rw [← e3] at c3
  have c6 := emS_c (σ := ρ5) (p := p) (c := 23) (o := 0)
  have k6 : kpC p (ρ5 p 2) ρ5 ρ6 := by rw [e6]; exact kpC.em hp
  rw [← e6] at c6
  have z1 := a1.2.2.1
  have z2 := a2.2.2.1
  have z3 := a3.2.2.1
  have r3 := frR.em hp ⟨a1.1.2.2.2.1, by omega⟩ e3
  have r6 := frR.em hp ⟨a2.1.2.2.2.1, by omega⟩ e6
  have r7 := frR.so hp r6.2.2.2 e7
  have r10 := frR.so hp a3.1.2.2.2 e10
  rw [c3.2.2] at t2 F2 l2
  rw [r7.2.2.1, c6.2.2] at t3 F3 l3
  have s10 : ω p 2 = ρ8 p 2 := by rw [r10.2.2.1, z3]
  -- codes of ω, from each of the earlier
  have w9c : ω (p + 1) = ρ8 (p + 1) := by rw [r10.2.2.2, a3.2.2.2.2.1]
  have w9o : ∀ x : Int, x ≠ ρ5 p 2 → ω (p + 2) x = ρ8 (p + 2) x := fun x hx => by rw [e10, mset_miss hx, a3.2.2.2.2.2]
  have w7c : ∀ x : Int, x < ρ5 p 2 + 1 → ω (p + 1) x = ρ6 (p + 1) x := fun x hx => by rw [w9c, (t3.2.2.2.1 x hx).1, r7.2.2.2]
  have w7o : ∀ x : Int, x < ρ5 p 2 → x ≠ ρ2 p 2 → ω (p + 2) x = ρ6 (p + 2) x := fun x hx hx2 => by
    rw [w9o x (by omega), (t3.2.2.2.1 x (by omega)).2, e7, mset_miss hx2]
  have w4c : ∀ x : Int, x < ρ4 p 2 → ω (p + 1) x = ρ4 (p + 1) x := fun x hx => by rw [w7c x (by omega), (k6.1 x (by omega)).1, a2.2.2.2.2.1]
  have w4o : ∀ x : Int, x < ρ4 p 2 → x ≠ ρ2 p 2 → ω (p + 2) x = ρ4 (p + 2) x := fun x hx hx2 => by rw [w7o x (by omega) hx2, (k6.1 x (by omega)).2, a2.2.2.2.2.2]
  have w3c : ∀ x : Int, x < ρ2 p 2 + 1 → ω (p + 1) x = ρ3 (p + 1) x := fun x hx => by rw [w4c x (by omega), (t2.2.2.2.1 x hx).1]
  have w1c : ∀ x : Int, x < ρ1 p 2 → ω (p + 1) x = ρ1 (p + 1) x ∧ ω (p + 2) x = ρ1 (p + 2) x := fun x hx => by
    rw [w3c x (by omega), (k3.1 x (by omega)).1, a1.2.2.2.2.1, w4o x (by omega) (by omega), (t2.2.2.2.1 x (by omega)).2, (k3.1 x (by omega)).2, a1.2.2.2.2.2]; exact ⟨rfl, rfl⟩
  refine ⟨(((((((f1.tr a1.1).tr r3).tr f2).tr a2.1).tr r6).tr r7.1).tr f3).tr (a3.1.tr r10.1), ⟨by rw [r10.2.1]; exact a3.2.1, by rw [s10]; omega, by omega, fun x hx => ?_, by rw [r10.2.1, (a3.2.2.2.1 0).2.1, t3.2.2.2.2.1, r7.2.1, k6.2.1, (a2.2.2.2.1 0).2.1, t2.2.2.2.2.1, k3.2.1, (a1.2.2.2.1 0).2.1, t1.2.2.2.2.1], by rw [r10.2.1, (a3.2.2.2.1 0).2.2, t3.2.2.2.2.2, r7.2.1, k6.2.2, (a2.2.2.2.1 0).2.2, t2.2.2.2.2.2, k3.2.2, (a1.2.2.2.1 0).2.2, t1.2.2.2.2.2]⟩, max m1 (max m2 m3), by omega, ?_⟩
  · have := w1c x (by omega)
    rw [this.1, this.2]; exact t1.2.2.2.1 x hx
  · rw [s10]
    have G1 := F1.congr (cd' := ω (p + 1)) (op' := ω (p + 2)) (fun x _ hx => w1c x hx)
    have G2 := F2.congr (cd' := ω (p + 1)) (op' := ω (p + 2)) (fun x hx0 hx => ⟨w4c x hx, w4o x hx (by omega)⟩)
    have G3 := F3.congr (cd' := ω (p + 1)) (op' := ω (p + 2)) (fun x hx0 hx => ⟨by rw [w9c], w9o x (by omega)⟩)
    rw [z1] at G2
    rw [z2] at G3
    refine Fg.choice G1 ?_ ?_ G2 ?_ ?_ G3
    · rw [← z1, w3c _ (by omega)]; exact c3.1
    · rw [← z1, w9o _ (by omega), (t3.2.2.2.1 _ (by omega)).2, e7, mset_hit rfl, z2]
    · rw [← z2, w7c _ (by omega)]; exact c6.1
    · rw [← z2, e10, mset_hit rfl, z3]
theorem pC_i {K M : Nat → Int} {lw : Int} {n i : Nat} : pC K M lw n i = pB (pE K M lw n i) (fun q j => if K j = 22 then pB (pS K M lw n (j + 1)) (fun f j2 => if K j2 = 23 then pB (pS K M lw n (j2 + 1)) (fun g j3 => if K j3 = 24 then .inr (fun e => if q e = 0 then g e else f e, j3 + 1) else .inl (1, j3)) else .inl (1, j2)) else .inl (1, j)) := rfl

def wp_X5_takesChoice (nn : Nat) (x1 : Int) (σ : Mem) (Q : Int → Mem → Prop) : Prop :=
  ∃ g1 : Int → Int, ∃ g2 : Int, ∃ g3 : Nat, ∃ g4 : Nat, ∃ g5 : Nat, ∃ g6 : Int, ((rdC σ g1 g2 g3 g4 ∧ σ g3 2 ≤ (g4 : Int) ∧ σ 35 3 = g6) ∧ x1 = 8 - (g5 : Int) ∧ g5 ≤ 8 ∧ g5 ≤ nn) ∧
   ∀ (u11 : Int) (σ10 : Mem), R32 u11 → OKm σ10 → (ansR g1 g2 g3 g4 (6 + 5 * (g5 : Int)) σ σ10 u11 (pE (kd g1 g2) (nu g1 g2) g6 g5 g4)) →
   ((u11 = 0) →
    Q 0 σ10) ∧
   ((u11 ≠ 0) →
    ∃ g14 : Int → Int, ∃ g15 : Int, ∃ g16 : Nat, ∃ g17 : Nat, (rdC σ10 g14 g15 g16 g17) ∧
    ∀ (u22 : Int) (σ21 : Mem), R32 u22 → OKm σ21 → ((kd g14 g15 g17 = (22 : Int) ∧ u22 = 1 ∧ σ21 = mset σ10 35 2 ((g17 : Int) + 1)) ∨ (kd g14 g15 g17 ≠ (22 : Int) ∧ u22 = 0 ∧ σ21 = mset (mset σ10 35 4 1) 35 5 (ps g14 g15 g17))) →
    ((u22 ≠ 0) →
     ∃ t25 : Nat, isText t25 ∧ σ21 35 1 = (t25 : Int) ∧
     (0 ≤ σ21 t25 2) ∧
     ∀ (u32 : Int) (σ31 : Mem), u32 = (if σ21 t25 2 < 300 then σ21 t25 2 else -1) → σ31 = (if σ21 t25 2 < 300 then mset (mset (mset σ21 (t25 + 1) (σ21 t25 2) (22 : Int)) (t25 + 2) (σ21 t25 2) (0 : Int)) t25 2 (σ21 t25 2 + 1) else σ21) →
     ∃ g35 : Int → Int, ∃ g36 : Int, ∃ g37 : Nat, ∃ g38 : Nat, ∃ g39 : Nat, ∃ g40 : Int, ((rdC σ31 g35 g36 g37 g38 ∧ σ31 g37 2 ≤ (g38 : Int) ∧ σ31 35 3 = g40) ∧ x1 = 8 - (g39 : Int) ∧ g39 ≤ 8 ∧ g39 ≤ nn) ∧
     ∀ (u45 : Int) (σ44 : Mem), R32 u45 → OKm σ44 → (ansR g35 g36 g37 g38 (3 + 5 * (g39 : Int)) σ31 σ44 u45 (pS (kd g35 g36) (nu g35 g36) g40 g39 g38)) →
     ((u45 = 0) →
      Q 0 σ44) ∧
     ((u45 ≠ 0) →
      ∃ g48 : Int → Int, ∃ g49 : Int, ∃ g50 : Nat, ∃ g51 : Nat, (rdC σ44 g48 g49 g50 g51) ∧
      ∀ (u56 : Int) (σ55 : Mem), R32 u56 → OKm σ55 → ((kd g48 g49 g51 = (23 : Int) ∧ u56 = 1 ∧ σ55 = mset σ44 35 2 ((g51 : Int) + 1)) ∨ (kd g48 g49 g51 ≠ (23 : Int) ∧ u56 = 0 ∧ σ55 = mset (mset σ44 35 4 1) 35 5 (ps g48 g49 g51))) →
      ((u56 ≠ 0) →
       ∃ t59 : Nat, isText t59 ∧ σ55 35 1 = (t59 : Int) ∧
       (0 ≤ σ55 t59 2) ∧
       ∀ (u66 : Int) (σ65 : Mem), u66 = (if σ55 t59 2 < 300 then σ55 t59 2 else -1) → σ65 = (if σ55 t59 2 < 300 then mset (mset (mset σ55 (t59 + 1) (σ55 t59 2) (23 : Int)) (t59 + 2) (σ55 t59 2) (0 : Int)) t59 2 (σ55 t59 2 + 1) else σ55) →
       ∃ t69 : Nat, isText t69 ∧ σ65 35 1 = (t69 : Int) ∧
       (0 ≤ σ65 t69 2 ∧ σ65 t69 2 ≤ 300) ∧
       ∀ σ75 : Mem, σ75 = (if 0 ≤ u32 ∧ u32 < σ65 t69 2 then mset σ65 (t69 + 2) u32 u66 else σ65) →
       ∃ g77 : Int → Int, ∃ g78 : Int, ∃ g79 : Nat, ∃ g80 : Nat, ∃ g81 : Nat, ∃ g82 : Int, ((rdC σ75 g77 g78 g79 g80 ∧ σ75 g79 2 ≤ (g80 : Int) ∧ σ75 35 3 = g82) ∧ x1 = 8 - (g81 : Int) ∧ g81 ≤ 8 ∧ g81 ≤ nn) ∧
       ∀ (u87 : Int) (σ86 : Mem), R32 u87 → OKm σ86 → (ansR g77 g78 g79 g80 (3 + 5 * (g81 : Int)) σ75 σ86 u87 (pS (kd g77 g78) (nu g77 g78) g82 g81 g80)) →
       ((u87 = 0) →
        Q 0 σ86) ∧
       ((u87 ≠ 0) →
        ∃ g90 : Int → Int, ∃ g91 : Int, ∃ g92 : Nat, ∃ g93 : Nat, (rdC σ86 g90 g91 g92 g93) ∧
        ∀ (u98 : Int) (σ97 : Mem), R32 u98 → OKm σ97 → ((kd g90 g91 g93 = (24 : Int) ∧ u98 = 1 ∧ σ97 = mset σ86 35 2 ((g93 : Int) + 1)) ∨ (kd g90 g91 g93 ≠ (24 : Int) ∧ u98 = 0 ∧ σ97 = mset (mset σ86 35 4 1) 35 5 (ps g90 g91 g93))) →
        ((u98 ≠ 0) →
         ∃ t101 : Nat, isText t101 ∧ σ97 35 1 = (t101 : Int) ∧
         ∃ t104 : Nat, isText t104 ∧ σ97 35 1 = (t104 : Int) ∧
         R32 ((σ97 t104 2) - 1) ∧
         (0 ≤ σ97 t101 2 ∧ σ97 t101 2 ≤ 300) ∧
         ∀ σ111 : Mem, σ111 = (if 0 ≤ u66 ∧ u66 < σ97 t101 2 then mset σ97 (t101 + 2) u66 ((σ97 t104 2) - 1) else σ97) →
         Q 1 σ111) ∧
        ((u98 = 0) →
         Q 0 σ97))) ∧
      ((u56 = 0) →
       Q 0 σ55))) ∧
    ((u22 = 0) →
     Q 0 σ21))
theorem mt_X5_takesChoice (nn : Nat) (i1 : SpS nn) (i2 : SpO nn) (i3 : SpA nn) (i4 : SpC nn) {d : Nat} (hd : 8 * nn + 11 ≤ d) {x1 : Int} {σ : Mem} {Q : Int → Mem → Prop} (hx1 : R32 x1) (hO : OKm σ) (h : wp_X5_takesChoice nn x1 σ Q) : Mt yX5_takesChoice cX5_takesChoice 4 (some .boolean) d [aR (35), aI (x1)] σ (QI Q) := by
  refine Mt.intro (by decide +kernel) (Nat.le_of_ble_eq_true rfl) [(0, aR (35)), (1, aI (x1))] rfl ?_
  unfold wp_X5_takesChoice at h
  refine G_aload_n 0 rfl rfl dX5_takesChoice_0 ?_
  refine G_iload_n 1 rfl rfl dX5_takesChoice_1 ?_
  obtain ⟨g1, g2, g3, g4, g5, g6, c7, h⟩ := h
  refine G_callV (as := [_]) cf_X5_141 rfl rfl rfl (sp_X5_takesEither nn i1 i2 i3 i4 (d - 1) (by omega) _ hO _ hx1 g1 g2 g3 g4 g5 g6 c7) (by omega) rfl rfl (Nat.le_of_ble_eq_true rfl) dX5_takesChoice_2 ?_
  rintro _ σ10 ⟨u11, rfl, z12⟩ o9 r8
  have h := h _ _ (r8 _ rfl) o9 z12
  refine G_if_eq (r8 _ rfl) dX5_takesChoice_5 (tgt := 17) (by decide) (fun c13 => ?_) (fun c13 => ?_)
  · have h := h.1 c13
    refine G_iconst dX5_takesChoice_17 ?_
    exact G_zret rfl (by decide) dX5_takesChoice_18 ⟨_, rfl, h⟩ o9
  · have h := h.2 c13
    refine G_aload_n 0 rfl rfl dX5_takesChoice_8 ?_
    refine G_bipush (by decide) dX5_takesChoice_9 ?_
    obtain ⟨g14, g15, g16, g17, c18, h⟩ := h
    refine G_callV (as := [_]) cf_X5_93 rfl rfl rfl (sp_X5_takesKind (d - 1) (by omega) _ o9 _ (rL 22 rfl) g14 g15 g16 g17 c18) (by omega) rfl rfl (Nat.le_of_ble_eq_true rfl) dX5_takesChoice_11 ?_
    rintro _ σ21 ⟨u22, rfl, z23⟩ o20 r19
    have h := h _ _ (r19 _ rfl) o20 z23
    refine G_if_ne (r19 _ rfl) dX5_takesChoice_14 (tgt := 19) (by decide) (fun c24 => ?_) (fun c24 => ?_)
    · have h := h.1 c24
      refine G_aload_n 0 rfl rfl dX5_takesChoice_19 ?_
      obtain ⟨t25, c26, c27, h⟩ := h
      refine G_get (k := 1) (kd := (4, 0)) (v := aR t25) gf_X5_9 rfl rfl rfl (fa_text c26 c27) dX5_takesChoice_20 ?_
      refine G_bipush (by decide) dX5_takesChoice_23 ?_
      refine G_iconst dX5_takesChoice_25 ?_
      obtain ⟨c28, h⟩ := h
      refine G_callV (as := [_, _]) cf_X5_112 rfl (shT c26) rfl (sp_X9_emit (d - 1) (by omega) _ o20 _ c26 _ (rL 22 rfl) _ (rL 0 rfl) c28) (by omega) rfl rfl (Nat.le_of_ble_eq_true rfl) dX5_takesChoice_26 ?_
      rintro _ σ31 ⟨u32, rfl, e34, e33⟩ o30 r29
      have h := h u32 σ31 e34 e33
      refine G_istore_n (lv' := [(2, aI (u32)), (0, aR (35)), (1, aI (x1))]) rfl rfl (by decide) dX5_takesChoice_29 ?_
      refine G_aload_n 1 rfl rfl dX5_takesChoice_30 ?_
      refine G_iload_n 2 rfl rfl dX5_takesChoice_31 ?_
      obtain ⟨g35, g36, g37, g38, g39, g40, c41, h⟩ := h
      refine G_callV (as := [_]) cf_X5_102 rfl rfl rfl (sp_X5_takesSum nn i1 i2 i3 i4 (d - 1) (by omega) _ o30 _ hx1 g35 g36 g37 g38 g39 g40 c41) (by omega) rfl rfl (Nat.le_of_ble_eq_true rfl) dX5_takesChoice_32 ?_
      rintro _ σ44 ⟨u45, rfl, z46⟩ o43 r42
      have h := h _ _ (r42 _ rfl) o43 z46
      refine G_if_eq (r42 _ rfl) dX5_takesChoice_35 (tgt := 47) (by decide) (fun c47 => ?_) (fun c47 => ?_)
      · have h := h.1 c47
        refine G_iconst dX5_takesChoice_47 ?_
        exact G_zret rfl (by decide) dX5_takesChoice_48 ⟨_, rfl, h⟩ o43
      · have h := h.2 c47
        refine G_aload_n 1 rfl rfl dX5_takesChoice_38 ?_
        refine G_bipush (by decide) dX5_takesChoice_39 ?_
        obtain ⟨g48, g49, g50, g51, c52, h⟩ := h
        refine G_callV (as := [_]) cf_X5_93 rfl rfl rfl (sp_X5_takesKind (d - 1) (by omega) _ o43 _ (rL 23 rfl) g48 g49 g50 g51 c52) (by omega) rfl rfl (Nat.le_of_ble_eq_true rfl) dX5_takesChoice_41 ?_
        rintro _ σ55 ⟨u56, rfl, z57⟩ o54 r53
        have h := h _ _ (r53 _ rfl) o54 z57
        refine G_if_ne (r53 _ rfl) dX5_takesChoice_44 (tgt := 49) (by decide) (fun c58 => ?_) (fun c58 => ?_)
        · have h := h.1 c58
          refine G_aload_n 1 rfl rfl dX5_takesChoice_49 ?_
          obtain ⟨t59, c60, c61, h⟩ := h
          refine G_get (k := 1) (kd := (4, 0)) (v := aR t59) gf_X5_9 rfl rfl rfl (fa_text c60 c61) dX5_takesChoice_50 ?_
          refine G_bipush (by decide) dX5_takesChoice_53 ?_
          refine G_iconst dX5_takesChoice_55 ?_
          obtain ⟨c62, h⟩ := h
          refine G_callV (as := [_, _]) cf_X5_112 rfl (shT c60) rfl (sp_X9_emit (d - 1) (by omega) _ o54 _ c60 _ (rL 23 rfl) _ (rL 0 rfl) c62) (by omega) rfl rfl (Nat.le_of_ble_eq_true rfl) dX5_takesChoice_56 ?_
          rintro _ σ65 ⟨u66, rfl, e68, e67⟩ o64 r63
          have h := h u66 σ65 e68 e67
          refine G_istore_n (lv' := [(3, aI (u66)), (2, aI (u32)), (0, aR (35)), (1, aI (x1))]) rfl rfl (by decide) dX5_takesChoice_59 ?_
          refine G_aload_n 2 rfl rfl dX5_takesChoice_60 ?_
          obtain ⟨t69, c70, c71, h⟩ := h
          refine G_get (k := 1) (kd := (4, 0)) (v := aR t69) gf_X5_9 rfl rfl rfl (fa_text c70 c71) dX5_takesChoice_61 ?_
          refine G_iload_n 1 rfl rfl dX5_takesChoice_64 ?_
          refine G_iload_n 0 rfl rfl dX5_takesChoice_65 ?_
          obtain ⟨c72, h⟩ := h
          refine G_callV (as := [_, _]) cf_X5_144 rfl (shT c70) rfl (sp_X9_setOperand (d - 1) (by omega) _ o64 _ c70 _ (r29 _ rfl) _ (r63 _ rfl) c72) (by omega) rfl rfl (Nat.le_of_ble_eq_true rfl) dX5_takesChoice_66 ?_
          rintro _ σ75 ⟨rfl, e76⟩ o74 r73
          have h := h σ75 e76
          refine G_aload_n 2 rfl rfl dX5_takesChoice_69 ?_
          refine G_iload_n 3 rfl rfl dX5_takesChoice_70 ?_
          obtain ⟨g77, g78, g79, g80, g81, g82, c83, h⟩ := h
          refine G_callV (as := [_]) cf_X5_102 rfl rfl rfl (sp_X5_takesSum nn i1 i2 i3 i4 (d - 1) (by omega) _ o74 _ hx1 g77 g78 g79 g80 g81 g82 c83) (by omega) rfl rfl (Nat.le_of_ble_eq_true rfl) dX5_takesChoice_71 ?_
          rintro _ σ86 ⟨u87, rfl, z88⟩ o85 r84
          have h := h _ _ (r84 _ rfl) o85 z88
          refine G_if_eq (r84 _ rfl) dX5_takesChoice_74 (tgt := 86) (by decide) (fun c89 => ?_) (fun c89 => ?_)
          · have h := h.1 c89
            refine G_iconst dX5_takesChoice_86 ?_
            exact G_zret rfl (by decide) dX5_takesChoice_87 ⟨_, rfl, h⟩ o85
          · have h := h.2 c89
            refine G_aload_n 2 rfl rfl dX5_takesChoice_77 ?_
            refine G_bipush (by decide) dX5_takesChoice_78 ?_
            obtain ⟨g90, g91, g92, g93, c94, h⟩ := h
            refine G_callV (as := [_]) cf_X5_93 rfl rfl rfl (sp_X5_takesKind (d - 1) (by omega) _ o85 _ (rL 24 rfl) g90 g91 g92 g93 c94) (by omega) rfl rfl (Nat.le_of_ble_eq_true rfl) dX5_takesChoice_80 ?_
            rintro _ σ97 ⟨u98, rfl, z99⟩ o96 r95
            have h := h _ _ (r95 _ rfl) o96 z99
            refine G_if_ne (r95 _ rfl) dX5_takesChoice_83 (tgt := 88) (by decide) (fun c100 => ?_) (fun c100 => ?_)
            · have h := h.1 c100
              refine G_aload_n 2 rfl rfl dX5_takesChoice_88 ?_
              obtain ⟨t101, c102, c103, h⟩ := h
              refine G_get (k := 1) (kd := (4, 0)) (v := aR t101) gf_X5_9 rfl rfl rfl (fa_text c102 c103) dX5_takesChoice_89 ?_
              refine G_iload_n 0 rfl rfl dX5_takesChoice_92 ?_
              refine G_aload_n 2 rfl rfl dX5_takesChoice_93 ?_
              obtain ⟨t104, c105, c106, h⟩ := h
              refine G_get (k := 1) (kd := (4, 0)) (v := aR t104) gf_X5_9 rfl rfl rfl (fa_text c105 c106) dX5_takesChoice_94 ?_
              refine G_get (k := 2) (kd := (0, 0)) (v := aI (σ97 t104 2)) gf_X5_99 rfl (shT c105) rfl rfl dX5_takesChoice_97 ?_
              refine G_iconst dX5_takesChoice_100 ?_
              refine G_isub dX5_takesChoice_101 ?_
              obtain ⟨c107, h⟩ := h
              obtain ⟨c108, h⟩ := h
              refine G_callV (as := [_, _]) cf_X5_144 rfl (shT c102) rfl (sp_X9_setOperand (d - 1) (by omega) _ o96 _ c102 _ (r63 _ rfl) _ c107 c108) (by omega) rfl rfl (Nat.le_of_ble_eq_true rfl) dX5_takesChoice_102 ?_
              rintro _ σ111 ⟨rfl, e112⟩ o110 r109
              have h := h σ111 e112
              refine G_iconst dX5_takesChoice_105 ?_
              exact G_zret rfl (by decide) dX5_takesChoice_106 ⟨_, rfl, h⟩ o110
            · have h := h.2 c100
              refine G_iconst dX5_takesChoice_86 ?_
              exact G_zret rfl (by decide) dX5_takesChoice_87 ⟨_, rfl, h⟩ o96
        · have h := h.2 c58
          refine G_iconst dX5_takesChoice_47 ?_
          exact G_zret rfl (by decide) dX5_takesChoice_48 ⟨_, rfl, h⟩ o54
    · have h := h.2 c24
      refine G_iconst dX5_takesChoice_17 ?_
      exact G_zret rfl (by decide) dX5_takesChoice_18 ⟨_, rfl, h⟩ o20

theorem sp_X5_takesChoice (nn : Nat) (i1 : SpS nn) (i2 : SpO nn) (i3 : SpA nn) (i4 : SpC nn) (d : Nat) (hd : 8 * nn + 11 ≤ d) (σ : Mem) (hO : OKm σ) (x1 : Int) (hx1 : R32 x1) (b : Int → Int) (N : Int) (p : Nat) (i : Nat) (n : Nat) (lw : Int) (hpre : (rdC σ b N p i ∧ σ p 2 ≤ (i : Int) ∧ σ 35 3 = lw) ∧ x1 = 8 - (n : Int) ∧ n ≤ 8 ∧ n ≤ nn) : Mt yX5_takesChoice cX5_takesChoice 4 (some .boolean) d [aR (35), aI (x1)] σ (QI (fun v σ' => ansR b N p i (6 + 5 * (n : Int)) σ σ' v (pC (kd b N) (nu b N) lw n i))) := mt_X5_takesChoice nn i1 i2 i3 i4 hd hx1 hO (by
  unfold wp_X5_takesChoice
  obtain ⟨⟨hr, hz, hlw⟩, hx, hn8, hnn⟩ := hpre
  have hB := hr.1.1
  have hp := hr.1.2.2
  have hM := nu_nn hB
  have hlt : ∀ k, kd b N k ≠ 43 → k < 300 := fun k h => by have := (kd_lt hB h).1; omega
  have e35 := hr.2.2.1
  have ep := pC_i (K := kd b N) (M := nu b N) (lw := lw) (n := n) (i := i)
  refine ⟨b, N, p, i, n, lw, ⟨⟨hr, hz, hlw⟩, hx, hn8, hnn⟩, fun u1 ρ1 _ _ h => ?_⟩
  cases hq : pE (kd b N) (nu b N) lw n i with
  | inl e =>
    obtain ⟨hv, he⟩ := h.E hq
    exact ⟨fun _ => he.ans (by rw [ep, pB_er hq]) rfl, fun q => absurd hv q⟩
  | inr qq =>
    obtain ⟨q, j⟩ := qq
    obtain ⟨hv, h1⟩ := h.O hq
    have hr1 := h1.rd hr
    rw [pB_ok hq] at ep
    have t1 := h1.2.1
    refine ⟨fun q => absurd q (by omega), fun _ => ⟨b, N, p, j, hr1, fun u2 ρ2 _ _ hk => ?_⟩⟩
    rcases hk with ⟨kj, hu2, e2⟩ | ⟨kj, hu2, e2⟩
    · rw [if_pos kj] at ep
      have hj := hlt j (by omega)
      have a1 : adv p j ρ1 ρ2 := adv.mk hp h1.1.2.2.2 e2
      have hr2 := a1.rd hr1 (by omega)
      have z1 := a1.2.2.1
      refine ⟨fun _ => ⟨p, hp, hr2.2.1, hr2.2.2.2.2.1, fun u3 ρ3 e3u e3 => ?_⟩, fun q => absurd q (by omega)⟩
      rw [if_pos (by omega)] at e3u e3
      have e3' : ρ3 = emS ρ2 p 22 0 := e3
      have r3 := frR.em hp ⟨hr2.2.2.2.2.1, by omega⟩ e3'
      have c3 := emS_c (σ := ρ2) (p := p) (c := 22) (o := 0)
      rw [← e3'] at c3
      have hr3 : rdC ρ3 b N p (j + 1) := r3.rd hr2 (by rw [e3', emS35 hp]; exact a1.2.1) (by omega)
      have lw3 : ρ3 35 3 = lw := by rw [e3', emS35 hp, a1.lw, h1.lw]; exact hlw
      refine ⟨b, N, p, j + 1, n, lw, ⟨⟨hr3, by rw [c3.2.2]; omega, lw3⟩, hx, hn8, hnn⟩, fun u4 ρ4 _ _ h2 => ?_⟩
      have f3 := (h1.1.tr a1.1).tr r3
      cases hq2 : pS (kd b N) (nu b N) lw n (j + 1) with
      | inl e =>
        obtain ⟨hv2, he2⟩ := h2.E hq2
        exact ⟨fun _ => (he2.pre f3).ans (by rw [ep, pB_er hq2]) rfl, fun q => absurd hv2 q⟩
      | inr qq =>
        obtain ⟨f, j2⟩ := qq
        obtain ⟨hv2, h2⟩ := h2.O hq2
        have hr4 := h2.rd hr3
        rw [pB_ok hq2] at ep
        have t2 := h2.2.1
        rw [c3.2.2] at t2
        refine ⟨fun q => absurd q (by omega), fun _ => ⟨b, N, p, j2, hr4, fun u5 ρ5 _ _ hk => ?_⟩⟩
        rcases hk with ⟨kj2, hu5, e5⟩ | ⟨kj2, hu5, e5⟩
        · rw [if_pos kj2] at ep
          have hj2 := hlt j2 (by omega)
          have a2 : adv p j2 ρ4 ρ5 := adv.mk hp h2.1.2.2.2 e5
          have hr5 := a2.rd hr4 (by omega)
          have z2 := a2.2.2.1
          refine ⟨fun _ => ⟨p, hp, hr5.2.1, hr5.2.2.2.2.1, fun u6 ρ6 e6u e6 => ?_⟩, fun q => absurd q (by omega)⟩
          rw [if_pos (by omega)] at e6u e6
          have e6' : ρ6 = emS ρ5 p 23 0 := e6
          have r6 := frR.em hp ⟨hr5.2.2.2.2.1, by omega⟩ e6'
          have c6 := emS_c (σ := ρ5) (p := p) (c := 23) (o := 0)
          rw [← e6'] at c6
          have hr6 : rdC ρ6 b N p (j2 + 1) := r6.rd hr5 (by rw [e6', emS35 hp]; exact a2.2.1) (by omega)
          refine ⟨p, hp, hr6.2.1, hr6.2.2.2.2, fun ρ7 e7 => ?_⟩
          rw [e3u, e6u, if_pos ⟨hr2.2.2.2.2.1, by rw [c6.2.2]; have := h2.lt; omega⟩] at e7
          have r7 := frR.so hp r6.2.2.2 e7
          have hr7 : rdC ρ7 b N p (j2 + 1) := r7.1.rd hr6 (by rw [r7.2.1]; exact hr6.2.2.1) (by omega)
          have lw7 : ρ7 35 3 = lw := by rw [r7.2.1, e6', emS35 hp, a2.lw, h2.lw]; exact lw3
          refine ⟨b, N, p, j2 + 1, n, lw, ⟨⟨hr7, by rw [r7.2.2.1, c6.2.2]; omega, lw7⟩, hx, hn8, hnn⟩, fun u8 ρ8 _ _ h3 => ?_⟩
          have f7 := (((f3.tr h2.1).tr a2.1).tr r6).tr r7.1
          cases hq3 : pS (kd b N) (nu b N) lw n (j2 + 1) with
          | inl e =>
            obtain ⟨hv3, he3⟩ := h3.E hq3
            exact ⟨fun _ => (he3.pre f7).ans (by rw [ep, pB_er hq3]) rfl, fun q => absurd hv3 q⟩
          | inr qq =>
            obtain ⟨g, j3⟩ := qq
            obtain ⟨hv3, h3⟩ := h3.O hq3
            have hr8 := h3.rd hr7
            rw [pB_ok hq3] at ep
            refine ⟨fun q => absurd q (by omega), fun _ => ⟨b, N, p, j3, hr8, fun u9 ρ9 _ _ hk => ?_⟩⟩
            rcases hk with ⟨kj3, hu9, e9⟩ | ⟨kj3, hu9, e9⟩
            · rw [if_pos kj3] at ep
              have hj3 := hlt j3 (by omega)
              have a3 : adv p j3 ρ8 ρ9 := adv.mk hp h3.1.2.2.2 e9
              have hr9 := a3.rd hr8 (by omega)
              refine ⟨fun _ => ⟨p, hp, hr9.2.1, p, hp, hr9.2.1, by have := hr9.2.2.2.2; unfold R32; omega, hr9.2.2.2.2, fun ω e10 => ?_⟩, fun q => absurd q (by omega)⟩
              have l3 := h3.lt
              rw [r7.2.2.1, c6.2.2] at l3
              rw [e6u, if_pos ⟨hr5.2.2.2.2.1, by rw [a3.2.2.1]; omega⟩] at e10
              exact (okQ.cho hp h1 a1 e3' h2 a2 e6' e7 h3 a3 e10 hz hj hj2 hj3 (by omega) (by omega) (by omega)).ans ep rfl
            · rw [if_neg kj3] at ep
              exact ⟨fun q => absurd hu9 q, fun _ => ((erR.fail hr8 e9).pre (f7.tr h3.1)).ans ep rfl⟩
        · rw [if_neg kj2] at ep
          exact ⟨fun q => absurd hu5 q, fun _ => ((erR.fail hr4 e5).pre (f3.tr h2.1)).ans ep rfl⟩
    · rw [if_neg kj] at ep
      exact ⟨fun q => absurd hu2 q, fun _ => ((erR.fail hr1 e2).pre h1.1).ans ep rfl⟩)
