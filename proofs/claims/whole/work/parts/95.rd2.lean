def wp_X5_emits (x1 : Int) (σ : Mem) (Q : Int → Mem → Prop) : Prop :=
  ∃ t1 : Nat, isText t1 ∧ σ 35 1 = (t1 : Int) ∧
   (0 ≤ σ t1 2) ∧
   ∀ (u8 : Int) (σ7 : Mem), u8 = (if σ t1 2 < 300 then σ t1 2 else -1) → σ7 = (if σ t1 2 < 300 then mset (mset (mset σ (t1 + 1) (σ t1 2) x1) (t1 + 2) (σ t1 2) (0 : Int)) t1 2 (σ t1 2 + 1) else σ) →
   Q 1 σ7
theorem mt_X5_emits {d : Nat} (hd : 1 ≤ d) {x1 : Int} {σ : Mem} {Q : Int → Mem → Prop} (hx1 : R32 x1) (hO : OKm σ) (h : wp_X5_emits x1 σ Q) : Mt yX5_emits cX5_emits 2 (some .boolean) d [aR (35), aI (x1)] σ (QI Q) := by
  refine Mt.intro (by decide +kernel) (Nat.le_of_ble_eq_true rfl) [(0, aR (35)), (1, aI (x1))] rfl ?_
  unfold wp_X5_emits at h
  refine G_aload_n 0 rfl rfl dX5_emits_0 ?_
  obtain ⟨t1, c2, c3, h⟩ := h
  refine G_get (k := 1) (kd := (4, 0)) (v := aR t1) gf_X5_9 rfl rfl rfl (fa_text c2 c3) dX5_emits_1 ?_
  refine G_iload_n 1 rfl rfl dX5_emits_4 ?_
  refine G_iconst dX5_emits_5 ?_
  obtain ⟨c4, h⟩ := h
  refine G_callV (as := [_, _]) cf_X5_112 rfl (shT c2) rfl (sp_X9_emit (d - 1) (by omega) _ hO _ c2 _ hx1 _ (rL 0 rfl) c4) (by omega) rfl rfl (Nat.le_of_ble_eq_true rfl) dX5_emits_6 ?_
  rintro _ σ7 ⟨u8, rfl, e10, e9⟩ o6 r5
  have h := h u8 σ7 e10 e9
  refine G_pop rfl dX5_emits_9 ?_
  refine G_iconst dX5_emits_10 ?_
  exact G_zret rfl (by decide) dX5_emits_11 ⟨_, rfl, h⟩ o6

theorem sp_X5_emits (d : Nat) (hd : 1 ≤ d) (σ : Mem) (hO : OKm σ) (x1 : Int) (hx1 : R32 x1) (b : Int → Int) (N : Int) (p : Nat) (i : Nat) (hpre : rdC σ b N p i ∧ σ p 2 < 300) : Mt yX5_emits cX5_emits 2 (some .boolean) d [aR (35), aI (x1)] σ (QI (fun v σ' => v = 1 ∧ σ' = emS σ p x1 0)) := mt_X5_emits hd hx1 hO (by
  unfold wp_X5_emits
  refine ⟨p, hpre.1.1.2.2, hpre.1.2.1, hpre.1.2.2.2.2.1, fun u ρ _ e => ⟨rfl, ?_⟩⟩
  rw [if_pos hpre.2] at e; exact e)

def wp_X5_takesNumberOfLaw  (σ : Mem) (Q : Int → Mem → Prop) : Prop :=
  (σ 30 5 ≤ 301) ∧
   ∀ y4 : Int, y4 = (if 0 ≤ (σ 35 2) ∧ (σ 35 2) < σ 30 5 then σ 34 (σ 35 2) else -1) →
   ((y4 ≤ 9999) →
    ∃ t6 : Nat, isText t6 ∧ σ 35 1 = (t6 : Int) ∧
    (0 ≤ σ t6 2) ∧
    ∀ (u13 : Int) (σ12 : Mem), u13 = (if σ t6 2 < 300 then σ t6 2 else -1) → σ12 = (if σ t6 2 < 300 then mset (mset (mset σ (t6 + 1) (σ t6 2) (41 : Int)) (t6 + 2) (σ t6 2) y4) t6 2 (σ t6 2 + 1) else σ) →
    R32 ((σ12 35 2) + 1) ∧
    ∀ σ16 : Mem, σ16 = mset σ12 35 2 ((σ12 35 2) + 1) →
    Q 1 σ16) ∧
   ((9999 < y4) →
    ∃ g20 : Int → Int, ∃ g21 : Int, ∃ g22 : Nat, ∃ g23 : Nat, (rdC σ g20 g21 g22 g23) ∧
    ∀ (u28 : Int) (σ27 : Mem), R32 u28 → OKm σ27 → (u28 = 0 ∧ σ27 = mset (mset σ 35 4 (2 : Int)) 35 5 (ps g20 g21 g23)) →
    (u28 = 0 ∨ u28 = 1) ∧
    Q u28 σ27)
theorem mt_X5_takesNumberOfLaw {d : Nat} (hd : 2 ≤ d)  {σ : Mem} {Q : Int → Mem → Prop}  (hO : OKm σ) (h : wp_X5_takesNumberOfLaw  σ Q) : Mt yX5_takesNumberOfLaw cX5_takesNumberOfLaw 2 (some .boolean) d [aR (35)] σ (QI Q) := by
  refine Mt.intro (by decide +kernel) (Nat.le_of_ble_eq_true rfl) [(0, aR (35))] rfl ?_
  unfold wp_X5_takesNumberOfLaw at h
  refine G_aload_n 0 rfl rfl dX5_takesNumberOfLaw_0 ?_
  refine G_get (k := 0) (kd := (2, 30)) (v := aR 30) gf_X5_28 rfl rfl rfl rfl dX5_takesNumberOfLaw_1 ?_
  refine G_aload_n 0 rfl rfl dX5_takesNumberOfLaw_4 ?_
  refine G_get (k := 2) (kd := (0, 0)) (v := aI (σ 35 2)) gf_X5_15 rfl rfl rfl rfl dX5_takesNumberOfLaw_5 ?_
  obtain ⟨c1, h⟩ := h
  refine G_callV (as := [_]) cf_X5_63 rfl rfl rfl (sp_X8_numberAt (d - 1) (by omega) _ hO _ (OKm.i hO 35 2 rfl) c1) (by omega) rfl rfl (Nat.le_of_ble_eq_true rfl) dX5_takesNumberOfLaw_8 ?_
  rintro _ _ ⟨_, rfl, rfl, rfl⟩ o3 r2
  have h := h _ rfl
  refine G_istore_n (lv' := [(1, aI (((if 0 ≤ (σ 35 2) ∧ (σ 35 2) < σ 30 5 then σ 34 (σ 35 2) else -1)))), (0, aR (35))]) rfl rfl (by decide) dX5_takesNumberOfLaw_11 ?_
  refine G_iload_n 0 rfl rfl dX5_takesNumberOfLaw_12 ?_
  refine G_sipush (by decide) dX5_takesNumberOfLaw_13 ?_
  refine G_icmp_le (r2 _ rfl) (rL 9999 rfl) dX5_takesNumberOfLaw_16 (tgt := 25) (by decide) (fun c5 => ?_) (fun c5 => ?_)
  · have h := h.1 c5
    refine G_aload_n 1 rfl rfl dX5_takesNumberOfLaw_25 ?_
    obtain ⟨t6, c7, c8, h⟩ := h
    refine G_get (k := 1) (kd := (4, 0)) (v := aR t6) gf_X5_9 rfl rfl rfl (fa_text c7 c8) dX5_takesNumberOfLaw_26 ?_
    refine G_bipush (by decide) dX5_takesNumberOfLaw_29 ?_
    refine G_iload_n 0 rfl rfl dX5_takesNumberOfLaw_31 ?_
    obtain ⟨c9, h⟩ := h
    refine G_callV (as := [_, _]) cf_X5_112 rfl (shT c7) rfl (sp_X9_emit (d - 1) (by omega) _ hO _ c7 _ (rL 41 rfl) _ (r2 _ rfl) c9) (by omega) rfl rfl (Nat.le_of_ble_eq_true rfl) dX5_takesNumberOfLaw_32 ?_
    rintro _ σ12 ⟨u13, rfl, e15, e14⟩ o11 r10
    have h := h u13 σ12 e15 e14
    refine G_pop rfl dX5_takesNumberOfLaw_35 ?_
    refine G_aload_n 1 rfl rfl dX5_takesNumberOfLaw_36 ?_
    refine G_dup rfl dX5_takesNumberOfLaw_37 ?_
    refine G_get (k := 2) (kd := (0, 0)) (v := aI (σ12 35 2)) gf_X5_15 rfl rfl rfl rfl dX5_takesNumberOfLaw_38 ?_
    refine G_iconst dX5_takesNumberOfLaw_41 ?_
    refine G_iadd dX5_takesNumberOfLaw_42 ?_
    obtain ⟨c17, h⟩ := h
    obtain ⟨σ16, e19⟩ : ∃ τ : Mem, τ = mset σ12 35 2 ((σ12 35 2) + 1) := ⟨_, rfl⟩
    have h := h σ16 e19
    have o18 : OKm σ16 := by rw [e19]; exact OKm.seti o11 _ _ _ c17 rfl
    refine G_put (k := 2) (ki := 2) (kd := (0, 0)) (x := _) pf_X5_15 rfl rfl rfl rfl (fa_i (mset_self _ _ _ _)) (fun _ => rfl) (fun _ => rfl) dX5_takesNumberOfLaw_43 ?_
    rw [← e19]
    refine G_iconst dX5_takesNumberOfLaw_46 ?_
    exact G_zret rfl (by decide) dX5_takesNumberOfLaw_47 ⟨_, rfl, h⟩ o18
  · have h := h.2 c5
    refine G_aload_n 1 rfl rfl dX5_takesNumberOfLaw_19 ?_
    refine G_iconst dX5_takesNumberOfLaw_20 ?_
    obtain ⟨g20, g21, g22, g23, c24, h⟩ := h
    refine G_callV (as := [_]) cf_X5_59 rfl rfl rfl (sp_X5_fails (d - 1) (by omega) _ hO _ (rL 2 rfl) g20 g21 g22 g23 c24) (by omega) rfl rfl (Nat.le_of_ble_eq_true rfl) dX5_takesNumberOfLaw_21 ?_
    rintro _ σ27 ⟨u28, rfl, z29⟩ o26 r25
    have h := h _ _ (r25 _ rfl) o26 z29
    obtain ⟨c30, h⟩ := h
    exact G_zret rfl c30 dX5_takesNumberOfLaw_24 ⟨_, rfl, h⟩ o26

theorem sp_X5_takesNumberOfLaw (d : Nat) (hd : 2 ≤ d) (σ : Mem) (hO : OKm σ) (b : Int → Int) (N : Int) (p : Nat) (i : Nat) (hpre : rdC σ b N p i ∧ kd b N i = 41 ∧ σ p 2 < 300) : Mt yX5_takesNumberOfLaw cX5_takesNumberOfLaw 2 (some .boolean) d [aR (35)] σ (QI (fun v σ' => (9999 < nu b N i ∧ v = 0 ∧ σ' = mset (mset σ 35 4 2) 35 5 (ps b N i)) ∨ (nu b N i ≤ 9999 ∧ v = 1 ∧ σ' = mset (emS σ p 41 (nu b N i)) 35 2 ((i : Int) + 1)))) := mt_X5_takesNumberOfLaw hd  hO (by
  unfold wp_X5_takesNumberOfLaw
  obtain ⟨hr, hk, hz⟩ := hpre
  refine ⟨hr.1.2.1.1.2, fun y4 e4 => ?_⟩
  rw [hr.2.2.1, hr.1.2.1.num hr.1.1 hk] at e4
  have hi := hr.2.2.2.1
  have hp' : 35 ≠ p ∧ 35 ≠ p + 1 ∧ 35 ≠ p + 2 := by have := hr.1.2.2; unfold isText at this; omega
  refine ⟨fun h => ⟨p, hr.1.2.2, hr.2.1, hr.2.2.2.2.1, fun u ρ _ e => ?_⟩, fun h => ⟨b, N, p, i, hr, fun u ρ _ _ ⟨e1, e2⟩ => ⟨.inl e1, .inl ⟨by omega, e1, e2⟩⟩⟩⟩
  rw [if_pos hz] at e
  have e2 : ρ 35 2 = (i : Int) := by rw [e, mset_off hp'.1, mset_off hp'.2.2, mset_off hp'.2.1]; exact hr.2.2.1
  rw [e2]
  exact ⟨by unfold R32; omega, fun τ e3 => .inr ⟨by omega, rfl, by rw [e3, e, e4]; rfl⟩⟩)

def wp_X5_takesName (x1 : Int) (σ : Mem) (Q : Int → Mem → Prop) : Prop :=
  (((0 ≤ x1 ∧ x1 ≤ 4) ∨ ((σ 35 3) = 9 ∧ 5 ≤ x1 ∧ x1 ≤ 7) ∨ ((σ 35 3) ≠ 9 ∧ x1 = 8)) →
    R32 ((σ 35 2) + 1) ∧
    ∀ σ4 : Mem, σ4 = mset σ 35 2 ((σ 35 2) + 1) →
    ∃ g8 : Int → Int, ∃ g9 : Int, ∃ g10 : Nat, ∃ g11 : Nat, (rdC σ4 g8 g9 g10 g11 ∧ σ4 g10 2 < 300) ∧
    ∀ (u16 : Int) (σ15 : Mem), R32 u16 → OKm σ15 → (u16 = 1 ∧ σ15 = emS σ4 g10 x1 0) →
    (u16 = 0 ∨ u16 = 1) ∧
    Q u16 σ15) ∧
   ((¬ ((0 ≤ x1 ∧ x1 ≤ 4) ∨ ((σ 35 3) = 9 ∧ 5 ≤ x1 ∧ x1 ≤ 7) ∨ ((σ 35 3) ≠ 9 ∧ x1 = 8))) →
    ∃ g19 : Int → Int, ∃ g20 : Int, ∃ g21 : Nat, ∃ g22 : Nat, (rdC σ g19 g20 g21 g22) ∧
    ∀ (u27 : Int) (σ26 : Mem), R32 u27 → OKm σ26 → (u27 = 0 ∧ σ26 = mset (mset σ 35 4 (5 : Int)) 35 5 (ps g19 g20 g22)) →
    (u27 = 0 ∨ u27 = 1) ∧
    Q u27 σ26)
theorem mt_X5_takesName {d : Nat} (hd : 2 ≤ d) {x1 : Int} {σ : Mem} {Q : Int → Mem → Prop} (hx1 : R32 x1) (hO : OKm σ) (h : wp_X5_takesName x1 σ Q) : Mt yX5_takesName cX5_takesName 2 (some .boolean) d [aR (35), aI (x1)] σ (QI Q) := by
  refine Mt.intro (by decide +kernel) (Nat.le_of_ble_eq_true rfl) [(0, aR (35)), (1, aI (x1))] rfl ?_
  unfold wp_X5_takesName at h
  refine G_iload_n 1 rfl rfl dX5_takesName_0 ?_
  refine G_aload_n 0 rfl rfl dX5_takesName_1 ?_
  refine G_get (k := 3) (kd := (0, 0)) (v := aI (σ 35 3)) gf_X5_19 rfl rfl rfl rfl dX5_takesName_2 ?_
  refine G_callS (as := [_, _]) cf_X5_137 rfl (sp_X1_isNameOf (d - 1) (by omega) _ hO _ hx1 _ (OKm.i hO 35 3 rfl)) (by omega) rfl rfl (Nat.le_of_ble_eq_true rfl) dX5_takesName_5 ?_
  rintro _ _ ⟨_, rfl, rfl, rfl⟩ o2 r1
  refine G_if_ne (bI_R _) dX5_takesName_8 (tgt := 17) (by decide) (fun c3 => ?_) (fun c3 => ?_)
  · have h := h.1 (bI_ne c3)
    refine G_aload_n 0 rfl rfl dX5_takesName_17 ?_
    refine G_dup rfl dX5_takesName_18 ?_
    refine G_get (k := 2) (kd := (0, 0)) (v := aI (σ 35 2)) gf_X5_15 rfl rfl rfl rfl dX5_takesName_19 ?_
    refine G_iconst dX5_takesName_22 ?_
    refine G_iadd dX5_takesName_23 ?_
    obtain ⟨c5, h⟩ := h
    obtain ⟨σ4, e7⟩ : ∃ τ : Mem, τ = mset σ 35 2 ((σ 35 2) + 1) := ⟨_, rfl⟩
    have h := h σ4 e7
    have o6 : OKm σ4 := by rw [e7]; exact OKm.seti hO _ _ _ c5 rfl
    refine G_put (k := 2) (ki := 2) (kd := (0, 0)) (x := _) pf_X5_15 rfl rfl rfl rfl (fa_i (mset_self _ _ _ _)) (fun _ => rfl) (fun _ => rfl) dX5_takesName_24 ?_
    rw [← e7]
    refine G_aload_n 0 rfl rfl dX5_takesName_27 ?_
    refine G_iload_n 1 rfl rfl dX5_takesName_28 ?_
    obtain ⟨g8, g9, g10, g11, c12, h⟩ := h
    refine G_callV (as := [_]) cf_X5_131 rfl rfl rfl (sp_X5_emits (d - 1) (by omega) _ o6 _ hx1 g8 g9 g10 g11 c12) (by omega) rfl rfl (Nat.le_of_ble_eq_true rfl) dX5_takesName_29 ?_
    rintro _ σ15 ⟨u16, rfl, z17⟩ o14 r13
    have h := h _ _ (r13 _ rfl) o14 z17
    obtain ⟨c18, h⟩ := h
    exact G_zret rfl c18 dX5_takesName_32 ⟨_, rfl, h⟩ o14
  · have h := h.2 ((bI_0 _).mp c3)
    refine G_aload_n 0 rfl rfl dX5_takesName_11 ?_
    refine G_iconst dX5_takesName_12 ?_
    obtain ⟨g19, g20, g21, g22, c23, h⟩ := h
    refine G_callV (as := [_]) cf_X5_59 rfl rfl rfl (sp_X5_fails (d - 1) (by omega) _ hO _ (rL 5 rfl) g19 g20 g21 g22 c23) (by omega) rfl rfl (Nat.le_of_ble_eq_true rfl) dX5_takesName_13 ?_
    rintro _ σ26 ⟨u27, rfl, z28⟩ o25 r24
    have h := h _ _ (r24 _ rfl) o25 z28
    obtain ⟨c29, h⟩ := h
    exact G_zret rfl c29 dX5_takesName_16 ⟨_, rfl, h⟩ o25

theorem sp_X5_takesName (d : Nat) (hd : 2 ≤ d) (σ : Mem) (hO : OKm σ) (x1 : Int) (hx1 : R32 x1) (b : Int → Int) (N : Int) (p : Nat) (i : Nat) (hpre : rdC σ b N p i ∧ σ p 2 < 300 ∧ i < 300) : Mt yX5_takesName cX5_takesName 2 (some .boolean) d [aR (35), aI (x1)] σ (QI (fun v σ' => (((0 ≤ x1 ∧ x1 ≤ 4) ∨ (σ 35 3 = 9 ∧ 5 ≤ x1 ∧ x1 ≤ 7) ∨ (σ 35 3 ≠ 9 ∧ x1 = 8)) ∧ v = 1 ∧ σ' = emS (mset σ 35 2 ((i : Int) + 1)) p x1 0) ∨ (¬ ((0 ≤ x1 ∧ x1 ≤ 4) ∨ (σ 35 3 = 9 ∧ 5 ≤ x1 ∧ x1 ≤ 7) ∨ (σ 35 3 ≠ 9 ∧ x1 = 8)) ∧ v = 0 ∧ σ' = mset (mset σ 35 4 5) 35 5 (ps b N i)))) := mt_X5_takesName hd hx1 hO (by
  unfold wp_X5_takesName
  obtain ⟨hr, hz⟩ := hpre
  have hi := hr.2.2.2.1
  rw [hr.2.2.1]
  refine ⟨fun h => ⟨by unfold R32; omega, fun σ5 e5 => ?_⟩, fun h => ⟨b, N, p, i, hr, fun u ρ _ _ ⟨e1, e2⟩ => ⟨.inl e1, .inr ⟨h, e1, e2⟩⟩⟩⟩
  have hf := frR.at hr.1.2.2 hr.2.2.2.2 e5
  have hp' : p ≠ 35 := by have := hr.1.2.2; unfold isText at this; omega
  have h31 := kd_lt hr.1.1 (i := i)
  refine ⟨b, N, p, i + 1, ⟨hf.rd hr (by rw [e5, mset_hit rfl]; rfl) (by omega), by rw [e5, mset_off hp']; exact hz.1⟩, fun u ρ _ _ ⟨e1, e2⟩ => ⟨.inr e1, .inl ⟨h, e1, by rw [e2, e5]⟩⟩⟩)

def wp_X5_takesNumber (x1 : Int) (x2 : Int) (x3 : Int) (σ : Mem) (Q : Int → Mem → Prop) : Prop :=
  (σ 30 5 ≤ 301) ∧
   (((if 0 ≤ σ 35 2 ∧ σ 35 2 < σ 30 5 then σ 32 (σ 35 2) else 43) = 41) →
    (σ 30 5 ≤ 301) ∧
    ∀ y8 : Int, y8 = (if 0 ≤ (σ 35 2) ∧ (σ 35 2) < σ 30 5 then σ 34 (σ 35 2) else -1) →
    ((x2 ≤ y8 ∧ y8 ≤ x3) →
     ∃ t12 : Nat, isText t12 ∧ σ 35 1 = (t12 : Int) ∧
     (0 < σ t12 9 ∧ σ t12 9 ≤ 24 ∧ 0 ≤ x1 ∧ x1 ≤ 3) ∧
     ∀ σ18 : Mem, σ18 = (mset σ (t12 + 4) ((σ t12 9 - 1) * 4 + x1) y8) →
     R32 ((σ18 35 2) + 1) ∧
     ∀ σ20 : Mem, σ20 = mset σ18 35 2 ((σ18 35 2) + 1) →
     Q 1 σ20) ∧
    ((¬ (x2 ≤ y8 ∧ y8 ≤ x3)) →
     ∃ g24 : Int → Int, ∃ g25 : Int, ∃ g26 : Nat, ∃ g27 : Nat, (rdC σ g24 g25 g26 g27) ∧
     ∀ (u32 : Int) (σ31 : Mem), R32 u32 → OKm σ31 → (u32 = 0 ∧ σ31 = mset (mset σ 35 4 (2 : Int)) 35 5 (ps g24 g25 g27)) →
     (u32 = 0 ∨ u32 = 1) ∧
     Q u32 σ31)) ∧
   (((if 0 ≤ σ 35 2 ∧ σ 35 2 < σ 30 5 then σ 32 (σ 35 2) else 43) ≠ 41) →
    ∃ g35 : Int → Int, ∃ g36 : Int, ∃ g37 : Nat, ∃ g38 : Nat, (rdC σ g35 g36 g37 g38) ∧
    ∀ (u43 : Int) (σ42 : Mem), R32 u43 → OKm σ42 → (u43 = 0 ∧ σ42 = mset (mset σ 35 4 (1 : Int)) 35 5 (ps g35 g36 g38)) →
    (u43 = 0 ∨ u43 = 1) ∧
    Q u43 σ42)
theorem mt_X5_takesNumber {d : Nat} (hd : 2 ≤ d) {x1 : Int} {x2 : Int} {x3 : Int} {σ : Mem} {Q : Int → Mem → Prop} (hx1 : R32 x1) (hx2 : R32 x2) (hx3 : R32 x3) (hO : OKm σ) (h : wp_X5_takesNumber x1 x2 x3 σ Q) : Mt yX5_takesNumber cX5_takesNumber 5 (some .boolean) d [aR (35), aI (x1), aI (x2), aI (x3)] σ (QI Q) := by
  refine Mt.intro (by decide +kernel) (Nat.le_of_ble_eq_true rfl) [(0, aR (35)), (1, aI (x1)), (2, aI (x2)), (3, aI (x3))] rfl ?_
  unfold wp_X5_takesNumber at h
  refine G_aload_n 0 rfl rfl dX5_takesNumber_0 ?_
  obtain ⟨c1, h⟩ := h
  refine G_callV (as := []) cf_X5_42 rfl rfl rfl (sp_X5_kind (d - 1) (by omega) _ hO  c1) (by omega) rfl rfl (Nat.le_of_ble_eq_true rfl) dX5_takesNumber_1 ?_
  rintro _ _ ⟨_, rfl, rfl, rfl⟩ o3 r2
  refine G_bipush (by decide) dX5_takesNumber_4 ?_
  refine G_icmp_eq (r2 _ rfl) (rL 41 rfl) dX5_takesNumber_6 (tgt := 15) (by decide) (fun c4 => ?_) (fun c4 => ?_)
  · have h := h.1 c4
    refine G_aload_n 0 rfl rfl dX5_takesNumber_15 ?_
    refine G_get (k := 0) (kd := (2, 30)) (v := aR 30) gf_X5_28 rfl rfl rfl rfl dX5_takesNumber_16 ?_
    refine G_aload_n 0 rfl rfl dX5_takesNumber_19 ?_
    refine G_get (k := 2) (kd := (0, 0)) (v := aI (σ 35 2)) gf_X5_15 rfl rfl rfl rfl dX5_takesNumber_20 ?_
    obtain ⟨c5, h⟩ := h
    refine G_callV (as := [_]) cf_X5_63 rfl rfl rfl (sp_X8_numberAt (d - 1) (by omega) _ hO _ (OKm.i hO 35 2 rfl) c5) (by omega) rfl rfl (Nat.le_of_ble_eq_true rfl) dX5_takesNumber_23 ?_
    rintro _ _ ⟨_, rfl, rfl, rfl⟩ o7 r6
    have h := h _ rfl
    refine G_istore (lv' := [(4, aI (((if 0 ≤ (σ 35 2) ∧ (σ 35 2) < σ 30 5 then σ 34 (σ 35 2) else -1)))), (0, aR (35)), (1, aI (x1)), (2, aI (x2)), (3, aI (x3))]) rfl (by decide) dX5_takesNumber_26 ?_
    refine G_iload 0 rfl dX5_takesNumber_28 ?_
    refine G_iload_n 3 rfl rfl dX5_takesNumber_30 ?_
    refine G_iload_n 4 rfl rfl dX5_takesNumber_31 ?_
    refine G_callN (as := [_, _, _]) cf_X5_66 rfl (sp_X11_within (d - 1) (by omega) _ hO _ (r6 _ rfl) _ hx2 _ hx3) (by omega) rfl rfl (Nat.le_of_ble_eq_true rfl) dX5_takesNumber_32 ?_
    rintro _ _ ⟨_, rfl, rfl, rfl⟩ o10 r9
    refine G_if_ne (bI_R _) dX5_takesNumber_35 (tgt := 44) (by decide) (fun c11 => ?_) (fun c11 => ?_)
    · have h := h.1 (bI_ne c11)
      refine G_aload_n 1 rfl rfl dX5_takesNumber_44 ?_
      obtain ⟨t12, c13, c14, h⟩ := h
      refine G_get (k := 1) (kd := (4, 0)) (v := aR t12) gf_X5_9 rfl rfl rfl (fa_text c13 c14) dX5_takesNumber_45 ?_
      refine G_iload_n 2 rfl rfl dX5_takesNumber_48 ?_
      refine G_iload 0 rfl dX5_takesNumber_49 ?_
      obtain ⟨c15, h⟩ := h
      refine G_callV (as := [_, _]) cf_X5_70 rfl (shT c13) rfl (sp_X9_setNumber (d - 1) (by omega) _ hO _ c13 _ hx1 _ (r6 _ rfl) c15) (by omega) rfl rfl (Nat.le_of_ble_eq_true rfl) dX5_takesNumber_51 ?_
      rintro _ σ18 ⟨rfl, e19⟩ o17 r16
      have h := h σ18 e19
      refine G_aload_n 1 rfl rfl dX5_takesNumber_54 ?_
      refine G_dup rfl dX5_takesNumber_55 ?_
      refine G_get (k := 2) (kd := (0, 0)) (v := aI (σ18 35 2)) gf_X5_15 rfl rfl rfl rfl dX5_takesNumber_56 ?_
      refine G_iconst dX5_takesNumber_59 ?_
      refine G_iadd dX5_takesNumber_60 ?_
      obtain ⟨c21, h⟩ := h
      obtain ⟨σ20, e23⟩ : ∃ τ : Mem, τ = mset σ18 35 2 ((σ18 35 2) + 1) := ⟨_, rfl⟩
      have h := h σ20 e23
      have o22 : OKm σ20 := by rw [e23]; exact OKm.seti o17 _ _ _ c21 rfl
      refine G_put (k := 2) (ki := 2) (kd := (0, 0)) (x := _) pf_X5_15 rfl rfl rfl rfl (fa_i (mset_self _ _ _ _)) (fun _ => rfl) (fun _ => rfl) dX5_takesNumber_61 ?_
      rw [← e23]
      refine G_iconst dX5_takesNumber_64 ?_
      exact G_zret rfl (by decide) dX5_takesNumber_65 ⟨_, rfl, h⟩ o22
    · have h := h.2 ((bI_0 _).mp c11)
      refine G_aload_n 1 rfl rfl dX5_takesNumber_38 ?_
      refine G_iconst dX5_takesNumber_39 ?_
      obtain ⟨g24, g25, g26, g27, c28, h⟩ := h
      refine G_callV (as := [_]) cf_X5_59 rfl rfl rfl (sp_X5_fails (d - 1) (by omega) _ hO _ (rL 2 rfl) g24 g25 g26 g27 c28) (by omega) rfl rfl (Nat.le_of_ble_eq_true rfl) dX5_takesNumber_40 ?_
      rintro _ σ31 ⟨u32, rfl, z33⟩ o30 r29
      have h := h _ _ (r29 _ rfl) o30 z33
      obtain ⟨c34, h⟩ := h
      exact G_zret rfl c34 dX5_takesNumber_43 ⟨_, rfl, h⟩ o30
  · have h := h.2 c4
    refine G_aload_n 0 rfl rfl dX5_takesNumber_9 ?_
    refine G_iconst dX5_takesNumber_10 ?_
    obtain ⟨g35, g36, g37, g38, c39, h⟩ := h
    refine G_callV (as := [_]) cf_X5_59 rfl rfl rfl (sp_X5_fails (d - 1) (by omega) _ hO _ (rL 1 rfl) g35 g36 g37 g38 c39) (by omega) rfl rfl (Nat.le_of_ble_eq_true rfl) dX5_takesNumber_11 ?_
    rintro _ σ42 ⟨u43, rfl, z44⟩ o41 r40
    have h := h _ _ (r40 _ rfl) o41 z44
    obtain ⟨c45, h⟩ := h
    exact G_zret rfl c45 dX5_takesNumber_14 ⟨_, rfl, h⟩ o41

theorem sp_X5_takesNumber (d : Nat) (hd : 2 ≤ d) (σ : Mem) (hO : OKm σ) (x1 : Int) (hx1 : R32 x1) (x2 : Int) (hx2 : R32 x2) (x3 : Int) (hx3 : R32 x3) (b : Int → Int) (N : Int) (p : Nat) (i : Nat) (hpre : rdC σ b N p i ∧ (0 < σ p 9 ∧ σ p 9 ≤ 24) ∧ (0 ≤ x1 ∧ x1 ≤ 3)) : Mt yX5_takesNumber cX5_takesNumber 5 (some .boolean) d [aR (35), aI (x1), aI (x2), aI (x3)] σ (QI (fun v σ' => (kd b N i ≠ 41 ∧ v = 0 ∧ σ' = mset (mset σ 35 4 1) 35 5 (ps b N i)) ∨ (kd b N i = 41 ∧ ¬ (x2 ≤ nu b N i ∧ nu b N i ≤ x3) ∧ v = 0 ∧ σ' = mset (mset σ 35 4 2) 35 5 (ps b N i)) ∨ (kd b N i = 41 ∧ (x2 ≤ nu b N i ∧ nu b N i ≤ x3) ∧ v = 1 ∧ σ' = mset (mset σ (p + 4) ((σ p 9 - 1) * 4 + x1) (nu b N i)) 35 2 ((i : Int) + 1)))) := mt_X5_takesNumber hd hx1 hx2 hx3 hO (by
  unfold wp_X5_takesNumber
  obtain ⟨hr, h9, hx⟩ := hpre
  have hi := hr.2.2.2.1
  have hp' : 35 ≠ p + 4 := by have := hr.1.2.2; unfold isText at this; omega
  refine ⟨hr.1.2.1.1.2, ?_⟩
  rw [hr.kind, hr.2.2.1]
  refine ⟨fun hk => ⟨hr.1.2.1.1.2, fun y e => ?_⟩, fun hk => ⟨b, N, p, i, hr, fun u ρ _ _ ⟨e1, e2⟩ => ⟨.inl e1, .inl ⟨hk, e1, e2⟩⟩⟩⟩
  rw [hr.1.2.1.num hr.1.1 hk] at e
  rw [e]
  refine ⟨fun h => ⟨p, hr.1.2.2, hr.2.1, ⟨h9.1, h9.2, hx⟩, fun ρ e2 => ?_⟩, fun h => ⟨b, N, p, i, hr, fun u ρ _ _ ⟨e1, e2⟩ => ⟨.inl e1, .inr (.inl ⟨hk, h, e1, e2⟩)⟩⟩⟩
  have e3 : ρ 35 2 = (i : Int) := by rw [e2, mset_off hp']; exact hr.2.2.1
  rw [e3]
  exact ⟨by unfold R32; omega, fun τ e4 => .inr (.inr ⟨hk, h, rfl, by rw [e4, e2]⟩)⟩)

abbrev SpS (nn : Nat) : Prop := ∀ (d : Nat) (hd : 8 * nn + 4 ≤ d) (σ : Mem) (hO : OKm σ) (x1 : Int) (hx1 : R32 x1) (b : Int → Int) (N : Int) (p : Nat) (i : Nat) (n : Nat) (lw : Int) (hpre : (rdC σ b N p i ∧ σ p 2 ≤ (i : Int) ∧ σ 35 3 = lw) ∧ x1 = 8 - (n : Int) ∧ n ≤ 8 ∧ n < nn), Mt yX5_takesSum cX5_takesSum 5 (some .boolean) d [aR (35), aI (x1)] σ (QI (fun v σ' => ansR b N p i (3 + 5 * (n : Int)) σ σ' v (pS (kd b N) (nu b N) lw n i)))

abbrev SpO (nn : Nat) : Prop := ∀ (d : Nat) (hd : 8 * nn + 4 ≤ d) (σ : Mem) (hO : OKm σ) (x1 : Int) (hx1 : R32 x1) (b : Int → Int) (N : Int) (p : Nat) (i : Nat) (n : Nat) (lw : Int) (hpre : (rdC σ b N p i ∧ σ p 2 ≤ (i : Int) ∧ σ 35 3 = lw) ∧ x1 = 8 - (n : Int) ∧ n ≤ 8 ∧ n < nn), Mt yX5_takesOne cX5_takesOne 3 (some .boolean) d [aR (35), aI (x1)] σ (QI (fun v σ' => ansR b N p i (1 + 5 * (n : Int)) σ σ' v (pO (kd b N) (nu b N) lw n i)))

abbrev SpA (nn : Nat) : Prop := ∀ (d : Nat) (hd : 8 * nn + 4 ≤ d) (σ : Mem) (hO : OKm σ) (x1 : Int) (hx1 : R32 x1) (b : Int → Int) (N : Int) (p : Nat) (i : Nat) (n : Nat) (lw : Int) (hpre : (rdC σ b N p i ∧ σ p 2 ≤ (i : Int) ∧ σ 35 3 = lw) ∧ x1 = 8 - (n : Int) ∧ n ≤ 8 ∧ n < nn), Mt yX5_takesAsk cX5_takesAsk 3 (some .boolean) d [aR (35), aI (x1)] σ (QI (fun v σ' => ansR b N p i (4 + 5 * (n : Int)) σ σ' v (pA (kd b N) (nu b N) lw n i)))

abbrev SpC (nn : Nat) : Prop := ∀ (d : Nat) (hd : 8 * nn + 4 ≤ d) (σ : Mem) (hO : OKm σ) (x1 : Int) (hx1 : R32 x1) (b : Int → Int) (N : Int) (p : Nat) (i : Nat) (n : Nat) (lw : Int) (hpre : (rdC σ b N p i ∧ σ p 2 ≤ (i : Int) ∧ σ 35 3 = lw) ∧ x1 = 8 - (n : Int) ∧ n ≤ 8 ∧ n < nn), Mt yX5_takesChoice cX5_takesChoice 4 (some .boolean) d [aR (35), aI (x1)] σ (QI (fun v σ' => ansR b N p i (6 + 5 * (n : Int)) σ σ' v (pC (kd b N) (nu b N) lw n i)))
