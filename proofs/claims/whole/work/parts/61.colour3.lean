def nearN (A : Mem) (τ : Mem) (n : Int) : Prop := ∀ t : Int, 0 ≤ t → t ≤ 7 → (0 ≤ τ 45 t ∧ τ 45 t < 256) ∧ ∀ u : Int, 0 ≤ u → u ≤ 7 → (tbt (τ 45 t) u = true ↔ ∃ r : Int, (0 ≤ r ∧ r < n) ∧ 0 < A 1 r ∧ jnR A r t u)
theorem near_add {A τ : Mem} {n : Int} {P : Int → Int → Prop} {x y : Int} (hx : 0 ≤ x ∧ x ≤ 7) (hy : 0 ≤ y ∧ y ≤ 7) (h : ∀ t : Int, 0 ≤ t → t ≤ 7 → (0 ≤ τ 45 t ∧ τ 45 t < 256) ∧ ∀ u : Int, 0 ≤ u → u ≤ 7 → (tbt (τ 45 t) u = true ↔ P t u)) : ∀ t : Int, 0 ≤ t → t ≤ 7 → (0 ≤ mset τ 45 x (bOr (τ 45 x) (bShl 1 y)) 45 t ∧ mset τ 45 x (bOr (τ 45 x) (bShl 1 y)) 45 t < 256) ∧ ∀ u : Int, 0 ≤ u → u ≤ 7 → (tbt (mset τ 45 x (bOr (τ 45 x) (bShl 1 y)) 45 t) u = true ↔ (P t u ∨ (t = x ∧ u = y))) := by
  intro t h0 h7
  obtain ⟨b, hb⟩ := h t h0 h7
  rw [mset_same]
  by_cases e : t = x
  · rw [if_pos e, ← e]
    have s1 := shl8 hy
    have o1 := fun u => tb_or (s := τ 45 t) (u := bShl 1 y) (t := u) (by omega) (by omega)
    refine ⟨⟨(o1 0).1.1, low8 (o1 0).1.1 (fun u hu => ?_)⟩, fun u u0 u7 => ?_⟩
    · rw [(o1 u).2, hi8 b hu, hi8 s1 hu]; rfl
    · rw [(o1 u).2, Bool.or_eq_true, hb u u0 u7, (tb_shl (k := y) (by omega) u0).2, decide_eq_true_iff]
      constructor
      · rintro (q | q)
        · exact Or.inl q
        · exact Or.inr ⟨rfl, q⟩
      · rintro (q | q)
        · exact Or.inl q
        · exact Or.inr q.2
  · rw [if_neg e]
    refine ⟨b, fun u u0 u7 => ?_⟩
    rw [hb u u0 u7]
    constructor
    · exact Or.inl
    · rintro (q | q)
      · exact q
      · exact absurd q.1 e

def wp_X4_findNear  (σ : Mem) (Q : Mem → Prop) : Prop :=
 ∀ P10 : Int → Mem → Prop,
 (∀ (v1 : Int) (σ : Mem), (R32 v1 → OKm σ →
   (((σ 1 8) ≤ v1) →
     Q σ) ∧
    ((v1 < (σ 1 8)) →
     (0 ≤ v1 ∧ v1 < 16) ∧
     ((¬ (0 < σ 11 v1)) →
      R32 (v1 + 1) ∧ P10 (v1 + 1) σ) ∧
     ((0 < σ 11 v1) →
      (0 ≤ v1 ∧ v1 < 16) ∧
      (0 ≤ (σ 2 v1) ∧ (σ 2 v1) < 8) ∧
      (0 ≤ v1 ∧ v1 < 16) ∧
      (0 ≤ (σ 2 v1) ∧ (σ 2 v1) < 8) ∧
      ∀ σ16 : Mem, σ16 = mset σ 45 (σ 2 v1) (bOr (σ 45 (σ 2 v1)) (bShl 1 (σ 3 v1))) →
      (0 ≤ v1 ∧ v1 < 16) ∧
      (0 ≤ (σ16 3 v1) ∧ (σ16 3 v1) < 8) ∧
      (0 ≤ v1 ∧ v1 < 16) ∧
      (0 ≤ (σ16 3 v1) ∧ (σ16 3 v1) < 8) ∧
      ∀ σ23 : Mem, σ23 = mset σ16 45 (σ16 3 v1) (bOr (σ16 45 (σ16 3 v1)) (bShl 1 (σ16 2 v1))) →
      R32 (v1 + 1) ∧ P10 (v1 + 1) σ23))) → P10 v1 σ) →
  ∀ σ3 : Mem, OKm σ3 → ((∀ i : Int, 0 ≤ i → i < 8 → σ3 45 i = (0 : Int)) ∧ Fr [45] σ σ3) →
   P10 0 σ3
theorem mt_X4_findNear {d : Nat} (hd : 1 ≤ d)  {σ : Mem} {Q : Mem → Prop}  (hO : OKm σ) (h : wp_X4_findNear  σ Q) : Mt yX4_findNear cX4_findNear 2 none d [aR (40)] σ (QV Q) := by
  refine Mt.intro (by decide +kernel) (Nat.le_of_ble_eq_true rfl) [(0, aR (40))] rfl ?_
  unfold wp_X4_findNear at h
  have h := h (fun (v1 : Int) (σ : Mem) => R32 v1 → OKm σ → G yX4_findNear cX4_findNear 2 none d (QV Q) 10 [(0, aR (40)), (1, aI (v1))] [] σ) ?_
  · refine G_aload_n 0 rfl rfl dX4_findNear_0 ?_
    refine G_get (k := 6) (kd := (3, 5)) (v := aR (45)) gf_X4_24 rfl rfl rfl rfl dX4_findNear_1 ?_
    refine G_iconst dX4_findNear_4 ?_
    refine G_callS (as := [_, _]) cf_X4_65 rfl (sp_J7_fill_53178_n (d - 1) (by omega) _ hO _ (rL 0 rfl)) (by omega) rfl rfl (Nat.le_of_ble_eq_true rfl) dX4_findNear_5 ?_
    rintro _ σ3 ⟨rfl, z5⟩ o2 r1
    have h := h _ o2 z5
    refine G_iconst dX4_findNear_8 ?_
    refine G_istore_n (lv' := [(1, aI (0)), (0, aR (40))]) rfl rfl (by decide) dX4_findNear_9 ?_
    exact G_pick [1, 0] rfl (h (rL 0 rfl) o2)
  · intro v1 σ h hv1 hO
    have h := h hv1 hO
    refine G_iload_n 1 rfl rfl dX4_findNear_10 ?_
    refine G_aload_n 0 rfl rfl dX4_findNear_11 ?_
    refine G_get (k := 0) (kd := (2, 1)) (v := aR 1) gf_X4_37 rfl rfl rfl rfl dX4_findNear_12 ?_
    refine G_get (k := 8) (kd := (0, 0)) (v := aI (σ 1 8)) gf_X4_50 rfl rfl rfl rfl dX4_findNear_15 ?_
    refine G_icmp_ge hv1 (OKm.i hO 1 8 rfl) dX4_findNear_18 (tgt := 91) (by decide) (fun c6 => ?_) (fun c6 => ?_)
    · have h := h.1 c6
      exact G_vret rfl dX4_findNear_91 ⟨rfl, h⟩ hO
    · have h := h.2 c6
      refine G_aload_n 0 rfl rfl dX4_findNear_21 ?_
      refine G_iload_n 1 rfl rfl dX4_findNear_22 ?_
      obtain ⟨c7, h⟩ := h
      refine G_callV (as := [_]) cf_X4_56 rfl rfl rfl (sp_X4_holds (d - 1) (by omega) _ hO _ hv1 c7) (by omega) rfl rfl (Nat.le_of_ble_eq_true rfl) dX4_findNear_23 ?_
      rintro _ _ ⟨_, rfl, rfl, rfl⟩ o9 r8
      refine G_if_eq (bI_R _) dX4_findNear_26 (tgt := 85) (by decide) (fun c10 => ?_) (fun c10 => ?_)
      · have h := h.1 ((bI_0 _).mp c10)
        refine G_iinc (lv' := [(1, aI ((v1 + 1))), (0, aR (40))]) (k := 1) rfl rfl (by decide) dX4_findNear_85 ?_
        refine G_goto (tgt := 10) dX4_findNear_88 (by decide) ?_
        obtain ⟨c11, h⟩ := h
        exact G_pick [1, 0] rfl (h c11 hO)
      · have h := h.2 (bI_ne c10)
        refine G_aload_n 0 rfl rfl dX4_findNear_29 ?_
        refine G_get (k := 6) (kd := (3, 5)) (v := aR (45)) gf_X4_24 rfl rfl rfl rfl dX4_findNear_30 ?_
        refine G_aload_n 0 rfl rfl dX4_findNear_33 ?_
        refine G_get (k := 0) (kd := (2, 1)) (v := aR 1) gf_X4_37 rfl rfl rfl rfl dX4_findNear_34 ?_
        refine G_get (k := 0) (kd := (3, 1)) (v := aR (2)) gf_X4_71 rfl rfl rfl rfl dX4_findNear_37 ?_
        refine G_iload_n 1 rfl rfl dX4_findNear_40 ?_
        obtain ⟨c12, h⟩ := h
        refine G_iald (n := 16) rfl c12.1 c12.2 dX4_findNear_41 ?_
        refine G_dup2 rfl rfl dX4_findNear_42 ?_
        obtain ⟨c13, h⟩ := h
        refine G_iald (n := 8) rfl c13.1 c13.2 dX4_findNear_43 ?_
        refine G_iconst dX4_findNear_44 ?_
        refine G_aload_n 0 rfl rfl dX4_findNear_45 ?_
        refine G_get (k := 0) (kd := (2, 1)) (v := aR 1) gf_X4_37 rfl rfl rfl rfl dX4_findNear_46 ?_
        refine G_get (k := 1) (kd := (3, 2)) (v := aR (3)) gf_X4_74 rfl rfl rfl rfl dX4_findNear_49 ?_
        refine G_iload_n 1 rfl rfl dX4_findNear_52 ?_
        obtain ⟨c14, h⟩ := h
        refine G_iald (n := 16) rfl c14.1 c14.2 dX4_findNear_53 ?_
        refine G_ishl dX4_findNear_54 ?_
        refine G_ior dX4_findNear_55 ?_
        obtain ⟨c15, h⟩ := h
        obtain ⟨σ16, e18⟩ : ∃ τ : Mem, τ = mset σ 45 (σ 2 v1) (bOr (σ 45 (σ 2 v1)) (bShl 1 (σ 3 v1))) := ⟨_, rfl⟩
        have h := h σ16 e18
        have o17 : OKm σ16 := by rw [e18]; exact OKm.seti hO _ _ _ (r32_of _) (isLg_row (show shp 45 = (1, 8, []) from rfl) _)
        refine G_iast (n := 8) rfl c15.1 c15.2 dX4_findNear_56 ?_
        rw [← e18]
        refine G_aload_n 0 rfl rfl dX4_findNear_57 ?_
        refine G_get (k := 6) (kd := (3, 5)) (v := aR (45)) gf_X4_24 rfl rfl rfl rfl dX4_findNear_58 ?_
        refine G_aload_n 0 rfl rfl dX4_findNear_61 ?_
        refine G_get (k := 0) (kd := (2, 1)) (v := aR 1) gf_X4_37 rfl rfl rfl rfl dX4_findNear_62 ?_
        refine G_get (k := 1) (kd := (3, 2)) (v := aR (3)) gf_X4_74 rfl rfl rfl rfl dX4_findNear_65 ?_
        refine G_iload_n 1 rfl rfl dX4_findNear_68 ?_
        obtain ⟨c19, h⟩ := h
        refine G_iald (n := 16) rfl c19.1 c19.2 dX4_findNear_69 ?_
        refine G_dup2 rfl rfl dX4_findNear_70 ?_
        obtain ⟨c20, h⟩ := h
        refine G_iald (n := 8) rfl c20.1 c20.2 dX4_findNear_71 ?_
        refine G_iconst dX4_findNear_72 ?_
        refine G_aload_n 0 rfl rfl dX4_findNear_73 ?_
        refine G_get (k := 0) (kd := (2, 1)) (v := aR 1) gf_X4_37 rfl rfl rfl rfl dX4_findNear_74 ?_
        refine G_get (k := 0) (kd := (3, 1)) (v := aR (2)) gf_X4_71 rfl rfl rfl rfl dX4_findNear_77 ?_
        refine G_iload_n 1 rfl rfl dX4_findNear_80 ?_
        obtain ⟨c21, h⟩ := h
        refine G_iald (n := 16) rfl c21.1 c21.2 dX4_findNear_81 ?_
        refine G_ishl dX4_findNear_82 ?_
        refine G_ior dX4_findNear_83 ?_
        obtain ⟨c22, h⟩ := h
        obtain ⟨σ23, e25⟩ : ∃ τ : Mem, τ = mset σ16 45 (σ16 3 v1) (bOr (σ16 45 (σ16 3 v1)) (bShl 1 (σ16 2 v1))) := ⟨_, rfl⟩
        have h := h σ23 e25
        have o24 : OKm σ23 := by rw [e25]; exact OKm.seti o17 _ _ _ (r32_of _) (isLg_row (show shp 45 = (1, 8, []) from rfl) _)
        refine G_iast (n := 8) rfl c22.1 c22.2 dX4_findNear_84 ?_
        rw [← e25]
        refine G_iinc (lv' := [(1, aI ((v1 + 1))), (0, aR (40))]) (k := 1) rfl rfl (by decide) dX4_findNear_85 ?_
        refine G_goto (tgt := 10) dX4_findNear_88 (by decide) ?_
        obtain ⟨c26, h⟩ := h
        exact G_pick [1, 0] rfl (h c26 o24)

theorem sp_X4_findNear (d : Nat) (hd : 1 ≤ d) (σ : Mem) (hO : OKm σ) (A : Mem) (tx : Nat → Txt) (hpre : vwC σ A tx) : Mt yX4_findNear cX4_findNear 2 none d [aR (40)] σ (QV (fun σ' => nearN A σ' (A 10 0) ∧ Fr [45] σ σ')) := mt_X4_findNear hd  hO (by
  unfold wp_X4_findNear
  intro P10 h10
  have hV := hpre
  have hI := hV.2.2.1
  have hc := hI.1
  have e8 : σ 1 8 = A 10 0 := hV.1.1.1
  have e9 : σ 1 9 = A 10 1 := hV.1.1.2.1
  intro σ3 o3 ⟨q3, f3⟩
  have H : ∀ (n k : Nat) (τ : Mem), k + n = (A 10 0).toNat → (nearN A τ (k : Int)) → (Fr [45] σ τ) → P10 (k : Int) τ := by
    intro n
    induction n with
    | zero =>
      intro k τ hk hn hF
      have hk2 : (k : Int) = A 10 0 := by omega
      have f8 : τ 1 8 = A 10 0 := by rw [hF 1 (by simp)]; exact e8
      rw [hk2] at hn
      exact h10 _ _ (fun _ _ => ⟨fun _ => ⟨hn, hF⟩, fun h => absurd h (by omega)⟩)
    | succ n ih =>
      intro k τ hk hn hF
      have f8 : τ 1 8 = A 10 0 := by rw [hF 1 (by simp)]; exact e8
      have hVt : vwC τ A tx := hV.fr (hF.wk (by simp))
      have t1 := hVt.1.2.1 (k : Int) (by omega) (by omega)
      have n1 := hVt.2.1.2.1 (k : Int) (by omega) (by omega)
      have s2 : τ 2 (k : Int) = A 11 (k : Int) := t1.1
      have s3 : τ 3 (k : Int) = A 12 (k : Int) := t1.2.1
      have hl := hI.2.1 (k : Int) (by omega) (by omega)
      refine h10 _ _ (fun _ _ => ⟨fun h => absurd h (by omega), fun _ => ?_⟩)
      rw [n1, s2, s3]
      refine ⟨by omega, fun h => ⟨by unfold R32; omega, ih (k + 1) τ (by omega) (fun t h0 h7 => ?_) hF⟩, fun h => ⟨by omega, by omega, by omega, by omega, fun σ16 e16 => ?_⟩⟩
      · obtain ⟨b, hb⟩ := hn t h0 h7
        refine ⟨b, fun u u0 u7 => ?_⟩
        rw [hb u u0 u7]
        constructor
        · intro ⟨r, q1, q2⟩; exact ⟨r, by omega, q2⟩
        · intro ⟨r, q1, q2⟩
          by_cases e : r = k
          · subst e; exact absurd q2.1 h
          · exact ⟨r, by omega, q2⟩
      · have f2 : σ16 2 (k : Int) = A 11 (k : Int) := by rw [e16, mset_off (by omega)]; exact s2
        have f3' : σ16 3 (k : Int) = A 12 (k : Int) := by rw [e16, mset_off (by omega)]; exact s3
        rw [f2, f3']
        refine ⟨by omega, by omega, by omega, by omega, fun σ23 e23 => ⟨by unfold R32; omega, ih (k + 1) σ23 (by omega) ?_ (by rw [e23, e16]; exact (hF.set (by simp)).set (by simp))⟩⟩
        have a1 := near_add (A := A) (n := (k : Int)) (x := A 11 (k : Int)) (y := A 12 (k : Int)) (by omega) (by omega) hn
        rw [← e16] at a1
        have a2 := near_add (A := A) (n := (k : Int)) (x := A 12 (k : Int)) (y := A 11 (k : Int)) (by omega) (by omega) a1
        rw [← e23] at a2
        intro t h0 h7
        obtain ⟨b, hb⟩ := a2 t h0 h7
        refine ⟨b, fun u u0 u7 => ?_⟩
        rw [hb u u0 u7]
        constructor
        · rintro ((⟨r, q1, q2⟩ | q) | q)
          · exact ⟨r, by omega, q2⟩
          · exact ⟨k, by omega, h, Or.inl ⟨q.1.symm, q.2.symm⟩⟩
          · exact ⟨k, by omega, h, Or.inr ⟨q.2.symm, q.1.symm⟩⟩
        · intro ⟨r, q1, q2, q3⟩
          by_cases e : r = k
          · subst e
            rcases q3 with ⟨z1, z2⟩ | ⟨z1, z2⟩
            · exact Or.inl (Or.inr ⟨z1.symm, z2.symm⟩)
            · exact Or.inr ⟨z2.symm, z1.symm⟩
          · exact Or.inl (Or.inl ⟨r, by omega, q2, q3⟩)
  refine H _ 0 σ3 (Nat.zero_add _) (fun t h0 h7 => ?_) f3
  rw [q3 t h0 (by omega)]
  refine ⟨by omega, fun u u0 u7 => ⟨fun h => by unfold tbt at h; simp at h, fun ⟨r, q1, q2⟩ => by omega⟩⟩)

theorem ind_iff {A : Mem} (hI : InvA A) {x : Int} (hx : 0 ≤ x ∧ x < 256) : indS A x.toNat = true ↔ ∀ r : Int, 0 ≤ r → r < A 10 0 → 0 < A 1 r → ¬ (tbt x (A 11 r) = true ∧ tbt x (A 12 r) = true) := by
  unfold indS
  rw [inN_iff]
  constructor
  · intro h r r0 r1 hn q
    have := h r.toNat (by omega)
    rw [show ((r.toNat : Nat) : Int) = r by omega] at this
    exact this (decide_eq_true hn) q
  · intro h r hr hn q
    exact h (r : Int) (by omega) (by omega) (of_decide_eq_true hn) q

def wp_X4_isRoadless (x1 : Int) (σ : Mem) (Q : Int → Mem → Prop) : Prop :=
 ∀ P2 : Int → Int → Mem → Prop,
 (∀ (v1 : Int) (v2 : Int) (σ : Mem), (R32 v1 → R32 v2 → OKm σ →
   ((8 ≤ v2) →
     Q 1 σ) ∧
    ((v2 < 8) →
     (((bAnd (bShr v1 v2) 1) ≠ 1) →
      R32 (v2 + 1) ∧ P2 v1 (v2 + 1) σ) ∧
     (((bAnd (bShr v1 v2) 1) = 1) →
      (0 ≤ v2 ∧ v2 < 8) ∧
      (((bAnd (σ 45 v2) v1) = 0) →
       R32 (v2 + 1) ∧ P2 v1 (v2 + 1) σ) ∧
      (((bAnd (σ 45 v2) v1) ≠ 0) →
       Q 0 σ)))) → P2 v1 v2 σ) →
  P2 x1 0 σ
theorem mt_X4_isRoadless {d : Nat} (hd : 0 ≤ d) {x1 : Int} {σ : Mem} {Q : Int → Mem → Prop} (hx1 : R32 x1) (hO : OKm σ) (h : wp_X4_isRoadless x1 σ Q) : Mt yX4_isRoadless cX4_isRoadless 3 (some .boolean) d [aR (40), aI (x1)] σ (QI Q) := by
  refine Mt.intro (by decide +kernel) (Nat.le_of_ble_eq_true rfl) [(0, aR (40)), (1, aI (x1))] rfl ?_
  unfold wp_X4_isRoadless at h
  have h := h (fun (v1 : Int) (v2 : Int) (σ : Mem) => R32 v1 → R32 v2 → OKm σ → G yX4_isRoadless cX4_isRoadless 3 (some .boolean) d (QI Q) 2 [(0, aR (40)), (1, aI (v1)), (2, aI (v2))] [] σ) ?_
  · refine G_iconst dX4_isRoadless_0 ?_
    refine G_istore_n (lv' := [(2, aI (0)), (0, aR (40)), (1, aI (x1))]) rfl rfl (by decide) dX4_isRoadless_1 ?_
    exact G_pick [1, 2, 0] rfl (h hx1 (rL 0 rfl) hO)
  · intro v1 v2 σ h hv1 hv2 hO
    have h := h hv1 hv2 hO
    refine G_iload_n 2 rfl rfl dX4_isRoadless_2 ?_
    refine G_bipush (by decide) dX4_isRoadless_3 ?_
    refine G_icmp_ge hv2 (rL 8 rfl) dX4_isRoadless_5 (tgt := 36) (by decide) (fun c1 => ?_) (fun c1 => ?_)
    · have h := h.1 c1
      refine G_iconst dX4_isRoadless_36 ?_
      exact G_zret rfl (by decide) dX4_isRoadless_37 ⟨_, rfl, h⟩ hO
    · have h := h.2 c1
      refine G_iload_n 1 rfl rfl dX4_isRoadless_8 ?_
      refine G_iload_n 2 rfl rfl dX4_isRoadless_9 ?_
      refine G_ishr dX4_isRoadless_10 ?_
      refine G_iconst dX4_isRoadless_11 ?_
      refine G_iand dX4_isRoadless_12 ?_
      refine G_iconst dX4_isRoadless_13 ?_
      refine G_icmp_ne (r32_of _) (rL 1 rfl) dX4_isRoadless_14 (tgt := 30) (by decide) (fun c2 => ?_) (fun c2 => ?_)
      · have h := h.1 c2
        refine G_iinc (lv' := [(2, aI ((v2 + 1))), (0, aR (40)), (1, aI (v1))]) (k := 2) rfl rfl (by decide) dX4_isRoadless_30 ?_
        refine G_goto (tgt := 2) dX4_isRoadless_33 (by decide) ?_
        obtain ⟨c3, h⟩ := h
        exact G_pick [1, 2, 0] rfl (h hv1 c3 hO)
      · have h := h.2 c2
        refine G_aload_n 0 rfl rfl dX4_isRoadless_17 ?_
        refine G_get (k := 6) (kd := (3, 5)) (v := aR (45)) gf_X4_24 rfl rfl rfl rfl dX4_isRoadless_18 ?_
        refine G_iload_n 2 rfl rfl dX4_isRoadless_21 ?_
        obtain ⟨c4, h⟩ := h
        refine G_iald (n := 8) rfl c4.1 c4.2 dX4_isRoadless_22 ?_
        refine G_iload_n 1 rfl rfl dX4_isRoadless_23 ?_
        refine G_iand dX4_isRoadless_24 ?_
        refine G_if_eq (r32_of _) dX4_isRoadless_25 (tgt := 30) (by decide) (fun c5 => ?_) (fun c5 => ?_)
        · have h := h.1 c5
          refine G_iinc (lv' := [(2, aI ((v2 + 1))), (0, aR (40)), (1, aI (v1))]) (k := 2) rfl rfl (by decide) dX4_isRoadless_30 ?_
          refine G_goto (tgt := 2) dX4_isRoadless_33 (by decide) ?_
          obtain ⟨c6, h⟩ := h
          exact G_pick [1, 2, 0] rfl (h hv1 c6 hO)
        · have h := h.2 c5
          refine G_iconst dX4_isRoadless_28 ?_
          exact G_zret rfl (by decide) dX4_isRoadless_29 ⟨_, rfl, h⟩ hO

theorem sp_X4_isRoadless (d : Nat) (hd : 0 ≤ d) (σ : Mem) (hO : OKm σ) (x1 : Int) (hx1 : R32 x1) (A : Mem) (hpre : nearN A σ (A 10 0) ∧ InvA A ∧ (0 ≤ x1 ∧ x1 < 256)) : Mt yX4_isRoadless cX4_isRoadless 3 (some .boolean) d [aR (40), aI (x1)] σ (QI (fun v σ' => v = (if indS A (x1).toNat = true then 1 else 0) ∧ σ' = σ)) := mt_X4_isRoadless hd hx1 hO (by
  unfold wp_X4_isRoadless
  intro P2 h2
  obtain ⟨hn, hI, hx⟩ := hpre
  have H : ∀ (n k : Nat), k + n = 8 → (∀ t : Int, 0 ≤ t → t < k → tbt x1 t = true → ∀ u : Int, 0 ≤ u → u ≤ 7 → ¬ (tbt (σ 45 t) u = true ∧ tbt x1 u = true)) → P2 x1 (k : Int) σ := by
    intro n
    induction n with
    | zero =>
      intro k hk hb
      refine h2 _ _ _ (fun _ _ _ => ⟨fun _ => ⟨?_, rfl⟩, fun h => absurd h (by omega)⟩)
      have : indS A x1.toNat = true := (ind_iff hI hx).mpr (fun r r0 r1 hn2 q => by
        have hl := hI.2.1 r r0 r1
        have e1 := ((hn (A 11 r) (by omega) (by omega)).2 (A 12 r) (by omega) (by omega)).mpr ⟨r, ⟨r0, r1⟩, hn2, Or.inl ⟨rfl, rfl⟩⟩
        exact hb (A 11 r) (by omega) (by omega) q.1 (A 12 r) (by omega) (by omega) ⟨e1, q.2⟩)
      rw [this, if_pos rfl]
    | succ n ih =>
      intro k hk hb
      have b := (hn (k : Int) (by omega) (by omega)).1
      have ha := fun u => tb_and (s := σ 45 (k : Int)) (u := x1) (t := u) (by omega) (by omega)
      refine h2 _ _ _ (fun _ _ _ => ⟨fun h => absurd h (by omega), fun _ => ?_⟩)
      rw [tbt_sh (s := x1) (k := (k : Int)) (by omega) (by omega)]
      cases hq : tbt x1 (k : Int) with
      | false =>
        refine ⟨fun _ => ⟨by unfold R32; omega, ih (k + 1) (by omega) (fun t t0 t1 ht => ?_)⟩, fun h => absurd h (by decide)⟩
        by_cases e : t = k
        · subst e; rw [hq] at ht; cases ht
        · exact hb t t0 (by omega) ht
      | true =>
        refine ⟨fun h => absurd rfl h, fun _ => ⟨by omega, fun h0 => ⟨by unfold R32; omega, ih (k + 1) (by omega) (fun t t0 t1 ht u u0 u7 q => ?_)⟩, fun h0 => ⟨?_, rfl⟩⟩⟩
        · by_cases e : t = k
          · subst e
            have := (ha u).2
            rw [h0, q.1, q.2] at this
            unfold tbt at this; simp at this
          · exact hb t t0 (by omega) ht u u0 u7 q
        · have : ∃ u : Int, (0 ≤ u ∧ u ≤ 7) ∧ tbt (σ 45 (k : Int)) u = true ∧ tbt x1 u = true := by
            obtain ⟨i, i1, i2⟩ := ex_bit (p := (bAnd (σ 45 (k : Int)) x1).toNat) (by have := (ha 0).1; omega) (by have := (ha 0).1; omega)
            have hi : tbt (bAnd (σ 45 (k : Int)) x1) (i : Int) = true := by unfold tbt; rw [Int.toNat_natCast]; exact i2
            rw [(ha (i : Int)).2, Bool.and_eq_true] at hi
            refine ⟨(i : Int), ⟨by omega, ?_⟩, hi⟩
            by_cases h8 : (i : Int) ≤ 7
            · exact h8
            · have := hi8 (s := x1) hx (show (8 : Int) ≤ (i : Int) by omega)
              rw [hi.2] at this; cases this
          obtain ⟨u, u0, u1, u2⟩ := this
          obtain ⟨r, r1, r2, r3⟩ := ((hn (k : Int) (by omega) (by omega)).2 u u0.1 u0.2).mp u1
          have hno : indS A x1.toNat = false := by
            cases hi : indS A x1.toNat with
            | false => rfl
            | true =>
              exfalso
              have := (ind_iff hI hx).mp hi r r1.1 r1.2 r2
              rcases r3 with ⟨z1, z2⟩ | ⟨z1, z2⟩
              · exact this ⟨by rw [z1]; exact hq, by rw [z2]; exact u2⟩
              · exact this ⟨by rw [z1]; exact u2, by rw [z2]; exact hq⟩
          rw [hno]; rfl
  exact H 8 0 (by omega) (fun t t0 t1 => by omega))
