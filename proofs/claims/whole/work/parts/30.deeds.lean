theorem txC {σ σ' : Mem} {A A' : Mem} {tx : Nat → Txt} (h : ∀ i : Nat, (i : Int) < A 10 2 → textC σ (54 + 5 * i) (tx i)) (hA : A' 10 2 = A 10 2) (hf : ∀ q : Nat, 54 ≤ q → q < 74 → σ' q = σ q) (hnt : A 10 2 ≤ 4) : ∀ i : Nat, (i : Int) < A' 10 2 → textC σ' (54 + 5 * i) (tx i) :=
  fun i hi => (h i (by omega)).congr (fun j hj => hf _ (by omega) (by omega))

def wp_X0_tellRoad (x1 : Int) (x2 : Int) (x3 : Int) (x4 : Int) (σ : Mem) (Q : Int → Mem → Prop) : Prop :=
  ((16 ≤ (σ 1 8)) →
    Q (-1) σ) ∧
   (((σ 1 8) < 16) →
    ((x1 ≠ x2) →
     (0 ≤ (σ 1 8) ∧ (σ 1 8) < 16) ∧
     ∀ σ4 : Mem, σ4 = mset σ 2 (σ 1 8) x1 →
     (0 ≤ (σ 1 8) ∧ (σ 1 8) < 16) ∧
     ∀ σ8 : Mem, σ8 = mset σ4 3 (σ 1 8) x2 →
     (0 ≤ (σ 1 8) ∧ (σ 1 8) < 16) ∧
     ∀ σ12 : Mem, σ12 = mset σ8 4 (σ 1 8) x3 →
     (0 ≤ (σ 1 8) ∧ (σ 1 8) < 16) ∧
     ∀ σ16 : Mem, σ16 = mset σ12 5 (σ 1 8) x4 →
     (0 ≤ (σ 1 8) ∧ (σ 1 8) < 16) ∧
     ∀ σ20 : Mem, σ20 = mset σ16 11 (σ 1 8) x4 →
     R32 ((σ20 1 8) + 1) ∧
     ∀ σ23 : Mem, σ23 = mset σ20 1 8 ((σ20 1 8) + 1) →
     Q (σ 1 8) σ23) ∧
    ((x1 = x2) →
     Q (-1) σ))
theorem mt_X0_tellRoad {d : Nat} (hd : 0 ≤ d) {x1 : Int} {x2 : Int} {x3 : Int} {x4 : Int} {σ : Mem} {Q : Int → Mem → Prop} (hx1 : R32 x1) (hx2 : R32 x2) (hx3 : R32 x3) (hx4 : R32 x4) (hO : OKm σ) (h : wp_X0_tellRoad x1 x2 x3 x4 σ Q) : Mt yX0_tellRoad cX0_tellRoad 6 (some .int) d [aR (38), aI (x1), aI (x2), aI (x3), aI (x4)] σ (QI Q) := by
  refine Mt.intro (by decide +kernel) (Nat.le_of_ble_eq_true rfl) [(0, aR (38)), (1, aI (x1)), (2, aI (x2)), (3, aI (x3)), (4, aI (x4))] rfl ?_
  unfold wp_X0_tellRoad at h
  refine G_aload_n 0 rfl rfl dX0_tellRoad_0 ?_
  refine G_get (k := 0) (kd := (2, 1)) (v := aR 1) gf_X0_17 rfl rfl rfl rfl dX0_tellRoad_1 ?_
  refine G_get (k := 8) (kd := (0, 0)) (v := aI (σ 1 8)) gf_X0_33 rfl rfl rfl rfl dX0_tellRoad_4 ?_
  refine G_istore (lv' := [(5, aI ((σ 1 8))), (0, aR (38)), (1, aI (x1)), (2, aI (x2)), (3, aI (x3)), (4, aI (x4))]) rfl (by decide) dX0_tellRoad_7 ?_
  refine G_iload 0 rfl dX0_tellRoad_9 ?_
  refine G_bipush (by decide) dX0_tellRoad_11 ?_
  refine G_icmp_ge (OKm.i hO 1 8 rfl) (rL 16 rfl) dX0_tellRoad_13 (tgt := 21) (by decide) (fun c1 => ?_) (fun c1 => ?_)
  · have h := h.1 c1
    refine G_iconst dX0_tellRoad_21 ?_
    exact G_iret rfl (rL (-1) rfl) dX0_tellRoad_22 ⟨_, rfl, h⟩ hO
  · have h := h.2 c1
    refine G_iload_n 2 rfl rfl dX0_tellRoad_16 ?_
    refine G_iload_n 3 rfl rfl dX0_tellRoad_17 ?_
    refine G_icmp_ne hx1 hx2 dX0_tellRoad_18 (tgt := 23) (by decide) (fun c2 => ?_) (fun c2 => ?_)
    · have h := h.1 c2
      refine G_aload_n 1 rfl rfl dX0_tellRoad_23 ?_
      refine G_get (k := 0) (kd := (2, 1)) (v := aR 1) gf_X0_17 rfl rfl rfl rfl dX0_tellRoad_24 ?_
      refine G_get (k := 0) (kd := (3, 1)) (v := aR (2)) gf_X0_39 rfl rfl rfl rfl dX0_tellRoad_27 ?_
      refine G_iload 0 rfl dX0_tellRoad_30 ?_
      refine G_iload_n 2 rfl rfl dX0_tellRoad_32 ?_
      obtain ⟨c3, h⟩ := h
      obtain ⟨σ4, e6⟩ : ∃ τ : Mem, τ = mset σ 2 (σ 1 8) x1 := ⟨_, rfl⟩
      have h := h σ4 e6
      have o5 : OKm σ4 := by rw [e6]; exact OKm.seti hO _ _ _ hx1 (isLg_row (show shp 2 = (1, 16, []) from rfl) _)
      refine G_iast (n := 16) rfl c3.1 c3.2 dX0_tellRoad_33 ?_
      rw [← e6]
      refine G_aload_n 1 rfl rfl dX0_tellRoad_34 ?_
      refine G_get (k := 0) (kd := (2, 1)) (v := aR 1) gf_X0_17 rfl rfl rfl rfl dX0_tellRoad_35 ?_
      refine G_get (k := 1) (kd := (3, 2)) (v := aR (3)) gf_X0_42 rfl rfl rfl rfl dX0_tellRoad_38 ?_
      refine G_iload 0 rfl dX0_tellRoad_41 ?_
      refine G_iload_n 3 rfl rfl dX0_tellRoad_43 ?_
      obtain ⟨c7, h⟩ := h
      obtain ⟨σ8, e10⟩ : ∃ τ : Mem, τ = mset σ4 3 (σ 1 8) x2 := ⟨_, rfl⟩
      have h := h σ8 e10
      have o9 : OKm σ8 := by rw [e10]; exact OKm.seti o5 _ _ _ hx2 (isLg_row (show shp 3 = (1, 16, []) from rfl) _)
      refine G_iast (n := 16) rfl c7.1 c7.2 dX0_tellRoad_44 ?_
      rw [← e10]
      refine G_aload_n 1 rfl rfl dX0_tellRoad_45 ?_
      refine G_get (k := 0) (kd := (2, 1)) (v := aR 1) gf_X0_17 rfl rfl rfl rfl dX0_tellRoad_46 ?_
      refine G_get (k := 2) (kd := (3, 3)) (v := aR (4)) gf_X0_45 rfl rfl rfl rfl dX0_tellRoad_49 ?_
      refine G_iload 0 rfl dX0_tellRoad_52 ?_
      refine G_iload_n 4 rfl rfl dX0_tellRoad_54 ?_
      obtain ⟨c11, h⟩ := h
      obtain ⟨σ12, e14⟩ : ∃ τ : Mem, τ = mset σ8 4 (σ 1 8) x3 := ⟨_, rfl⟩
      have h := h σ12 e14
      have o13 : OKm σ12 := by rw [e14]; exact OKm.seti o9 _ _ _ hx3 (isLg_row (show shp 4 = (1, 16, []) from rfl) _)
      refine G_iast (n := 16) rfl c11.1 c11.2 dX0_tellRoad_55 ?_
      rw [← e14]
      refine G_aload_n 1 rfl rfl dX0_tellRoad_56 ?_
      refine G_get (k := 0) (kd := (2, 1)) (v := aR 1) gf_X0_17 rfl rfl rfl rfl dX0_tellRoad_57 ?_
      refine G_get (k := 3) (kd := (3, 4)) (v := aR (5)) gf_X0_48 rfl rfl rfl rfl dX0_tellRoad_60 ?_
      refine G_iload 0 rfl dX0_tellRoad_63 ?_
      refine G_iload 5 rfl dX0_tellRoad_65 ?_
      obtain ⟨c15, h⟩ := h
      obtain ⟨σ16, e18⟩ : ∃ τ : Mem, τ = mset σ12 5 (σ 1 8) x4 := ⟨_, rfl⟩
      have h := h σ16 e18
      have o17 : OKm σ16 := by rw [e18]; exact OKm.seti o13 _ _ _ hx4 (isLg_row (show shp 5 = (1, 16, []) from rfl) _)
      refine G_iast (n := 16) rfl c15.1 c15.2 dX0_tellRoad_67 ?_
      rw [← e18]
      refine G_aload_n 1 rfl rfl dX0_tellRoad_68 ?_
      refine G_get (k := 1) (kd := (2, 10)) (v := aR 10) gf_X0_21 rfl rfl rfl rfl dX0_tellRoad_69 ?_
      refine G_get (k := 0) (kd := (3, 1)) (v := aR (11)) gf_X0_51 rfl rfl rfl rfl dX0_tellRoad_72 ?_
      refine G_iload 0 rfl dX0_tellRoad_75 ?_
      refine G_iload 5 rfl dX0_tellRoad_77 ?_
      obtain ⟨c19, h⟩ := h
      obtain ⟨σ20, e22⟩ : ∃ τ : Mem, τ = mset σ16 11 (σ 1 8) x4 := ⟨_, rfl⟩
      have h := h σ20 e22
      have o21 : OKm σ20 := by rw [e22]; exact OKm.seti o17 _ _ _ hx4 (isLg_row (show shp 11 = (1, 16, []) from rfl) _)
      refine G_iast (n := 16) rfl c19.1 c19.2 dX0_tellRoad_79 ?_
      rw [← e22]
      refine G_aload_n 1 rfl rfl dX0_tellRoad_80 ?_
      refine G_get (k := 0) (kd := (2, 1)) (v := aR 1) gf_X0_17 rfl rfl rfl rfl dX0_tellRoad_81 ?_
      refine G_dup rfl dX0_tellRoad_84 ?_
      refine G_get (k := 8) (kd := (0, 0)) (v := aI (σ20 1 8)) gf_X0_33 rfl rfl rfl rfl dX0_tellRoad_85 ?_
      refine G_iconst dX0_tellRoad_88 ?_
      refine G_iadd dX0_tellRoad_89 ?_
      obtain ⟨c24, h⟩ := h
      obtain ⟨σ23, e26⟩ : ∃ τ : Mem, τ = mset σ20 1 8 ((σ20 1 8) + 1) := ⟨_, rfl⟩
      have h := h σ23 e26
      have o25 : OKm σ23 := by rw [e26]; exact OKm.seti o21 _ _ _ c24 rfl
      refine G_put (k := 8) (ki := 8) (kd := (0, 0)) (x := _) pf_X0_33 rfl rfl rfl rfl (fa_i (mset_self _ _ _ _)) (fun _ => rfl) (fun _ => rfl) dX0_tellRoad_90 ?_
      rw [← e26]
      refine G_iload 0 rfl dX0_tellRoad_93 ?_
      exact G_iret rfl (OKm.i hO 1 8 rfl) dX0_tellRoad_95 ⟨_, rfl, h⟩ o25
    · have h := h.2 c2
      refine G_iconst dX0_tellRoad_21 ?_
      exact G_iret rfl (rL (-1) rfl) dX0_tellRoad_22 ⟨_, rfl, h⟩ hO

theorem sp_X0_tellRoad (d : Nat) (hd : 0 ≤ d) (σ : Mem) (hO : OKm σ) (x1 : Int) (hx1 : R32 x1) (x2 : Int) (hx2 : R32 x2) (x3 : Int) (hx3 : R32 x3) (x4 : Int) (hx4 : R32 x4) (A : Mem) (tx : Nat → Txt) (hpre : vwC σ A tx ∧ (0 ≤ x1 ∧ x1 ≤ 7 ∧ 0 ≤ x2 ∧ x2 ≤ 7) ∧ (1 ≤ x3 ∧ x3 ≤ 9) ∧ (1 ≤ x4 ∧ x4 ≤ 99)) : Mt yX0_tellRoad cX0_tellRoad 6 (some .int) d [aR (38), aI (x1), aI (x2), aI (x3), aI (x4)] σ (QI (fun v σ' => (A 10 0 < 16 ∧ x1 ≠ x2 → v = A 10 0 ∧ vwC σ' (roadS A x1 x2 x3 x4) tx) ∧ (¬ (A 10 0 < 16 ∧ x1 ≠ x2) → v = -1 ∧ vwC σ' A tx) ∧ Fr [1, 2, 3, 4, 5, 11] σ σ')) := mt_X0_tellRoad hd hx1 hx2 hx3 hx4 hO (by
  unfold wp_X0_tellRoad
  obtain ⟨hV, hab, hn, ht⟩ := hpre
  have hI := hV.2.2.1
  have hnt := hI.1
  have e8 := hV.1.1.1
  rw [e8]
  refine ⟨fun h => ⟨fun h2 => absurd h2.1 (by omega), fun _ => ⟨rfl, hV⟩, Fr.rf _ _⟩, fun h => ⟨fun hne => ?_, fun heq => ⟨fun h2 => absurd heq h2.2, fun _ => ⟨rfl, hV⟩, Fr.rf _ _⟩⟩⟩
  unfold R32
  repeat' (first | (intro _ e; subst e) | (refine And.intro ?_ ?_; first | omega | (simp (disch := omega) only [mset_off, mset_hit, mset_miss, mcpy_off, mcpy_hit, mcpy_miss, mrow_off, mrow_same]; omega)))
  refine ⟨fun _ => ⟨rfl, ?_⟩, fun h2 => absurd ⟨h, hne⟩ h2, ?_⟩
  · obtain ⟨⟨t0, t1, t2, t3⟩, ⟨n0, n1, n2, n3⟩, -, hX⟩ := hV
    refine ⟨⟨?_, fun r h1 h2 => ?_, fun g h1 h2 => ?_, fun i h1 h2 => ?_⟩, ⟨?_, fun r h1 h2 => ?_, fun g h1 h2 => ?_, fun i h1 h2 => ?_⟩, hI.road h (by omega) hn ht, txC hX ?_ (fun q h1 h2 => ?_) (by omega)⟩
    · unfold roadS; simp (disch := omega) only [mset_off, mset_hit, mset_miss, mcpy_off, mcpy_hit, mcpy_miss, mrow_off, mrow_same]; omega
    · unfold roadS at h2 ⊢
      simp (disch := omega) only [mset_hit] at h2
      by_cases e : r = A 10 0
      · subst e; simp (disch := omega) only [mset_off, mset_hit, mset_miss, mcpy_off, mcpy_hit, mcpy_miss, mrow_off, mrow_same]; exact ⟨trivial, trivial, trivial, trivial⟩
      · simp (disch := omega) only [mset_off, mset_hit, mset_miss, mcpy_off, mcpy_hit, mcpy_miss, mrow_off, mrow_same]; exact t1 r h1 (by omega)
    · unfold roadS at h2 ⊢
      simp (disch := omega) only [mset_off, mset_miss] at h2
      simp (disch := omega) only [mset_off, mset_hit, mset_miss, mcpy_off, mcpy_hit, mcpy_miss, mrow_off, mrow_same]; exact t2 g h1 h2
    · unfold roadS at h2 ⊢
      simp (disch := omega) only [mset_off, mset_miss] at h2
      simp (disch := omega) only [mset_off, mset_hit, mset_miss, mcpy_off, mcpy_hit, mcpy_miss, mrow_off, mrow_same]; exact t3 i h1 h2
    · unfold roadS; simp (disch := omega) only [mset_off, mset_hit, mset_miss, mcpy_off, mcpy_hit, mcpy_miss, mrow_off, mrow_same]; exact n0
    · unfold roadS at h2 ⊢
      simp (disch := omega) only [mset_hit] at h2
      by_cases e : r = A 10 0
      · subst e; simp (disch := omega) only [mset_off, mset_hit, mset_miss, mcpy_off, mcpy_hit, mcpy_miss, mrow_off, mrow_same]
      · simp (disch := omega) only [mset_off, mset_hit, mset_miss, mcpy_off, mcpy_hit, mcpy_miss, mrow_off, mrow_same]; exact n1 r h1 (by omega)
    · unfold roadS at h2 ⊢
      simp (disch := omega) only [mset_off, mset_miss] at h2
      simp (disch := omega) only [mset_off, mset_hit, mset_miss, mcpy_off, mcpy_hit, mcpy_miss, mrow_off, mrow_same]; exact n2 g h1 h2
    · unfold roadS bkC at *
      simp (disch := omega) only [mset_off] at h2
      simp (disch := omega) only [mset_off, mset_hit, mset_miss, mcpy_off, mcpy_hit, mcpy_miss, mrow_off, mrow_same]; exact n3 i h1 h2
    · unfold roadS; simp (disch := omega) only [mset_off, mset_hit, mset_miss, mcpy_off, mcpy_hit, mcpy_miss, mrow_off, mrow_same]
    · funext j; simp (disch := omega) only [mset_off, mset_hit, mset_miss, mcpy_off, mcpy_hit, mcpy_miss, mrow_off, mrow_same]
  · intro q hq
    simp only [List.mem_cons, List.not_mem_nil, or_false, not_or] at hq
    funext j
    simp (disch := omega) only [mset_off, mset_hit, mset_miss, mcpy_off, mcpy_hit, mcpy_miss, mrow_off, mrow_same])

def wp_X0_tellGoer (x1 : Int) (x2 : Int) (σ : Mem) (Q : Int → Mem → Prop) : Prop :=
  (((σ 1 9) < 6) →
    (0 ≤ (σ 1 9) ∧ (σ 1 9) < 6) ∧
    ∀ σ3 : Mem, σ3 = mset σ 6 (σ 1 9) x2 →
    (0 ≤ (σ 1 9) ∧ (σ 1 9) < 6) ∧
    ∀ σ7 : Mem, σ7 = mset σ3 12 (σ 1 9) x1 →
    (0 ≤ (σ 1 9) ∧ (σ 1 9) < 6) ∧
    ∀ σ11 : Mem, σ11 = mset σ7 13 (σ 1 9) 0 →
    R32 ((σ11 1 9) + 1) ∧
    ∀ σ14 : Mem, σ14 = mset σ11 1 9 ((σ11 1 9) + 1) →
    Q (σ 1 9) σ14) ∧
   ((6 ≤ (σ 1 9)) →
    Q (-1) σ)
theorem mt_X0_tellGoer {d : Nat} (hd : 0 ≤ d) {x1 : Int} {x2 : Int} {σ : Mem} {Q : Int → Mem → Prop} (hx1 : R32 x1) (hx2 : R32 x2) (hO : OKm σ) (h : wp_X0_tellGoer x1 x2 σ Q) : Mt yX0_tellGoer cX0_tellGoer 4 (some .int) d [aR (38), aI (x1), aI (x2)] σ (QI Q) := by
  refine Mt.intro (by decide +kernel) (Nat.le_of_ble_eq_true rfl) [(0, aR (38)), (1, aI (x1)), (2, aI (x2))] rfl ?_
  unfold wp_X0_tellGoer at h
  refine G_aload_n 0 rfl rfl dX0_tellGoer_0 ?_
  refine G_get (k := 0) (kd := (2, 1)) (v := aR 1) gf_X0_17 rfl rfl rfl rfl dX0_tellGoer_1 ?_
  refine G_get (k := 9) (kd := (0, 0)) (v := aI (σ 1 9)) gf_X0_54 rfl rfl rfl rfl dX0_tellGoer_4 ?_
  refine G_istore_n (lv' := [(3, aI ((σ 1 9))), (0, aR (38)), (1, aI (x1)), (2, aI (x2))]) rfl rfl (by decide) dX0_tellGoer_7 ?_
  refine G_iload_n 0 rfl rfl dX0_tellGoer_8 ?_
  refine G_bipush (by decide) dX0_tellGoer_9 ?_
  refine G_icmp_lt (OKm.i hO 1 9 rfl) (rL 6 rfl) dX0_tellGoer_11 (tgt := 16) (by decide) (fun c1 => ?_) (fun c1 => ?_)
  · have h := h.1 c1
    refine G_aload_n 1 rfl rfl dX0_tellGoer_16 ?_
    refine G_get (k := 0) (kd := (2, 1)) (v := aR 1) gf_X0_17 rfl rfl rfl rfl dX0_tellGoer_17 ?_
    refine G_get (k := 4) (kd := (3, 5)) (v := aR (6)) gf_X0_57 rfl rfl rfl rfl dX0_tellGoer_20 ?_
    refine G_iload_n 0 rfl rfl dX0_tellGoer_23 ?_
    refine G_iload_n 3 rfl rfl dX0_tellGoer_24 ?_
    obtain ⟨c2, h⟩ := h
    obtain ⟨σ3, e5⟩ : ∃ τ : Mem, τ = mset σ 6 (σ 1 9) x2 := ⟨_, rfl⟩
    have h := h σ3 e5
    have o4 : OKm σ3 := by rw [e5]; exact OKm.seti hO _ _ _ hx2 (isLg_row (show shp 6 = (1, 6, []) from rfl) _)
    refine G_iast (n := 6) rfl c2.1 c2.2 dX0_tellGoer_25 ?_
    rw [← e5]
    refine G_aload_n 1 rfl rfl dX0_tellGoer_26 ?_
    refine G_get (k := 1) (kd := (2, 10)) (v := aR 10) gf_X0_21 rfl rfl rfl rfl dX0_tellGoer_27 ?_
    refine G_get (k := 1) (kd := (3, 2)) (v := aR (12)) gf_X0_60 rfl rfl rfl rfl dX0_tellGoer_30 ?_
    refine G_iload_n 0 rfl rfl dX0_tellGoer_33 ?_
    refine G_iload_n 2 rfl rfl dX0_tellGoer_34 ?_
    obtain ⟨c6, h⟩ := h
    obtain ⟨σ7, e9⟩ : ∃ τ : Mem, τ = mset σ3 12 (σ 1 9) x1 := ⟨_, rfl⟩
    have h := h σ7 e9
    have o8 : OKm σ7 := by rw [e9]; exact OKm.seti o4 _ _ _ hx1 (isLg_row (show shp 12 = (1, 6, []) from rfl) _)
    refine G_iast (n := 6) rfl c6.1 c6.2 dX0_tellGoer_35 ?_
    rw [← e9]
    refine G_aload_n 1 rfl rfl dX0_tellGoer_36 ?_
    refine G_get (k := 1) (kd := (2, 10)) (v := aR 10) gf_X0_21 rfl rfl rfl rfl dX0_tellGoer_37 ?_
    refine G_get (k := 2) (kd := (3, 3)) (v := aR (13)) gf_X0_63 rfl rfl rfl rfl dX0_tellGoer_40 ?_
    refine G_iload_n 0 rfl rfl dX0_tellGoer_43 ?_
    refine G_iconst dX0_tellGoer_44 ?_
    obtain ⟨c10, h⟩ := h
    obtain ⟨σ11, e13⟩ : ∃ τ : Mem, τ = mset σ7 13 (σ 1 9) 0 := ⟨_, rfl⟩
    have h := h σ11 e13
    have o12 : OKm σ11 := by rw [e13]; exact OKm.seti o8 _ _ _ (rL 0 rfl) (isLg_row (show shp 13 = (1, 6, []) from rfl) _)
    refine G_iast (n := 6) rfl c10.1 c10.2 dX0_tellGoer_45 ?_
    rw [← e13]
    refine G_aload_n 1 rfl rfl dX0_tellGoer_46 ?_
    refine G_get (k := 0) (kd := (2, 1)) (v := aR 1) gf_X0_17 rfl rfl rfl rfl dX0_tellGoer_47 ?_
    refine G_dup rfl dX0_tellGoer_50 ?_
    refine G_get (k := 9) (kd := (0, 0)) (v := aI (σ11 1 9)) gf_X0_54 rfl rfl rfl rfl dX0_tellGoer_51 ?_
    refine G_iconst dX0_tellGoer_54 ?_
    refine G_iadd dX0_tellGoer_55 ?_
    obtain ⟨c15, h⟩ := h
    obtain ⟨σ14, e17⟩ : ∃ τ : Mem, τ = mset σ11 1 9 ((σ11 1 9) + 1) := ⟨_, rfl⟩
    have h := h σ14 e17
    have o16 : OKm σ14 := by rw [e17]; exact OKm.seti o12 _ _ _ c15 rfl
    refine G_put (k := 9) (ki := 9) (kd := (0, 0)) (x := _) pf_X0_54 rfl rfl rfl rfl (fa_i (mset_self _ _ _ _)) (fun _ => rfl) (fun _ => rfl) dX0_tellGoer_56 ?_
    rw [← e17]
    refine G_iload_n 0 rfl rfl dX0_tellGoer_59 ?_
    exact G_iret rfl (OKm.i hO 1 9 rfl) dX0_tellGoer_60 ⟨_, rfl, h⟩ o16
  · have h := h.2 c1
    refine G_iconst dX0_tellGoer_14 ?_
    exact G_iret rfl (rL (-1) rfl) dX0_tellGoer_15 ⟨_, rfl, h⟩ hO

theorem sp_X0_tellGoer (d : Nat) (hd : 0 ≤ d) (σ : Mem) (hO : OKm σ) (x1 : Int) (hx1 : R32 x1) (x2 : Int) (hx2 : R32 x2) (A : Mem) (tx : Nat → Txt) (hpre : vwC σ A tx ∧ (0 ≤ x1 ∧ x1 ≤ 7) ∧ (1 ≤ x2 ∧ x2 ≤ 9)) : Mt yX0_tellGoer cX0_tellGoer 4 (some .int) d [aR (38), aI (x1), aI (x2)] σ (QI (fun v σ' => (A 10 1 < 6 → v = A 10 1 ∧ vwC σ' (goerS A x1 x2) tx) ∧ (¬ (A 10 1 < 6) → v = -1 ∧ vwC σ' A tx) ∧ Fr [1, 6, 12, 13] σ σ')) := mt_X0_tellGoer hd hx1 hx2 hO (by
  unfold wp_X0_tellGoer
  obtain ⟨hV, hab, hn⟩ := hpre
  have hI := hV.2.2.1
  have hnt := hI.1
  have e9 := hV.1.1.2.1
  rw [e9]
  refine ⟨fun h => ?_, fun h => ⟨fun h2 => absurd h2 (by omega), fun _ => ⟨rfl, hV⟩, Fr.rf _ _⟩⟩
  unfold R32
  repeat' (first | (intro _ e; subst e) | (refine And.intro ?_ ?_; first | omega | (simp (disch := omega) only [mset_off, mset_hit, mset_miss, mcpy_off, mcpy_hit, mcpy_miss, mrow_off, mrow_same]; omega)))
  refine ⟨fun _ => ⟨rfl, ?_⟩, fun h2 => absurd h h2, ?_⟩
  · obtain ⟨⟨t0, t1, t2, t3⟩, ⟨n0, n1, n2, n3⟩, -, hX⟩ := hV
    refine ⟨⟨?_, fun r h1 h2 => ?_, fun g h1 h2 => ?_, fun i h1 h2 => ?_⟩, ⟨?_, fun r h1 h2 => ?_, fun g h1 h2 => ?_, fun i h1 h2 => ?_⟩, hI.goer h (by omega) hn, txC hX ?_ (fun q h1 h2 => ?_) (by omega)⟩
    · unfold goerS; simp (disch := omega) only [mset_off, mset_hit, mset_miss, mcpy_off, mcpy_hit, mcpy_miss, mrow_off, mrow_same]; omega
    · unfold goerS at h2 ⊢
      simp (disch := omega) only [mset_off, mset_miss] at h2
      simp (disch := omega) only [mset_off, mset_hit, mset_miss, mcpy_off, mcpy_hit, mcpy_miss, mrow_off, mrow_same]; exact t1 r h1 h2
    · unfold goerS at h2 ⊢
      simp (disch := omega) only [mset_hit] at h2
      by_cases e : g = A 10 1
      · subst e; simp (disch := omega) only [mset_off, mset_hit, mset_miss, mcpy_off, mcpy_hit, mcpy_miss, mrow_off, mrow_same]
      · simp (disch := omega) only [mset_off, mset_hit, mset_miss, mcpy_off, mcpy_hit, mcpy_miss, mrow_off, mrow_same]; exact t2 g h1 (by omega)
    · unfold goerS at h2 ⊢
      simp (disch := omega) only [mset_off, mset_miss] at h2
      simp (disch := omega) only [mset_off, mset_hit, mset_miss, mcpy_off, mcpy_hit, mcpy_miss, mrow_off, mrow_same]; exact t3 i h1 h2
    · unfold goerS; simp (disch := omega) only [mset_off, mset_hit, mset_miss, mcpy_off, mcpy_hit, mcpy_miss, mrow_off, mrow_same]; exact n0
    · unfold goerS at h2 ⊢
      simp (disch := omega) only [mset_off, mset_miss] at h2
      simp (disch := omega) only [mset_off, mset_hit, mset_miss, mcpy_off, mcpy_hit, mcpy_miss, mrow_off, mrow_same]; exact n1 r h1 h2
    · unfold goerS at h2 ⊢
      simp (disch := omega) only [mset_hit] at h2
      by_cases e : g = A 10 1
      · subst e; simp (disch := omega) only [mset_off, mset_hit, mset_miss, mcpy_off, mcpy_hit, mcpy_miss, mrow_off, mrow_same]; exact ⟨trivial, trivial⟩
      · simp (disch := omega) only [mset_off, mset_hit, mset_miss, mcpy_off, mcpy_hit, mcpy_miss, mrow_off, mrow_same]; exact n2 g h1 (by omega)
    · unfold goerS bkC at *
      simp (disch := omega) only [mset_off] at h2
      simp (disch := omega) only [mset_off, mset_hit, mset_miss, mcpy_off, mcpy_hit, mcpy_miss, mrow_off, mrow_same]; exact n3 i h1 h2
    · unfold goerS; simp (disch := omega) only [mset_off, mset_hit, mset_miss, mcpy_off, mcpy_hit, mcpy_miss, mrow_off, mrow_same]
    · funext j; simp (disch := omega) only [mset_off, mset_hit, mset_miss, mcpy_off, mcpy_hit, mcpy_miss, mrow_off, mrow_same]
  · intro q hq
    simp only [List.mem_cons, List.not_mem_nil, or_false, not_or] at hq
    funext j
    simp (disch := omega) only [mset_off, mset_hit, mset_miss, mcpy_off, mcpy_hit, mcpy_miss, mrow_off, mrow_same])

theorem bOr_comm' (x y : Int) : bOr x y = bOr y x := by unfold bOr; rw [Int32.or_comm]
theorem bShl1 {k : Int} (h0 : 0 ≤ k) (h : k ≤ 30) : bShl 1 k = 2 ^ k.toNat := by
  obtain ⟨n, rfl⟩ : ∃ n : Nat, k = n := ⟨k.toNat, by omega⟩
  have h2 : (2 : Int) ^ n ≤ 2 ^ 30 := by
    have : (2 : Nat) ^ n ≤ 2 ^ 30 := Nat.pow_le_pow_right (by omega) (by omega)
    exact_mod_cast this
  have := bShl_i (x := 1) n (by omega) (by omega) (by omega)
  rw [this]; simp
theorem pow_pos' (n : Nat) : (0 : Int) < 2 ^ n := by
  have : (0 : Nat) < 2 ^ n := Nat.two_pow_pos n
  exact_mod_cast this
theorem pow_le' {n m : Nat} (h : n ≤ m) : (2 : Int) ^ n ≤ 2 ^ m := by
  have : (2 : Nat) ^ n ≤ 2 ^ m := Nat.pow_le_pow_right (by omega) h
  exact_mod_cast this
theorem bOr_bit {x k : Int} (hx : 0 ≤ x) (h0 : 0 ≤ k) (hk : k ≤ 30) (h : x < 2 ^ k.toNat) : bOr x (bShl 1 k) = x + 2 ^ k.toNat := by
  rw [bShl1 h0 hk, bOr_comm']
  have h3 := pow_le' (show k.toNat ≤ 30 by omega)
  have := bOr_add (a := 1) (b := x) k.toNat (by omega) hx h (by omega) (by omega)
  rw [Int.one_mul] at this
  rw [this]; omega
/-- the roads below n that g can go, as bits -/
def opN (A : Mem) (tx : Nat → Txt) (g : Int) : Nat → Int
  | 0 => 0
  | n + 1 => opN A tx g n + (if canGo A tx g (n : Int) then 2 ^ n else 0)
theorem opN_r (A : Mem) (tx : Nat → Txt) (g : Int) : ∀ n : Nat, 0 ≤ opN A tx g n ∧ opN A tx g n < 2 ^ n
  | 0 => by simp [opN]
  | n + 1 => by
    have := opN_r A tx g n
    have hp := pow_pos' n
    unfold opN
    rw [Int.pow_succ]
    split <;> omega
def opS (A : Mem) (tx : Nat → Txt) (g : Int) : Int := opN A tx g (A 10 0).toNat
theorem opN_t {A : Mem} {tx : Nat → Txt} {g k : Int} (h0 : 0 ≤ k) (h : canGo A tx g k = true) : opN A tx g (k + 1).toNat = opN A tx g k.toNat + 2 ^ k.toNat := by
  rw [show (k + 1).toNat = k.toNat + 1 by omega]
  show opN A tx g k.toNat + (if canGo A tx g (k.toNat : Int) then 2 ^ k.toNat else 0) = _
  rw [show ((k.toNat : Nat) : Int) = k by omega, h, if_pos rfl]
theorem opN_f {A : Mem} {tx : Nat → Txt} {g k : Int} (h0 : 0 ≤ k) (h : canGo A tx g k = false) : opN A tx g (k + 1).toNat = opN A tx g k.toNat := by
  rw [show (k + 1).toNat = k.toNat + 1 by omega]
  show opN A tx g k.toNat + (if canGo A tx g (k.toNat : Int) then 2 ^ k.toNat else 0) = _
  rw [show ((k.toNat : Nat) : Int) = k by omega, h]
  simp

def wp_X0_openRoads (x1 : Int) (σ : Mem) (Q : Int → Mem → Prop) : Prop :=
 ∀ P4 : Int → Int → Int → Mem → Prop,
 (∀ (v1 : Int) (v2 : Int) (v3 : Int) (σ : Mem), (R32 v1 → R32 v2 → R32 v3 → OKm σ →
   (((σ 1 8) ≤ v3) →
     Q v2 σ) ∧
    ((v3 < (σ 1 8)) →
     (0 ≤ v1 ∧ v1 < 6) ∧
     (0 ≤ v3 ∧ v3 < 16) ∧
     ((¬ (σ 2 v3 = (σ 12 v1) ∨ σ 3 v3 = (σ 12 v1))) →
      R32 (v3 + 1) ∧ P4 v1 v2 (v3 + 1) σ) ∧
     ((σ 2 v3 = (σ 12 v1) ∨ σ 3 v3 = (σ 12 v1)) →
      ∃ g8 : Mem, ∃ g9 : Nat → Txt, (vwC σ g8 g9 ∧ (-1 ≤ (σ 1 12) ∧ (σ 1 12) < g8 10 2) ∧ (0 ≤ v1 ∧ v1 < g8 10 1) ∧ (0 ≤ v3 ∧ v3 < g8 10 0)) ∧
      ∀ (u14 : Int) (σ13 : Mem), R32 u14 → OKm σ13 → (u14 = skS g8 g9 (σ 1 12) v1 v3 ∧ Fr [37] σ σ13) →
      (0 ≤ v3 ∧ v3 < 16) ∧
      (((σ13 11 v3) < u14) →
       R32 (v3 + 1) ∧ P4 v1 v2 (v3 + 1) σ13) ∧
      ((u14 ≤ (σ13 11 v3)) →
       R32 (v3 + 1) ∧ P4 v1 (bOr v2 (bShl 1 v3)) (v3 + 1) σ13)))) → P4 v1 v2 v3 σ) →
  P4 x1 0 0 σ
theorem mt_X0_openRoads {d : Nat} (hd : 4 ≤ d) {x1 : Int} {σ : Mem} {Q : Int → Mem → Prop} (hx1 : R32 x1) (hO : OKm σ) (h : wp_X0_openRoads x1 σ Q) : Mt yX0_openRoads cX0_openRoads 4 (some .int) d [aR (38), aI (x1)] σ (QI Q) := by
  refine Mt.intro (by decide +kernel) (Nat.le_of_ble_eq_true rfl) [(0, aR (38)), (1, aI (x1))] rfl ?_
  unfold wp_X0_openRoads at h
  have h := h (fun (v1 : Int) (v2 : Int) (v3 : Int) (σ : Mem) => R32 v1 → R32 v2 → R32 v3 → OKm σ → G yX0_openRoads cX0_openRoads 4 (some .int) d (QI Q) 4 [(0, aR (38)), (1, aI (v1)), (2, aI (v2)), (3, aI (v3))] [] σ) ?_
  · refine G_iconst dX0_openRoads_0 ?_
    refine G_istore_n (lv' := [(2, aI (0)), (0, aR (38)), (1, aI (x1))]) rfl rfl (by decide) dX0_openRoads_1 ?_
    refine G_iconst dX0_openRoads_2 ?_
    refine G_istore_n (lv' := [(3, aI (0)), (2, aI (0)), (0, aR (38)), (1, aI (x1))]) rfl rfl (by decide) dX0_openRoads_3 ?_
    exact G_pick [2, 3, 1, 0] rfl (h hx1 (rL 0 rfl) (rL 0 rfl) hO)
  · intro v1 v2 v3 σ h hv1 hv2 hv3 hO
    have h := h hv1 hv2 hv3 hO
    refine G_iload_n 3 rfl rfl dX0_openRoads_4 ?_
    refine G_aload_n 0 rfl rfl dX0_openRoads_5 ?_
    refine G_get (k := 0) (kd := (2, 1)) (v := aR 1) gf_X0_17 rfl rfl rfl rfl dX0_openRoads_6 ?_
    refine G_get (k := 8) (kd := (0, 0)) (v := aI (σ 1 8)) gf_X0_33 rfl rfl rfl rfl dX0_openRoads_9 ?_
    refine G_icmp_ge hv3 (OKm.i hO 1 8 rfl) dX0_openRoads_12 (tgt := 75) (by decide) (fun c1 => ?_) (fun c1 => ?_)
    · have h := h.1 c1
      refine G_iload_n 2 rfl rfl dX0_openRoads_75 ?_
      exact G_iret rfl hv2 dX0_openRoads_76 ⟨_, rfl, h⟩ hO
    · have h := h.2 c1
      refine G_aload_n 0 rfl rfl dX0_openRoads_15 ?_
      refine G_get (k := 0) (kd := (2, 1)) (v := aR 1) gf_X0_17 rfl rfl rfl rfl dX0_openRoads_16 ?_
      refine G_iload_n 3 rfl rfl dX0_openRoads_19 ?_
      refine G_aload_n 0 rfl rfl dX0_openRoads_20 ?_
      refine G_get (k := 1) (kd := (2, 10)) (v := aR 10) gf_X0_21 rfl rfl rfl rfl dX0_openRoads_21 ?_
      refine G_get (k := 1) (kd := (3, 2)) (v := aR (12)) gf_X0_60 rfl rfl rfl rfl dX0_openRoads_24 ?_
      refine G_iload_n 1 rfl rfl dX0_openRoads_27 ?_
      obtain ⟨c2, h⟩ := h
      refine G_iald (n := 6) rfl c2.1 c2.2 dX0_openRoads_28 ?_
      obtain ⟨c3, h⟩ := h
      refine G_callV (as := [_, _]) cf_X0_66 rfl rfl rfl (sp_X10_touches (d - 1) (by omega) _ hO _ hv3 _ (OKm.i hO 12 v1 (isLg_row (show shp 12 = (1, 6, []) from rfl) _)) c3) (by omega) rfl rfl (Nat.le_of_ble_eq_true rfl) dX0_openRoads_29 ?_
      rintro _ _ ⟨_, rfl, rfl, rfl⟩ o5 r4
      refine G_if_eq (bI_R _) dX0_openRoads_32 (tgt := 69) (by decide) (fun c6 => ?_) (fun c6 => ?_)
      · have h := h.1 ((bI_0 _).mp c6)
        refine G_iinc (lv' := [(3, aI ((v3 + 1))), (0, aR (38)), (1, aI (v1)), (2, aI (v2))]) (k := 3) rfl rfl (by decide) dX0_openRoads_69 ?_
        refine G_goto (tgt := 4) dX0_openRoads_72 (by decide) ?_
        obtain ⟨c7, h⟩ := h
        exact G_pick [1, 2, 3, 0] rfl (h hv1 hv2 c7 hO)
      · have h := h.2 (bI_ne c6)
        refine G_aload_n 0 rfl rfl dX0_openRoads_35 ?_
        refine G_get (k := 3) (kd := (2, 36)) (v := aR 36) gf_X0_29 rfl rfl rfl rfl dX0_openRoads_36 ?_
        refine G_aload_n 0 rfl rfl dX0_openRoads_39 ?_
        refine G_get (k := 0) (kd := (2, 1)) (v := aR 1) gf_X0_17 rfl rfl rfl rfl dX0_openRoads_40 ?_
        refine G_get (k := 12) (kd := (0, 0)) (v := aI (σ 1 12)) gf_X0_70 rfl rfl rfl rfl dX0_openRoads_43 ?_
        refine G_iload_n 1 rfl rfl dX0_openRoads_46 ?_
        refine G_iload_n 3 rfl rfl dX0_openRoads_47 ?_
        obtain ⟨g8, g9, c10, h⟩ := h
        refine G_callV (as := [_, _, _]) cf_X0_73 rfl rfl rfl (sp_X2_sucking (d - 1) (by omega) _ hO _ (OKm.i hO 1 12 rfl) _ hv1 _ hv3 g8 g9 c10) (by omega) rfl rfl (Nat.le_of_ble_eq_true rfl) dX0_openRoads_48 ?_
        rintro _ σ13 ⟨u14, rfl, z15⟩ o12 r11
        have h := h _ _ (r11 _ rfl) o12 z15
        refine G_aload_n 0 rfl rfl dX0_openRoads_51 ?_
        refine G_get (k := 1) (kd := (2, 10)) (v := aR 10) gf_X0_21 rfl rfl rfl rfl dX0_openRoads_52 ?_
        refine G_get (k := 0) (kd := (3, 1)) (v := aR (11)) gf_X0_51 rfl rfl rfl rfl dX0_openRoads_55 ?_
        refine G_iload_n 3 rfl rfl dX0_openRoads_58 ?_
        obtain ⟨c16, h⟩ := h
        refine G_iald (n := 16) rfl c16.1 c16.2 dX0_openRoads_59 ?_
        refine G_icmp_gt (r11 _ rfl) (OKm.i o12 11 v3 (isLg_row (show shp 11 = (1, 16, []) from rfl) _)) dX0_openRoads_60 (tgt := 69) (by decide) (fun c17 => ?_) (fun c17 => ?_)
        · have h := h.1 c17
          refine G_iinc (lv' := [(3, aI ((v3 + 1))), (0, aR (38)), (1, aI (v1)), (2, aI (v2))]) (k := 3) rfl rfl (by decide) dX0_openRoads_69 ?_
          refine G_goto (tgt := 4) dX0_openRoads_72 (by decide) ?_
          obtain ⟨c18, h⟩ := h
          exact G_pick [1, 2, 3, 0] rfl (h hv1 hv2 c18 o12)
        · have h := h.2 c17
          refine G_iload_n 2 rfl rfl dX0_openRoads_63 ?_
          refine G_iconst dX0_openRoads_64 ?_
          refine G_iload_n 3 rfl rfl dX0_openRoads_65 ?_
          refine G_ishl dX0_openRoads_66 ?_
          refine G_ior dX0_openRoads_67 ?_
          refine G_istore_n (lv' := [(2, aI ((bOr v2 (bShl 1 v3)))), (0, aR (38)), (1, aI (v1)), (3, aI (v3))]) rfl rfl (by decide) dX0_openRoads_68 ?_
          refine G_iinc (lv' := [(3, aI ((v3 + 1))), (2, aI ((bOr v2 (bShl 1 v3)))), (0, aR (38)), (1, aI (v1))]) (k := 3) rfl rfl (by decide) dX0_openRoads_69 ?_
          refine G_goto (tgt := 4) dX0_openRoads_72 (by decide) ?_
          obtain ⟨c19, h⟩ := h
          exact G_pick [2, 3, 1, 0] rfl (h hv1 (r32_of _) c19 o12)

theorem sp_X0_openRoads (d : Nat) (hd : 4 ≤ d) (σ : Mem) (hO : OKm σ) (x1 : Int) (hx1 : R32 x1) (A : Mem) (tx : Nat → Txt) (hpre : vwC σ A tx ∧ (0 ≤ x1 ∧ x1 < A 10 1)) : Mt yX0_openRoads cX0_openRoads 4 (some .int) d [aR (38), aI (x1)] σ (QI (fun v σ' => v = opS A tx x1 ∧ Fr [37] σ σ')) := mt_X0_openRoads hd hx1 hO (by
  unfold wp_X0_openRoads
  intro P4 h4
  obtain ⟨hV, hg⟩ := hpre
  have hIA := hV.2.2.1
  have hns := hIA.1
  have H : ∀ (n : Nat) (k : Int) (o : Int) (τ : Mem), k + n = A 10 0 → (0 ≤ k ∧ o = opN A tx x1 k.toNat ∧ Fr [37] σ τ) → P4 x1 o k τ := by
    intro n
    induction n with
    | zero =>
      intro k o τ hk hI
      refine h4 _ _ _ _ (fun _ _ _ hOt => ?_)
      refine ⟨fun hh => ?_, fun hh => absurd hh (by rw [hI.2.2 1 (by simp), hV.1.1.1]; omega)⟩
      have : k = A 10 0 := by omega
      subst this
      exact ⟨hI.2.1, hI.2.2⟩
    | succ n ih =>
      intro k o τ hk hI
      refine h4 _ _ _ _ (fun _ _ _ hOt => ?_)
      refine ⟨fun hh => absurd hh (by rw [hI.2.2 1 (by simp), hV.1.1.1]; omega), fun hh => ?_⟩
      have hVt := hV.fr (fr37 hI.2.2)
      have t1 := hVt.1.2.1 k (by omega) (by omega)
      have n1 := hVt.2.1.2.1 k (by omega) (by omega)
      have n2 := hVt.2.1.2.2.1 x1 hg.1 hg.2
      have s2 : τ 2 k = A 11 k := t1.1
      have s3 : τ 3 k = A 12 k := t1.2.1
      have s12 : τ 1 12 = A 10 4 := hVt.1.1.2.2.2.2
      have hr := opN_r A tx x1 k.toNat
      have hR : R32 (k + 1) := by unfold R32; omega
      rw [s2, s3, n2.1, s12]
      refine ⟨by omega, by omega, fun h => ⟨hR, ih _ _ _ (by omega) ⟨by omega, ?_, hI.2.2⟩⟩, fun h => ⟨A, tx, ⟨hVt, by omega, hg, by omega⟩, ?_⟩⟩
      · rw [opN_f (by omega) (decide_eq_false (fun q => h q.1)), hI.2.1]
      · intro u σ1 hu hO1 ⟨eu, hF⟩
        have e11 : σ1 11 k = A 1 k := by rw [hF 11 (by simp)]; exact n1
        rw [e11, eu]
        refine ⟨by omega, fun h2 => ⟨hR, ih _ _ _ (by omega) ⟨by omega, ?_, hI.2.2.tr hF⟩⟩, fun h2 => ⟨hR, ih _ _ _ (by omega) ⟨by omega, ?_, hI.2.2.tr hF⟩⟩⟩
        · rw [opN_f (by omega) (decide_eq_false (fun q => by omega)), hI.2.1]
        · rw [opN_t (by omega) (decide_eq_true ⟨h, h2⟩), hI.2.1, bOr_bit hr.1 (by omega) (by omega) hr.2]
  exact H (A 10 0).toNat 0 0 σ (by omega) ⟨by omega, rfl, Fr.rf _ _⟩)

def wp_X0_toll (x1 : Int) (x2 : Int) (σ : Mem) (Q : Int → Mem → Prop) : Prop :=
  ((¬ (0 ≤ x1 ∧ x1 < σ 1 9)) →
    Q (-1) σ) ∧
   ((0 ≤ x1 ∧ x1 < σ 1 9) →
    ((¬ (0 ≤ x2 ∧ x2 < σ 1 8)) →
     Q (-1) σ) ∧
    ((0 ≤ x2 ∧ x2 < σ 1 8) →
     (0 ≤ x1 ∧ x1 < 6) ∧
     (0 ≤ x2 ∧ x2 < 16) ∧
     ((σ 2 x2 = (σ 12 x1) ∨ σ 3 x2 = (σ 12 x1)) →
      ∃ g12 : Mem, ∃ g13 : Nat → Txt, (vwC σ g12 g13 ∧ (-1 ≤ (σ 1 12) ∧ (σ 1 12) < g12 10 2) ∧ (0 ≤ x1 ∧ x1 < g12 10 1) ∧ (0 ≤ x2 ∧ x2 < g12 10 0)) ∧
      ∀ (u18 : Int) (σ17 : Mem), R32 u18 → OKm σ17 → (u18 = skS g12 g13 (σ 1 12) x1 x2 ∧ Fr [37] σ σ17) →
      (0 ≤ x2 ∧ x2 < 16) ∧
      (((σ17 11 x2) < u18) →
       Q (-1) σ17) ∧
      ((u18 ≤ (σ17 11 x2)) →
       Q u18 σ17)) ∧
     ((¬ (σ 2 x2 = (σ 12 x1) ∨ σ 3 x2 = (σ 12 x1))) →
      Q (-1) σ)))
theorem mt_X0_toll {d : Nat} (hd : 4 ≤ d) {x1 : Int} {x2 : Int} {σ : Mem} {Q : Int → Mem → Prop} (hx1 : R32 x1) (hx2 : R32 x2) (hO : OKm σ) (h : wp_X0_toll x1 x2 σ Q) : Mt yX0_toll cX0_toll 4 (some .int) d [aR (38), aI (x1), aI (x2)] σ (QI Q) := by
  refine Mt.intro (by decide +kernel) (Nat.le_of_ble_eq_true rfl) [(0, aR (38)), (1, aI (x1)), (2, aI (x2))] rfl ?_
  unfold wp_X0_toll at h
  refine G_aload_n 0 rfl rfl dX0_toll_0 ?_
  refine G_get (k := 0) (kd := (2, 1)) (v := aR 1) gf_X0_17 rfl rfl rfl rfl dX0_toll_1 ?_
  refine G_iload_n 1 rfl rfl dX0_toll_4 ?_
  refine G_callV (as := [_]) cf_X0_79 rfl rfl rfl (sp_X10_hasGoer (d - 1) (by omega) _ hO _ hx1) (by omega) rfl rfl (Nat.le_of_ble_eq_true rfl) dX0_toll_5 ?_
  rintro _ _ ⟨_, rfl, rfl, rfl⟩ o2 r1
  refine G_if_eq (bI_R _) dX0_toll_8 (tgt := 42) (by decide) (fun c3 => ?_) (fun c3 => ?_)
  · have h := h.1 ((bI_0 _).mp c3)
    refine G_iconst dX0_toll_42 ?_
    exact G_iret rfl (rL (-1) rfl) dX0_toll_43 ⟨_, rfl, h⟩ hO
  · have h := h.2 (bI_ne c3)
    refine G_aload_n 0 rfl rfl dX0_toll_11 ?_
    refine G_get (k := 0) (kd := (2, 1)) (v := aR 1) gf_X0_17 rfl rfl rfl rfl dX0_toll_12 ?_
    refine G_iload_n 2 rfl rfl dX0_toll_15 ?_
    refine G_callV (as := [_]) cf_X0_83 rfl rfl rfl (sp_X10_hasRoad (d - 1) (by omega) _ hO _ hx2) (by omega) rfl rfl (Nat.le_of_ble_eq_true rfl) dX0_toll_16 ?_
    rintro _ _ ⟨_, rfl, rfl, rfl⟩ o5 r4
    refine G_if_eq (bI_R _) dX0_toll_19 (tgt := 42) (by decide) (fun c6 => ?_) (fun c6 => ?_)
    · have h := h.1 ((bI_0 _).mp c6)
      refine G_iconst dX0_toll_42 ?_
      exact G_iret rfl (rL (-1) rfl) dX0_toll_43 ⟨_, rfl, h⟩ hO
    · have h := h.2 (bI_ne c6)
      refine G_aload_n 0 rfl rfl dX0_toll_22 ?_
      refine G_get (k := 0) (kd := (2, 1)) (v := aR 1) gf_X0_17 rfl rfl rfl rfl dX0_toll_23 ?_
      refine G_iload_n 2 rfl rfl dX0_toll_26 ?_
      refine G_aload_n 0 rfl rfl dX0_toll_27 ?_
      refine G_get (k := 1) (kd := (2, 10)) (v := aR 10) gf_X0_21 rfl rfl rfl rfl dX0_toll_28 ?_
      refine G_get (k := 1) (kd := (3, 2)) (v := aR (12)) gf_X0_60 rfl rfl rfl rfl dX0_toll_31 ?_
      refine G_iload_n 1 rfl rfl dX0_toll_34 ?_
      obtain ⟨c7, h⟩ := h
      refine G_iald (n := 6) rfl c7.1 c7.2 dX0_toll_35 ?_
      obtain ⟨c8, h⟩ := h
      refine G_callV (as := [_, _]) cf_X0_66 rfl rfl rfl (sp_X10_touches (d - 1) (by omega) _ hO _ hx2 _ (OKm.i hO 12 x1 (isLg_row (show shp 12 = (1, 6, []) from rfl) _)) c8) (by omega) rfl rfl (Nat.le_of_ble_eq_true rfl) dX0_toll_36 ?_
      rintro _ _ ⟨_, rfl, rfl, rfl⟩ o10 r9
      refine G_if_ne (bI_R _) dX0_toll_39 (tgt := 44) (by decide) (fun c11 => ?_) (fun c11 => ?_)
      · have h := h.1 (bI_ne c11)
        refine G_aload_n 0 rfl rfl dX0_toll_44 ?_
        refine G_get (k := 3) (kd := (2, 36)) (v := aR 36) gf_X0_29 rfl rfl rfl rfl dX0_toll_45 ?_
        refine G_aload_n 0 rfl rfl dX0_toll_48 ?_
        refine G_get (k := 0) (kd := (2, 1)) (v := aR 1) gf_X0_17 rfl rfl rfl rfl dX0_toll_49 ?_
        refine G_get (k := 12) (kd := (0, 0)) (v := aI (σ 1 12)) gf_X0_70 rfl rfl rfl rfl dX0_toll_52 ?_
        refine G_iload_n 1 rfl rfl dX0_toll_55 ?_
        refine G_iload_n 2 rfl rfl dX0_toll_56 ?_
        obtain ⟨g12, g13, c14, h⟩ := h
        refine G_callV (as := [_, _, _]) cf_X0_73 rfl rfl rfl (sp_X2_sucking (d - 1) (by omega) _ hO _ (OKm.i hO 1 12 rfl) _ hx1 _ hx2 g12 g13 c14) (by omega) rfl rfl (Nat.le_of_ble_eq_true rfl) dX0_toll_57 ?_
        rintro _ σ17 ⟨u18, rfl, z19⟩ o16 r15
        have h := h _ _ (r15 _ rfl) o16 z19
        refine G_istore_n (lv' := [(3, aI (u18)), (0, aR (38)), (1, aI (x1)), (2, aI (x2))]) rfl rfl (by decide) dX0_toll_60 ?_
        refine G_iload_n 0 rfl rfl dX0_toll_61 ?_
        refine G_aload_n 1 rfl rfl dX0_toll_62 ?_
        refine G_get (k := 1) (kd := (2, 10)) (v := aR 10) gf_X0_21 rfl rfl rfl rfl dX0_toll_63 ?_
        refine G_get (k := 0) (kd := (3, 1)) (v := aR (11)) gf_X0_51 rfl rfl rfl rfl dX0_toll_66 ?_
        refine G_iload_n 3 rfl rfl dX0_toll_69 ?_
        obtain ⟨c20, h⟩ := h
        refine G_iald (n := 16) rfl c20.1 c20.2 dX0_toll_70 ?_
        refine G_icmp_gt (r15 _ rfl) (OKm.i o16 11 x2 (isLg_row (show shp 11 = (1, 16, []) from rfl) _)) dX0_toll_71 (tgt := 78) (by decide) (fun c21 => ?_) (fun c21 => ?_)
        · have h := h.1 c21
          refine G_iconst dX0_toll_78 ?_
          exact G_iret rfl (rL (-1) rfl) dX0_toll_79 ⟨_, rfl, h⟩ o16
        · have h := h.2 c21
          refine G_iload_n 0 rfl rfl dX0_toll_74 ?_
          refine G_goto (tgt := 79) dX0_toll_75 (by decide) ?_
          exact G_iret rfl (r15 _ rfl) dX0_toll_79 ⟨_, rfl, h⟩ o16
      · have h := h.2 ((bI_0 _).mp c11)
        refine G_iconst dX0_toll_42 ?_
        exact G_iret rfl (rL (-1) rfl) dX0_toll_43 ⟨_, rfl, h⟩ hO

theorem sp_X0_toll (d : Nat) (hd : 4 ≤ d) (σ : Mem) (hO : OKm σ) (x1 : Int) (hx1 : R32 x1) (x2 : Int) (hx2 : R32 x2) (A : Mem) (tx : Nat → Txt) (hpre : vwC σ A tx) : Mt yX0_toll cX0_toll 4 (some .int) d [aR (38), aI (x1), aI (x2)] σ (QI (fun v σ' => v = (if canGoV A tx x1 x2 then skS A tx (A 10 4) x1 x2 else -1) ∧ Fr [37] σ σ')) := mt_X0_toll hd hx1 hx2 hO (by
  unfold wp_X0_toll
  have hV := hpre
  have hI := hV.2.2.1
  have hnt := hI.1
  have e8 := hV.1.1.1
  have e9 := hV.1.1.2.1
  have e12 : σ 1 12 = A 10 4 := hV.1.1.2.2.2.2
  rw [e8, e9, e12]
  have hno : ∀ τ : Mem, Fr [37] σ τ → canGoV A tx x1 x2 = false → (-1 = (if canGoV A tx x1 x2 then skS A tx (A 10 4) x1 x2 else -1) ∧ Fr [37] σ τ) := fun τ hf h => by rw [h]; exact ⟨rfl, hf⟩
  refine ⟨fun h => hno σ (Fr.rf _ _) ?_, fun hg => ⟨fun h => hno σ (Fr.rf _ _) ?_, fun hr => ?_⟩⟩
  · unfold canGoV; rw [decide_eq_false (fun q => h q.1)]; rfl
  · unfold canGoV; rw [decide_eq_false (fun q => h q.2)]; rfl
  have t1 := hV.1.2.1 x2 hr.1 hr.2
  have n1 := hV.2.1.2.1 x2 hr.1 hr.2
  have n2 := hV.2.1.2.2.1 x1 hg.1 hg.2
  have s2 : σ 2 x2 = A 11 x2 := t1.1
  have s3 : σ 3 x2 = A 12 x2 := t1.2.1
  rw [s2, s3, n2.1]
  refine ⟨by omega, by omega, fun h => ⟨A, tx, ⟨hV, by omega, hg, hr⟩, ?_⟩, fun h => hno σ (Fr.rf _ _) ?_⟩
  · intro u σ1 hu hO1 ⟨eu, hF⟩
    have e11 : σ1 11 x2 = A 1 x2 := by rw [hF 11 (by simp)]; exact n1
    rw [e11, eu]
    refine ⟨by omega, fun h2 => hno σ1 hF ?_, fun h2 => ⟨?_, hF⟩⟩
    · unfold canGoV canGo; rw [decide_eq_false (p := _ ∧ skS A tx (A 10 4) x1 x2 ≤ A 1 x2) (fun q => by omega)]; simp
    · have : canGoV A tx x1 x2 = true := by unfold canGoV canGo; rw [decide_eq_true ⟨hg, hr⟩, decide_eq_true ⟨h, h2⟩]; rfl
      rw [this, if_pos rfl]
  · unfold canGoV canGo; rw [decide_eq_false (p := _ ∧ skS A tx (A 10 4) x1 x2 ≤ A 1 x2) (fun q => h q.1)]; simp)

def wp_X0_canLay (x1 : Int) (σ : Mem) (Q : Int → Mem → Prop) : Prop :=
  ((¬ (0 ≤ x1 ∧ x1 < σ 1 8)) →
    Q 0 σ) ∧
   ((0 ≤ x1 ∧ x1 < σ 1 8) →
    (0 ≤ x1 ∧ x1 < 16) ∧
    (0 ≤ x1 ∧ x1 < 16) ∧
    (((σ 5 x1) ≤ (σ 11 x1)) →
     Q 0 σ) ∧
    (((σ 11 x1) < (σ 5 x1)) →
     (0 ≤ x1 ∧ x1 < 16) ∧
     (((σ 10 5) < (σ 4 x1)) →
      Q 0 σ) ∧
     (((σ 4 x1) ≤ (σ 10 5)) →
      Q 1 σ)))
theorem mt_X0_canLay {d : Nat} (hd : 1 ≤ d) {x1 : Int} {σ : Mem} {Q : Int → Mem → Prop} (hx1 : R32 x1) (hO : OKm σ) (h : wp_X0_canLay x1 σ Q) : Mt yX0_canLay cX0_canLay 2 (some .boolean) d [aR (38), aI (x1)] σ (QI Q) := by
  refine Mt.intro (by decide +kernel) (Nat.le_of_ble_eq_true rfl) [(0, aR (38)), (1, aI (x1))] rfl ?_
  unfold wp_X0_canLay at h
  refine G_aload_n 0 rfl rfl dX0_canLay_0 ?_
  refine G_get (k := 0) (kd := (2, 1)) (v := aR 1) gf_X0_17 rfl rfl rfl rfl dX0_canLay_1 ?_
  refine G_iload_n 1 rfl rfl dX0_canLay_4 ?_
  refine G_callV (as := [_]) cf_X0_83 rfl rfl rfl (sp_X10_hasRoad (d - 1) (by omega) _ hO _ hx1) (by omega) rfl rfl (Nat.le_of_ble_eq_true rfl) dX0_canLay_5 ?_
  rintro _ _ ⟨_, rfl, rfl, rfl⟩ o2 r1
  refine G_if_eq (bI_R _) dX0_canLay_8 (tgt := 55) (by decide) (fun c3 => ?_) (fun c3 => ?_)
  · have h := h.1 ((bI_0 _).mp c3)
    refine G_iconst dX0_canLay_55 ?_
    exact G_zret rfl (by decide) dX0_canLay_56 ⟨_, rfl, h⟩ hO
  · have h := h.2 (bI_ne c3)
    refine G_aload_n 0 rfl rfl dX0_canLay_11 ?_
    refine G_get (k := 1) (kd := (2, 10)) (v := aR 10) gf_X0_21 rfl rfl rfl rfl dX0_canLay_12 ?_
    refine G_get (k := 0) (kd := (3, 1)) (v := aR (11)) gf_X0_51 rfl rfl rfl rfl dX0_canLay_15 ?_
    refine G_iload_n 1 rfl rfl dX0_canLay_18 ?_
    obtain ⟨c4, h⟩ := h
    refine G_iald (n := 16) rfl c4.1 c4.2 dX0_canLay_19 ?_
    refine G_aload_n 0 rfl rfl dX0_canLay_20 ?_
    refine G_get (k := 0) (kd := (2, 1)) (v := aR 1) gf_X0_17 rfl rfl rfl rfl dX0_canLay_21 ?_
    refine G_get (k := 3) (kd := (3, 4)) (v := aR (5)) gf_X0_48 rfl rfl rfl rfl dX0_canLay_24 ?_
    refine G_iload_n 1 rfl rfl dX0_canLay_27 ?_
    obtain ⟨c5, h⟩ := h
    refine G_iald (n := 16) rfl c5.1 c5.2 dX0_canLay_28 ?_
    refine G_icmp_ge (OKm.i hO 11 x1 (isLg_row (show shp 11 = (1, 16, []) from rfl) _)) (OKm.i hO 5 x1 (isLg_row (show shp 5 = (1, 16, []) from rfl) _)) dX0_canLay_29 (tgt := 55) (by decide) (fun c6 => ?_) (fun c6 => ?_)
    · have h := h.1 c6
      refine G_iconst dX0_canLay_55 ?_
      exact G_zret rfl (by decide) dX0_canLay_56 ⟨_, rfl, h⟩ hO
    · have h := h.2 c6
      refine G_aload_n 0 rfl rfl dX0_canLay_32 ?_
      refine G_get (k := 1) (kd := (2, 10)) (v := aR 10) gf_X0_21 rfl rfl rfl rfl dX0_canLay_33 ?_
      refine G_get (k := 5) (kd := (0, 0)) (v := aI (σ 10 5)) gf_X0_86 rfl rfl rfl rfl dX0_canLay_36 ?_
      refine G_aload_n 0 rfl rfl dX0_canLay_39 ?_
      refine G_get (k := 0) (kd := (2, 1)) (v := aR 1) gf_X0_17 rfl rfl rfl rfl dX0_canLay_40 ?_
      refine G_get (k := 2) (kd := (3, 3)) (v := aR (4)) gf_X0_45 rfl rfl rfl rfl dX0_canLay_43 ?_
      refine G_iload_n 1 rfl rfl dX0_canLay_46 ?_
      obtain ⟨c7, h⟩ := h
      refine G_iald (n := 16) rfl c7.1 c7.2 dX0_canLay_47 ?_
      refine G_icmp_lt (OKm.i hO 10 5 rfl) (OKm.i hO 4 x1 (isLg_row (show shp 4 = (1, 16, []) from rfl) _)) dX0_canLay_48 (tgt := 55) (by decide) (fun c8 => ?_) (fun c8 => ?_)
      · have h := h.1 c8
        refine G_iconst dX0_canLay_55 ?_
        exact G_zret rfl (by decide) dX0_canLay_56 ⟨_, rfl, h⟩ hO
      · have h := h.2 c8
        refine G_iconst dX0_canLay_51 ?_
        refine G_goto (tgt := 56) dX0_canLay_52 (by decide) ?_
        exact G_zret rfl (by decide) dX0_canLay_56 ⟨_, rfl, h⟩ hO

theorem sp_X0_canLay (d : Nat) (hd : 1 ≤ d) (σ : Mem) (hO : OKm σ) (x1 : Int) (hx1 : R32 x1) (hpre : σ 1 8 ≤ 16) : Mt yX0_canLay cX0_canLay 2 (some .boolean) d [aR (38), aI (x1)] σ (QI (fun v σ' => bI ((0 ≤ x1 ∧ x1 < σ 1 8) ∧ σ 11 x1 < σ 5 x1 ∧ σ 4 x1 ≤ σ 10 5) = v ∧ σ = σ')) := mt_X0_canLay hd hx1 hO (by
  unfold wp_X0_canLay
  grind [bI])

def wp_X0_lay (x1 : Int) (σ : Mem) (Q : Mem → Prop) : Prop :=
  (0 ≤ x1 ∧ x1 < 16) ∧
   (0 ≤ x1 ∧ x1 < 16) ∧
   ∀ σ3 : Mem, σ3 = mset σ 11 x1 (σ 5 x1) →
   (0 ≤ x1 ∧ x1 < 16) ∧
   R32 ((σ3 10 5) - (σ3 4 x1)) ∧
   ∀ σ7 : Mem, σ7 = mset σ3 10 5 ((σ3 10 5) - (σ3 4 x1)) →
   Q σ7
theorem mt_X0_lay {d : Nat} (hd : 0 ≤ d) {x1 : Int} {σ : Mem} {Q : Mem → Prop} (hx1 : R32 x1) (hO : OKm σ) (h : wp_X0_lay x1 σ Q) : Mt yX0_lay cX0_lay 2 none d [aR (38), aI (x1)] σ (QV Q) := by
  refine Mt.intro (by decide +kernel) (Nat.le_of_ble_eq_true rfl) [(0, aR (38)), (1, aI (x1))] rfl ?_
  unfold wp_X0_lay at h
  refine G_aload_n 0 rfl rfl dX0_lay_0 ?_
  refine G_get (k := 1) (kd := (2, 10)) (v := aR 10) gf_X0_21 rfl rfl rfl rfl dX0_lay_1 ?_
  refine G_get (k := 0) (kd := (3, 1)) (v := aR (11)) gf_X0_51 rfl rfl rfl rfl dX0_lay_4 ?_
  refine G_iload_n 1 rfl rfl dX0_lay_7 ?_
  refine G_aload_n 0 rfl rfl dX0_lay_8 ?_
  refine G_get (k := 0) (kd := (2, 1)) (v := aR 1) gf_X0_17 rfl rfl rfl rfl dX0_lay_9 ?_
  refine G_get (k := 3) (kd := (3, 4)) (v := aR (5)) gf_X0_48 rfl rfl rfl rfl dX0_lay_12 ?_
  refine G_iload_n 1 rfl rfl dX0_lay_15 ?_
  obtain ⟨c1, h⟩ := h
  refine G_iald (n := 16) rfl c1.1 c1.2 dX0_lay_16 ?_
  obtain ⟨c2, h⟩ := h
  obtain ⟨σ3, e5⟩ : ∃ τ : Mem, τ = mset σ 11 x1 (σ 5 x1) := ⟨_, rfl⟩
  have h := h σ3 e5
  have o4 : OKm σ3 := by rw [e5]; exact OKm.seti hO _ _ _ (OKm.i hO 5 x1 (isLg_row (show shp 5 = (1, 16, []) from rfl) _)) (isLg_row (show shp 11 = (1, 16, []) from rfl) _)
  refine G_iast (n := 16) rfl c2.1 c2.2 dX0_lay_17 ?_
  rw [← e5]
  refine G_aload_n 0 rfl rfl dX0_lay_18 ?_
  refine G_get (k := 1) (kd := (2, 10)) (v := aR 10) gf_X0_21 rfl rfl rfl rfl dX0_lay_19 ?_
  refine G_dup rfl dX0_lay_22 ?_
  refine G_get (k := 5) (kd := (0, 0)) (v := aI (σ3 10 5)) gf_X0_86 rfl rfl rfl rfl dX0_lay_23 ?_
  refine G_aload_n 0 rfl rfl dX0_lay_26 ?_
  refine G_get (k := 0) (kd := (2, 1)) (v := aR 1) gf_X0_17 rfl rfl rfl rfl dX0_lay_27 ?_
  refine G_get (k := 2) (kd := (3, 3)) (v := aR (4)) gf_X0_45 rfl rfl rfl rfl dX0_lay_30 ?_
  refine G_iload_n 1 rfl rfl dX0_lay_33 ?_
  obtain ⟨c6, h⟩ := h
  refine G_iald (n := 16) rfl c6.1 c6.2 dX0_lay_34 ?_
  refine G_isub dX0_lay_35 ?_
  obtain ⟨c8, h⟩ := h
  obtain ⟨σ7, e10⟩ : ∃ τ : Mem, τ = mset σ3 10 5 ((σ3 10 5) - (σ3 4 x1)) := ⟨_, rfl⟩
  have h := h σ7 e10
  have o9 : OKm σ7 := by rw [e10]; exact OKm.seti o4 _ _ _ c8 rfl
  refine G_put (k := 5) (ki := 5) (kd := (0, 0)) (x := _) pf_X0_86 rfl rfl rfl rfl (fa_i (mset_self _ _ _ _)) (fun _ => rfl) (fun _ => rfl) dX0_lay_36 ?_
  rw [← e10]
  exact G_vret rfl dX0_lay_39 ⟨rfl, h⟩ o9

theorem sp_X0_lay (d : Nat) (hd : 0 ≤ d) (σ : Mem) (hO : OKm σ) (x1 : Int) (hx1 : R32 x1) (hpre : (0 ≤ x1 ∧ x1 < 16) ∧ R32 (σ 10 5 - σ 4 x1)) : Mt yX0_lay cX0_lay 2 none d [aR (38), aI (x1)] σ (QV (fun σ' => σ' = (mset (mset σ 11 x1 (σ 5 x1)) 10 5 (σ 10 5 - σ 4 x1)))) := mt_X0_lay hd hx1 hO (by
  unfold wp_X0_lay
  unfold R32 at *
  repeat' (first | (intro _ e; subst e) | (refine And.intro ?_ ?_; first | omega | (simp (disch := omega) only [mset_off, mset_hit, mset_miss, mcpy_off, mcpy_hit, mcpy_miss, mrow_off, mrow_same]; omega)))
  simp (disch := omega) only [mset_off])

theorem stepsC.congr {σ σ' : Mem} {p : Nat} {L : List Mem} (h : stepsC σ p L) (h0 : σ' p = σ p) (h1 : σ' (p + 1) = σ (p + 1)) : stepsC σ' p L := by
  unfold stepsC rowC at *
  rw [h0, h1]
  exact h
def vsC (σ : Mem) (A : Mem) (L : List Mem) (tx : Nat → Txt) : Prop := vwC σ A tx ∧ stepsC σ 15 L
abbrev DDC : List Nat := [10, 11, 12, 13, 14, 15, 16, 37]
theorem vwC.now {σ σ' : Mem} {A A' : Mem} {tx : Nat → Txt} (h : vwC σ A tx) (hN : nowC σ' A') (hI : InvA A') (hA : ∀ q, 8 ≤ q → A' q = A q) (hF : ∀ q, (q < 10 ∨ 54 ≤ q) → σ' q = σ q) : vwC σ' A' tx :=
  ⟨(toldC_same h.1 hA).congr (fun j hj => hF _ (by omega)), hN, hI, txC h.2.2.2 (by rw [hA 10 (by omega)]) (fun q h1 h2 => hF q (by omega)) (by have := h.2.2.1.1; omega)⟩
theorem frDD {σ σ' : Mem} (h : Fr DDC σ σ') (q : Nat) (hq : q < 10 ∨ 38 ≤ q) : σ' q = σ q := h q (by simp only [DDC, List.mem_cons, List.not_mem_nil, or_false, not_or]; omega)
theorem canGoV_spec {A : Mem} {tx : Nat → Txt} {g r : Int} (h : canGoV A tx g r = true) : (0 ≤ g ∧ g < A 10 1) ∧ (0 ≤ r ∧ r < A 10 0) ∧ canGo A tx g r = true := by
  unfold canGoV at h
  rw [Bool.and_eq_true] at h
  have := of_decide_eq_true h.1
  exact ⟨this.1, this.2, h.2⟩

def wp_X0_stepGo (x1 : Int) (x2 : Int) (σ : Mem) (Q : Int → Mem → Prop) : Prop :=
  ∃ g1 : Mem, ∃ g2 : Nat → Txt, (vwC σ g1 g2) ∧
   ∀ (u7 : Int) (σ6 : Mem), R32 u7 → OKm σ6 → (u7 = (if canGoV g1 g2 x1 x2 then skS g1 g2 (g1 10 4) x1 x2 else -1) ∧ Fr [37] σ σ6) →
   ((u7 ≠ (-1)) →
    ∃ g10 : Mem, ∃ g11 : List Mem, (nowC σ6 g10 ∧ σ6 1 8 = g10 10 0 ∧ σ6 1 9 = g10 10 1 ∧ Cnt g10 ∧ stepsC σ6 15 g11) ∧
    ∀ σ15 : Mem, OKm σ15 → (stepsC σ15 15 (pushS g10 g11) ∧ Fr [15, 16] σ6 σ15) →
    (0 ≤ x1 ∧ x1 < 6) ∧
    (0 ≤ x2 ∧ x2 < 16) ∧
    ∃ g22 : Mem, (nowC σ15 g22 ∧ Cnt g22 ∧ (0 ≤ x1 ∧ x1 < g22 10 1) ∧ (0 ≤ x2 ∧ x2 < g22 10 0) ∧ (0 ≤ u7 ∧ u7 ≤ 99) ∧ (0 ≤ g22 0 2 ∧ g22 0 2 ≤ 9999) ∧ (0 ≤ g22 1 x2 ∧ g22 1 x2 ≤ 99) ∧ (0 ≤ g22 3 x1 ∧ g22 3 x1 ≤ 9999)) ∧
    ∀ σ26 : Mem, OKm σ26 → (nowC σ26 (walkS g22 x1 x2 (if σ15 2 x2 = (σ15 12 x1) then σ15 3 x2 else σ15 2 x2) u7) ∧ Fr [10, 11, 12, 13, 14] σ15 σ26) →
    Q 1 σ26) ∧
   ((u7 = (-1)) →
    Q 0 σ6)
theorem mt_X0_stepGo {d : Nat} (hd : 5 ≤ d) {x1 : Int} {x2 : Int} {σ : Mem} {Q : Int → Mem → Prop} (hx1 : R32 x1) (hx2 : R32 x2) (hO : OKm σ) (h : wp_X0_stepGo x1 x2 σ Q) : Mt yX0_stepGo cX0_stepGo 4 (some .boolean) d [aR (38), aI (x1), aI (x2)] σ (QI Q) := by
  refine Mt.intro (by decide +kernel) (Nat.le_of_ble_eq_true rfl) [(0, aR (38)), (1, aI (x1)), (2, aI (x2))] rfl ?_
  unfold wp_X0_stepGo at h
  refine G_aload_n 0 rfl rfl dX0_stepGo_0 ?_
  refine G_iload_n 1 rfl rfl dX0_stepGo_1 ?_
  refine G_iload_n 2 rfl rfl dX0_stepGo_2 ?_
  obtain ⟨g1, g2, c3, h⟩ := h
  refine G_callV (as := [_, _]) cf_X0_89 rfl rfl rfl (sp_X0_toll (d - 1) (by omega) _ hO _ hx1 _ hx2 g1 g2 c3) (by omega) rfl rfl (Nat.le_of_ble_eq_true rfl) dX0_stepGo_3 ?_
  rintro _ σ6 ⟨u7, rfl, z8⟩ o5 r4
  have h := h _ _ (r4 _ rfl) o5 z8
  refine G_istore_n (lv' := [(3, aI (u7)), (0, aR (38)), (1, aI (x1)), (2, aI (x2))]) rfl rfl (by decide) dX0_stepGo_6 ?_
  refine G_iload_n 0 rfl rfl dX0_stepGo_7 ?_
  refine G_iconst dX0_stepGo_8 ?_
  refine G_icmp_ne (r4 _ rfl) (rL (-1) rfl) dX0_stepGo_9 (tgt := 14) (by decide) (fun c9 => ?_) (fun c9 => ?_)
  · have h := h.1 c9
    refine G_aload_n 1 rfl rfl dX0_stepGo_14 ?_
    refine G_get (k := 2) (kd := (2, 15)) (v := aR 15) gf_X0_25 rfl rfl rfl rfl dX0_stepGo_15 ?_
    refine G_aload_n 1 rfl rfl dX0_stepGo_18 ?_
    refine G_get (k := 1) (kd := (2, 10)) (v := aR 10) gf_X0_21 rfl rfl rfl rfl dX0_stepGo_19 ?_
    refine G_aload_n 1 rfl rfl dX0_stepGo_22 ?_
    refine G_get (k := 0) (kd := (2, 1)) (v := aR 1) gf_X0_17 rfl rfl rfl rfl dX0_stepGo_23 ?_
    obtain ⟨g10, g11, c12, h⟩ := h
    refine G_callV (as := [_, _]) cf_X0_93 rfl rfl rfl (sp_X7_push (d - 1) (by omega) _ o5  g10 g11 c12) (by omega) rfl rfl (Nat.le_of_ble_eq_true rfl) dX0_stepGo_26 ?_
    rintro _ σ15 ⟨rfl, z17⟩ o14 r13
    have h := h _ o14 z17
    refine G_aload_n 1 rfl rfl dX0_stepGo_29 ?_
    refine G_get (k := 1) (kd := (2, 10)) (v := aR 10) gf_X0_21 rfl rfl rfl rfl dX0_stepGo_30 ?_
    refine G_iload_n 2 rfl rfl dX0_stepGo_33 ?_
    refine G_iload_n 3 rfl rfl dX0_stepGo_34 ?_
    refine G_aload_n 1 rfl rfl dX0_stepGo_35 ?_
    refine G_get (k := 0) (kd := (2, 1)) (v := aR 1) gf_X0_17 rfl rfl rfl rfl dX0_stepGo_36 ?_
    refine G_iload_n 3 rfl rfl dX0_stepGo_39 ?_
    refine G_aload_n 1 rfl rfl dX0_stepGo_40 ?_
    refine G_get (k := 1) (kd := (2, 10)) (v := aR 10) gf_X0_21 rfl rfl rfl rfl dX0_stepGo_41 ?_
    refine G_get (k := 1) (kd := (3, 2)) (v := aR (12)) gf_X0_60 rfl rfl rfl rfl dX0_stepGo_44 ?_
    refine G_iload_n 2 rfl rfl dX0_stepGo_47 ?_
    obtain ⟨c18, h⟩ := h
    refine G_iald (n := 6) rfl c18.1 c18.2 dX0_stepGo_48 ?_
    obtain ⟨c19, h⟩ := h
    refine G_callV (as := [_, _]) cf_X0_99 rfl rfl rfl (sp_X10_across (d - 1) (by omega) _ o14 _ hx2 _ (OKm.i o14 12 x1 (isLg_row (show shp 12 = (1, 6, []) from rfl) _)) c19) (by omega) rfl rfl (Nat.le_of_ble_eq_true rfl) dX0_stepGo_49 ?_
    rintro _ _ ⟨_, rfl, rfl, rfl⟩ o21 r20
    refine G_iload_n 0 rfl rfl dX0_stepGo_52 ?_
    obtain ⟨g22, c23, h⟩ := h
    refine G_callV (as := [_, _, _, _]) cf_X0_102 rfl rfl rfl (sp_X6_walk (d - 1) (by omega) _ o14 _ hx1 _ hx2 _ (r20 _ rfl) _ (r4 _ rfl) g22 c23) (by omega) rfl rfl (Nat.le_of_ble_eq_true rfl) dX0_stepGo_53 ?_
    rintro _ σ26 ⟨rfl, z28⟩ o25 r24
    have h := h _ o25 z28
    refine G_iconst dX0_stepGo_56 ?_
    exact G_zret rfl (by decide) dX0_stepGo_57 ⟨_, rfl, h⟩ o25
  · have h := h.2 c9
    refine G_iconst dX0_stepGo_12 ?_
    exact G_zret rfl (by decide) dX0_stepGo_13 ⟨_, rfl, h⟩ o5

theorem sp_X0_stepGo (d : Nat) (hd : 5 ≤ d) (σ : Mem) (hO : OKm σ) (x1 : Int) (hx1 : R32 x1) (x2 : Int) (hx2 : R32 x2) (A : Mem) (L : List Mem) (tx : Nat → Txt) (hpre : vsC σ A L tx) : Mt yX0_stepGo cX0_stepGo 4 (some .boolean) d [aR (38), aI (x1), aI (x2)] σ (QI (fun v σ' => (canGoV A tx x1 x2 = true → v = 1 ∧ vsC σ' (goneS A tx x1 x2) (pushS A L) tx) ∧ (canGoV A tx x1 x2 = false → v = 0 ∧ vsC σ' A L tx) ∧ Fr DDC σ σ')) := mt_X0_stepGo hd hx1 hx2 hO (by
  unfold wp_X0_stepGo
  obtain ⟨hV, hL⟩ := hpre
  have hI := hV.2.2.1
  have hcnt := hI.cnt
  refine ⟨A, tx, hV, ?_⟩
  intro u σ6 hu hO6 ⟨eu, hF6⟩
  have hV6 := hV.fr (fr37 hF6)
  have hL6 := hL.congr (hF6 15 (by simp)) (hF6 (15 + 1) (by simp))
  cases hc : canGoV A tx x1 x2 with
  | false =>
    rw [hc] at eu
    have eu : u = -1 := eu
    refine ⟨fun h => absurd eu h, fun _ => ⟨fun h => absurd h (by simp), fun _ => ⟨rfl, hV6, hL6⟩, hF6.wk (by simp)⟩⟩
  | true =>
    rw [hc, if_pos rfl] at eu
    obtain ⟨hg, hr, hc2⟩ := canGoV_spec hc
    have hsk := skS_r (tx := tx) (t := A 10 4) (r := x2) hI hg
    have k1 := hI.2.1 x2 hr.1 hr.2
    have k2 := hI.2.2.1 x1 hg.1 hg.2
    have k3 := hI.2.2.2.1
    have hcnt' := hcnt
    unfold Cnt at hcnt'
    refine ⟨fun _ => ⟨A, L, ⟨hV6.2.1, hV6.1.1.1, hV6.1.1.2.1, hcnt, hL6⟩, ?_⟩, fun h => absurd h (by omega)⟩
    intro σ15 hO15 ⟨hL15, hF15⟩
    refine ⟨by omega, by omega, A, ⟨hV6.2.1.congr (fun q h1 h2 => hF15 q (by simp; omega)), hcnt, hg, hr, by omega, by omega, by omega, by omega⟩, ?_⟩
    intro σ26 hO26 ⟨hN, hF26⟩
    have e2 : σ15 2 x2 = A 11 x2 := by rw [hF15 2 (by simp)]; exact (hV6.1.2.1 x2 hr.1 hr.2).1
    have e3 : σ15 3 x2 = A 12 x2 := by rw [hF15 3 (by simp)]; exact (hV6.1.2.1 x2 hr.1 hr.2).2.1
    have e12 : σ15 12 x1 = A 2 x1 := by rw [hF15 12 (by simp)]; exact (hV6.2.1.2.2.1 x1 hg.1 hg.2).1
    rw [e2, e3, e12, eu] at hN
    have hN : nowC σ26 (goneS A tx x1 x2) := hN
    have hF : Fr DDC σ σ26 := ((hF6.wk (by simp)).tr (hF15.wk (by simp))).tr (hF26.wk (by simp))
    refine ⟨fun _ => ⟨rfl, hV.now hN (hI.gone hg hr hc2) (fun q hq => walkS_told hq) (fun q hq => frDD hF q (by omega)), hL15.congr (hF26 15 (by simp)) (hF26 (15 + 1) (by simp))⟩, fun h => by simp at h, hF⟩)

def wp_X0_stepLay (x1 : Int) (σ : Mem) (Q : Int → Mem → Prop) : Prop :=
  (σ 1 8 ≤ 16) ∧
   (((0 ≤ x1 ∧ x1 < σ 1 8) ∧ σ 11 x1 < σ 5 x1 ∧ σ 4 x1 ≤ σ 10 5) →
    ∃ g5 : Mem, ∃ g6 : List Mem, (nowC σ g5 ∧ σ 1 8 = g5 10 0 ∧ σ 1 9 = g5 10 1 ∧ Cnt g5 ∧ stepsC σ 15 g6) ∧
    ∀ σ10 : Mem, OKm σ10 → (stepsC σ10 15 (pushS g5 g6) ∧ Fr [15, 16] σ σ10) →
    ((0 ≤ x1 ∧ x1 < 16) ∧ R32 (σ10 10 5 - σ10 4 x1)) ∧
    ∀ σ16 : Mem, σ16 = (mset (mset σ10 11 x1 (σ10 5 x1)) 10 5 (σ10 10 5 - σ10 4 x1)) →
    Q 1 σ16) ∧
   ((¬ ((0 ≤ x1 ∧ x1 < σ 1 8) ∧ σ 11 x1 < σ 5 x1 ∧ σ 4 x1 ≤ σ 10 5)) →
    Q 0 σ)
theorem mt_X0_stepLay {d : Nat} (hd : 2 ≤ d) {x1 : Int} {σ : Mem} {Q : Int → Mem → Prop} (hx1 : R32 x1) (hO : OKm σ) (h : wp_X0_stepLay x1 σ Q) : Mt yX0_stepLay cX0_stepLay 2 (some .boolean) d [aR (38), aI (x1)] σ (QI Q) := by
  refine Mt.intro (by decide +kernel) (Nat.le_of_ble_eq_true rfl) [(0, aR (38)), (1, aI (x1))] rfl ?_
  unfold wp_X0_stepLay at h
  refine G_aload_n 0 rfl rfl dX0_stepLay_0 ?_
  refine G_iload_n 1 rfl rfl dX0_stepLay_1 ?_
  obtain ⟨c1, h⟩ := h
  refine G_callV (as := [_]) cf_X0_106 rfl rfl rfl (sp_X0_canLay (d - 1) (by omega) _ hO _ hx1 c1) (by omega) rfl rfl (Nat.le_of_ble_eq_true rfl) dX0_stepLay_2 ?_
  rintro _ _ ⟨_, rfl, rfl, rfl⟩ o3 r2
  refine G_if_ne (bI_R _) dX0_stepLay_5 (tgt := 10) (by decide) (fun c4 => ?_) (fun c4 => ?_)
  · have h := h.1 (bI_ne c4)
    refine G_aload_n 0 rfl rfl dX0_stepLay_10 ?_
    refine G_get (k := 2) (kd := (2, 15)) (v := aR 15) gf_X0_25 rfl rfl rfl rfl dX0_stepLay_11 ?_
    refine G_aload_n 0 rfl rfl dX0_stepLay_14 ?_
    refine G_get (k := 1) (kd := (2, 10)) (v := aR 10) gf_X0_21 rfl rfl rfl rfl dX0_stepLay_15 ?_
    refine G_aload_n 0 rfl rfl dX0_stepLay_18 ?_
    refine G_get (k := 0) (kd := (2, 1)) (v := aR 1) gf_X0_17 rfl rfl rfl rfl dX0_stepLay_19 ?_
    obtain ⟨g5, g6, c7, h⟩ := h
    refine G_callV (as := [_, _]) cf_X0_93 rfl rfl rfl (sp_X7_push (d - 1) (by omega) _ hO  g5 g6 c7) (by omega) rfl rfl (Nat.le_of_ble_eq_true rfl) dX0_stepLay_22 ?_
    rintro _ σ10 ⟨rfl, z12⟩ o9 r8
    have h := h _ o9 z12
    refine G_aload_n 0 rfl rfl dX0_stepLay_25 ?_
    refine G_iload_n 1 rfl rfl dX0_stepLay_26 ?_
    obtain ⟨c13, h⟩ := h
    refine G_callV (as := [_]) cf_X0_109 rfl rfl rfl (sp_X0_lay (d - 1) (by omega) _ o9 _ hx1 c13) (by omega) rfl rfl (Nat.le_of_ble_eq_true rfl) dX0_stepLay_27 ?_
    rintro _ σ16 ⟨rfl, e17⟩ o15 r14
    have h := h σ16 e17
    refine G_iconst dX0_stepLay_30 ?_
    exact G_zret rfl (by decide) dX0_stepLay_31 ⟨_, rfl, h⟩ o15
  · have h := h.2 ((bI_0 _).mp c4)
    refine G_iconst dX0_stepLay_8 ?_
    exact G_zret rfl (by decide) dX0_stepLay_9 ⟨_, rfl, h⟩ hO

theorem sp_X0_stepLay (d : Nat) (hd : 2 ≤ d) (σ : Mem) (hO : OKm σ) (x1 : Int) (hx1 : R32 x1) (A : Mem) (L : List Mem) (tx : Nat → Txt) (hpre : vsC σ A L tx) : Mt yX0_stepLay cX0_stepLay 2 (some .boolean) d [aR (38), aI (x1)] σ (QI (fun v σ' => (canLayS A x1 = true → v = 1 ∧ vsC σ' (layS A x1) (pushS A L) tx) ∧ (canLayS A x1 = false → v = 0 ∧ vsC σ' A L tx) ∧ Fr DDC σ σ')) := mt_X0_stepLay hd hx1 hO (by
  unfold wp_X0_stepLay
  obtain ⟨hV, hL⟩ := hpre
  have hI := hV.2.2.1
  have hcnt := hI.cnt
  have hcnt' := hcnt
  unfold Cnt at hcnt'
  have e8 := hV.1.1.1
  have e5 := hV.2.1.1.1
  refine ⟨by omega, fun h => ?_, fun h => ?_⟩
  · have hr : 0 ≤ x1 ∧ x1 < A 10 0 := by omega
    have t1 := hV.1.2.1 x1 hr.1 hr.2
    have n1 := hV.2.1.2.1 x1 hr.1 hr.2
    have k1 := hI.2.1 x1 hr.1 hr.2
    have k3 := hI.2.2.2.1
    have s4 : σ 4 x1 = A 13 x1 := t1.2.2.1
    have s5 : σ 5 x1 = A 14 x1 := t1.2.2.2
    rw [n1, s5, s4, e5, e8] at h
    have hc : canLayS A x1 = true := decide_eq_true h
    refine ⟨A, L, ⟨hV.2.1, e8, hV.1.1.2.1, hcnt, hL⟩, ?_⟩
    intro σ10 hO10 ⟨hL10, hF10⟩
    have f4 : σ10 4 x1 = A 13 x1 := by rw [hF10 4 (by simp)]; exact s4
    have f5 : σ10 5 x1 = A 14 x1 := by rw [hF10 5 (by simp)]; exact s5
    have f105 : σ10 10 5 = A 0 0 := by rw [hF10 10 (by simp)]; exact e5
    rw [f4, f5, f105]
    refine ⟨⟨by omega, by unfold R32; omega⟩, ?_⟩
    intro σ16 e16
    have hN10 := hV.2.1.congr (σ' := σ10) (fun q h1 h2 => hF10 q (by simp; omega))
    have hF16 : Fr [10, 11] σ10 σ16 := by rw [e16]; exact ((Fr.rf _ _).set (by simp)).set (by simp)
    have hF : Fr DDC σ σ16 := (hF10.wk (by simp)).tr (hF16.wk (by simp))
    have hN : nowC σ16 (layS A x1) := by
      obtain ⟨m0, m1, m2, m3⟩ := hN10
      rw [e16]
      unfold layS
      refine ⟨?_, fun r h1 h2 => ?_, fun g h1 h2 => ?_, fun i h1 h2 => ?_⟩
      · simp (disch := omega) only [mset_off, mset_hit, mset_miss, mcpy_off, mcpy_hit, mcpy_miss, mrow_off, mrow_same]; exact ⟨trivial, m0.2⟩
      · simp (disch := omega) only [mset_off] at h2 ⊢
        by_cases e : r = x1
        · subst e; simp (disch := omega) only [mset_hit]
        · simp (disch := omega) only [mset_miss]; exact m1 r h1 h2
      · simp (disch := omega) only [mset_off] at h2 ⊢; exact m2 g h1 h2
      · unfold bkC at *
        simp (disch := omega) only [mset_off, mset_miss] at h2 ⊢; exact m3 i h1 h2
    refine ⟨fun _ => ⟨rfl, hV.now hN (hI.lay hc) (fun q hq => ?_) (fun q hq => frDD hF q (by omega)), hL10.congr (hF16 15 (by simp)) (hF16 (15 + 1) (by simp))⟩, fun h2 => absurd hc (by rw [h2]; simp), hF⟩
    unfold layS; rw [mset_ne (by omega), mset_ne (by omega)]
  · have hc : canLayS A x1 = false := by
      refine decide_eq_false (fun q => h ?_)
      have t1 := hV.1.2.1 x1 q.1.1 q.1.2
      have n1 := hV.2.1.2.1 x1 q.1.1 q.1.2
      have s4 : σ 4 x1 = A 13 x1 := t1.2.2.1
      have s5 : σ 5 x1 = A 14 x1 := t1.2.2.2
      rw [n1, s5, s4, e5, e8]; exact q
    exact ⟨fun h2 => absurd h2 (by rw [hc]; simp), fun _ => ⟨rfl, hV, hL⟩, Fr.rf _ _⟩)

theorem nowC.core {σ : Mem} {A : Mem} {i j v : Int} (h : nowC σ A) (hij : (i = 5 ∧ j = 0) ∨ (i = 6 ∧ j = 1) ∨ (i = 7 ∧ j = 2) ∨ (i = 8 ∧ j = 3)) : nowC (mset σ 10 i v) (mset A 0 j v) := by
  obtain ⟨m0, m1, m2, m3⟩ := h
  refine ⟨?_, fun r h1 h2 => ?_, fun g h1 h2 => ?_, fun q h1 h2 => ?_⟩
  · rcases hij with ⟨rfl, rfl⟩ | ⟨rfl, rfl⟩ | ⟨rfl, rfl⟩ | ⟨rfl, rfl⟩ <;> (simp (disch := omega) only [mset_hit, mset_miss]; simp [m0])
  · simp (disch := omega) only [mset_off] at h2 ⊢; exact m1 r h1 h2
  · simp (disch := omega) only [mset_off] at h2 ⊢; exact m2 g h1 h2
  · unfold bkC at *
    have : (4 : Int) ≠ j := by omega
    simp (disch := omega) only [mset_off, mset_miss] at h2 ⊢; exact m3 q h1 h2

def wp_X0_stepCoil (x1 : Int) (σ : Mem) (Q : Int → Mem → Prop) : Prop :=
  R32 ((σ 10 5) + x1) ∧
   ((((σ 10 5) + x1) ≤ 999) →
    ∃ g3 : Mem, ∃ g4 : List Mem, (nowC σ g3 ∧ σ 1 8 = g3 10 0 ∧ σ 1 9 = g3 10 1 ∧ Cnt g3 ∧ stepsC σ 15 g4) ∧
    ∀ σ8 : Mem, OKm σ8 → (stepsC σ8 15 (pushS g3 g4) ∧ Fr [15, 16] σ σ8) →
    R32 ((σ8 10 5) + x1) ∧
    ∀ σ11 : Mem, σ11 = mset σ8 10 5 ((σ8 10 5) + x1) →
    Q 1 σ11) ∧
   ((999 < ((σ 10 5) + x1)) →
    Q 0 σ)
theorem mt_X0_stepCoil {d : Nat} (hd : 2 ≤ d) {x1 : Int} {σ : Mem} {Q : Int → Mem → Prop} (hx1 : R32 x1) (hO : OKm σ) (h : wp_X0_stepCoil x1 σ Q) : Mt yX0_stepCoil cX0_stepCoil 2 (some .boolean) d [aR (38), aI (x1)] σ (QI Q) := by
  refine Mt.intro (by decide +kernel) (Nat.le_of_ble_eq_true rfl) [(0, aR (38)), (1, aI (x1))] rfl ?_
  unfold wp_X0_stepCoil at h
  refine G_aload_n 0 rfl rfl dX0_stepCoil_0 ?_
  refine G_get (k := 1) (kd := (2, 10)) (v := aR 10) gf_X0_21 rfl rfl rfl rfl dX0_stepCoil_1 ?_
  refine G_get (k := 5) (kd := (0, 0)) (v := aI (σ 10 5)) gf_X0_86 rfl rfl rfl rfl dX0_stepCoil_4 ?_
  refine G_iload_n 1 rfl rfl dX0_stepCoil_7 ?_
  refine G_iadd dX0_stepCoil_8 ?_
  refine G_sipush (by decide) dX0_stepCoil_9 ?_
  obtain ⟨c1, h⟩ := h
  refine G_icmp_le c1 (rL 999 rfl) dX0_stepCoil_12 (tgt := 17) (by decide) (fun c2 => ?_) (fun c2 => ?_)
  · have h := h.1 c2
    refine G_aload_n 0 rfl rfl dX0_stepCoil_17 ?_
    refine G_get (k := 2) (kd := (2, 15)) (v := aR 15) gf_X0_25 rfl rfl rfl rfl dX0_stepCoil_18 ?_
    refine G_aload_n 0 rfl rfl dX0_stepCoil_21 ?_
    refine G_get (k := 1) (kd := (2, 10)) (v := aR 10) gf_X0_21 rfl rfl rfl rfl dX0_stepCoil_22 ?_
    refine G_aload_n 0 rfl rfl dX0_stepCoil_25 ?_
    refine G_get (k := 0) (kd := (2, 1)) (v := aR 1) gf_X0_17 rfl rfl rfl rfl dX0_stepCoil_26 ?_
    obtain ⟨g3, g4, c5, h⟩ := h
    refine G_callV (as := [_, _]) cf_X0_93 rfl rfl rfl (sp_X7_push (d - 1) (by omega) _ hO  g3 g4 c5) (by omega) rfl rfl (Nat.le_of_ble_eq_true rfl) dX0_stepCoil_29 ?_
    rintro _ σ8 ⟨rfl, z10⟩ o7 r6
    have h := h _ o7 z10
    refine G_aload_n 0 rfl rfl dX0_stepCoil_32 ?_
    refine G_get (k := 1) (kd := (2, 10)) (v := aR 10) gf_X0_21 rfl rfl rfl rfl dX0_stepCoil_33 ?_
    refine G_dup rfl dX0_stepCoil_36 ?_
    refine G_get (k := 5) (kd := (0, 0)) (v := aI (σ8 10 5)) gf_X0_86 rfl rfl rfl rfl dX0_stepCoil_37 ?_
    refine G_iload_n 1 rfl rfl dX0_stepCoil_40 ?_
    refine G_iadd dX0_stepCoil_41 ?_
    obtain ⟨c12, h⟩ := h
    obtain ⟨σ11, e14⟩ : ∃ τ : Mem, τ = mset σ8 10 5 ((σ8 10 5) + x1) := ⟨_, rfl⟩
    have h := h σ11 e14
    have o13 : OKm σ11 := by rw [e14]; exact OKm.seti o7 _ _ _ c12 rfl
    refine G_put (k := 5) (ki := 5) (kd := (0, 0)) (x := _) pf_X0_86 rfl rfl rfl rfl (fa_i (mset_self _ _ _ _)) (fun _ => rfl) (fun _ => rfl) dX0_stepCoil_42 ?_
    rw [← e14]
    refine G_iconst dX0_stepCoil_45 ?_
    exact G_zret rfl (by decide) dX0_stepCoil_46 ⟨_, rfl, h⟩ o13
  · have h := h.2 c2
    refine G_iconst dX0_stepCoil_15 ?_
    exact G_zret rfl (by decide) dX0_stepCoil_16 ⟨_, rfl, h⟩ hO

theorem sp_X0_stepCoil (d : Nat) (hd : 2 ≤ d) (σ : Mem) (hO : OKm σ) (x1 : Int) (hx1 : R32 x1) (A : Mem) (L : List Mem) (tx : Nat → Txt) (hpre : vsC σ A L tx ∧ (1 ≤ x1 ∧ x1 ≤ 99)) : Mt yX0_stepCoil cX0_stepCoil 2 (some .boolean) d [aR (38), aI (x1)] σ (QI (fun v σ' => (A 0 0 + x1 ≤ 999 → v = 1 ∧ vsC σ' (coilS A x1) (pushS A L) tx) ∧ (¬ (A 0 0 + x1 ≤ 999) → v = 0 ∧ vsC σ' A L tx) ∧ Fr DDC σ σ')) := mt_X0_stepCoil hd hx1 hO (by
  unfold wp_X0_stepCoil
  obtain ⟨⟨hV, hL⟩, hx⟩ := hpre
  have hI := hV.2.2.1
  have hcnt := hI.cnt
  have e5 := hV.2.1.1.1
  have k3 := hI.2.2.2.1
  rw [e5]
  refine ⟨by unfold R32; omega, fun h => ⟨A, L, ⟨hV.2.1, hV.1.1.1, hV.1.1.2.1, hcnt, hL⟩, ?_⟩, fun h => ⟨fun h2 => absurd h2 (by omega), fun _ => ⟨rfl, hV, hL⟩, Fr.rf _ _⟩⟩
  intro σ8 hO8 ⟨hL8, hF8⟩
  have f105 : σ8 10 5 = A 0 0 := by rw [hF8 10 (by simp)]; exact e5
  rw [f105]
  refine ⟨by unfold R32; omega, ?_⟩
  intro σ11 e11
  have hN8 := hV.2.1.congr (σ' := σ8) (fun q h1 h2 => hF8 q (by simp; omega))
  have hF11 : Fr [10] σ8 σ11 := by rw [e11]; exact (Fr.rf _ _).set (by simp)
  have hF : Fr DDC σ σ11 := (hF8.wk (by simp)).tr (hF11.wk (by simp))
  refine ⟨fun _ => ⟨rfl, hV.now (by rw [e11]; exact hN8.core (Or.inl ⟨rfl, rfl⟩)) (hI.core (by omega) ⟨fun _ => by omega, fun h => by omega, fun h => by omega, fun h => by omega⟩) (fun q hq => mset_ne (by omega)) (fun q hq => frDD hF q (by omega)), hL8.congr (hF11 15 (by simp)) (hF11 (15 + 1) (by simp))⟩, fun h2 => absurd h h2, hF⟩)
