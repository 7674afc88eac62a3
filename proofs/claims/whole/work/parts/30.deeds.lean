theorem txC {σ σ' : Mem} {A A' : Mem} {tx : Nat → Txt} (h : ∀ i : Nat, (i : Int) < A 10 2 → textC σ (54 + 5 * i) (tx i)) (hA : A' 10 2 = A 10 2) (hf : ∀ q : Nat, 54 ≤ q → q < 74 → σ' q = σ q) (hnt : A 10 2 ≤ 4) : ∀ i : Nat, (i : Int) < A' 10 2 → textC σ' (54 + 5 * i) (tx i) :=
  fun i hi => (h i (by omega)).congr (fun j hj => hf _ (by omega) (by omega))

def wp_X0_tellRoad (x1 : Int) (x2 : Int) (x3 : Int) (x4 : Int) (σ : Mem) (Q : Int → Mem → Prop) : Prop :=
  ((16 ≤ (σ 1 8)) →
    Q (-1) σ) ∧
   (((σ 1 8) < 16) →
    ((x1 ≠ x2) →
     (0 ≤ (σ 1 8) ∧ (σ 1 8) < 16) ∧
     ∀ σ4 : Mem, σ4 = mset σ 2 (σ 1 8) x1 →
     (0 ≤ (σ 1 8) ∧ (σ 1 8) < 16) ∧
     ∀ σ8 : Mem, σ8 = mset σ4 3 (σ 1 8) x2 →
     (0 ≤ (σ 1 8) ∧ (σ 1 8) < 16) ∧
     ∀ σ12 : Mem, σ12 = mset σ8 4 (σ 1 8) x3 →
     (0 ≤ (σ 1 8) ∧ (σ 1 8) < 16) ∧
     ∀ σ16 : Mem, σ16 = mset σ12 5 (σ 1 8) x4 →
     (0 ≤ (σ 1 8) ∧ (σ 1 8) < 16) ∧
     ∀ σ20 : Mem, σ20 = mset σ16 11 (σ 1 8) x4 →
     R32 ((σ20 1 8) + 1) ∧
     ∀ σ23 : Mem, σ23 = mset σ20 1 8 ((σ20 1 8) + 1) →
     Q (σ 1 8) σ23) ∧
    ((x1 = x2) →
     Q (-1) σ))
theorem mt_X0_tellRoad {d : Nat} (hd : 0 ≤ d) {x1 : Int} {x2 : Int} {x3 : Int} {x4 : Int} {σ : Mem} {Q : Int → Mem → Prop} (hx1 : R32 x1) (hx2 : R32 x2) (hx3 : R32 x3) (hx4 : R32 x4) (hO : OKm σ) (h : wp_X0_tellRoad x1 x2 x3 x4 σ Q) : Mt yX0_tellRoad cX0_tellRoad 6 (some .int) d [aR (38), aI (x1), aI (x2), aI (x3), aI (x4)] σ (QI Q) := by
  refine Mt.intro (by decide +kernel) (Nat.le_of_ble_eq_true rfl) [(0, aR (38)), (1, aI (x1)), (2, aI (x2)), (3, aI (x3)), (4, aI (x4))] rfl ?_
  unfold wp_X0_tellRoad at h
  refine G_aload_n 0 rfl rfl dX0_tellRoad_0 ?_
  refine G_get (k := 0) (kd := (2, 1)) (v := aR 1) gf_X0_17 rfl rfl rfl rfl dX0_tellRoad_1 ?_
  refine G_get (k := 8) (kd := (0, 0)) (v := aI (σ 1 8)) gf_X0_33 rfl rfl rfl rfl dX0_tellRoad_4 ?_
  refine G_istore (lv' := [(5, aI ((σ 1 8))), (0, aR (38)), (1, aI (x1)), (2, aI (x2)), (3, aI (x3)), (4, aI (x4))]) rfl (by decide) dX0_tellRoad_7 ?_
  refine G_iload 0 rfl dX0_tellRoad_9 ?_
  refine G_bipush (by decide) dX0_tellRoad_11 ?_
  refine G_icmp_ge (OKm.i hO 1 8 rfl) (rL 16 rfl) dX0_tellRoad_13 (tgt := 21) (by decide) (fun c1 => ?_) (fun c1 => ?_)
  · have h := h.1 c1
    refine G_iconst dX0_tellRoad_21 ?_
    exact G_iret rfl (rL (-1) rfl) dX0_tellRoad_22 ⟨_, rfl, h⟩ hO
  · have h := h.2 c1
    refine G_iload_n 2 rfl rfl dX0_tellRoad_16 ?_
    refine G_iload_n 3 rfl rfl dX0_tellRoad_17 ?_
    refine G_icmp_ne hx1 hx2 dX0_tellRoad_18 (tgt := 23) (by decide) (fun c2 => ?_) (fun c2 => ?_)
    · have h := h.1 c2
      refine G_aload_n 1 rfl rfl dX0_tellRoad_23 ?_
      refine G_get (k := 0) (kd := (2, 1)) (v := aR 1) gf_X0_17 rfl rfl rfl rfl dX0_tellRoad_24 ?_
      refine G_get (k := 0) (kd := (3, 1)) (v := aR (2)) gf_X0_39 rfl rfl rfl rfl dX0_tellRoad_27 ?_
      refine G_iload 0 rfl dX0_tellRoad_30 ?_
      refine G_iload_n 2 rfl rfl dX0_tellRoad_32 ?_
      obtain ⟨c3, h⟩ := h
      obtain ⟨σ4, e6⟩ : ∃ τ : Mem, τ = mset σ 2 (σ 1 8) x1 := ⟨_, rfl⟩
      have h := h σ4 e6
      have o5 : OKm σ4 := by rw [e6]; exact OKm.seti hO _ _ _ hx1 (isLg_row (show shp 2 = (1, 16, []) from rfl) _)
      refine G_iast (n := 16) rfl c3.1 c3.2 dX0_tellRoad_33 ?_
      rw [← e6]
      refine G_aload_n 1 rfl rfl dX0_tellRoad_34 ?_
      refine G_get (k := 0) (kd := (2, 1)) (v := aR 1) gf_X0_17 rfl rfl rfl rfl dX0_tellRoad_35 ?_
      refine G_get (k := 1) (kd := (3, 2)) (v := aR (3)) gf_X0_42 rfl rfl rfl rfl dX0_tellRoad_38 ?_
      refine G_iload 0 rfl dX0_tellRoad_41 ?_
      refine G_iload_n 3 rfl rfl dX0_tellRoad_43 ?_
      obtain ⟨c7, h⟩ := h
      obtain ⟨σ8, e10⟩ : ∃ τ : Mem, τ = mset σ4 3 (σ 1 8) x2 := ⟨_, rfl⟩
      have h := h σ8 e10
      have o9 : OKm σ8 := by rw [e10]; exact OKm.seti o5 _ _ _ hx2 (isLg_row (show shp 3 = (1, 16, []) from rfl) _)
      refine G_iast (n := 16) rfl c7.1 c7.2 dX0_tellRoad_44 ?_
      rw [← e10]
      refine G_aload_n 1 rfl rfl dX0_tellRoad_45 ?_
      refine G_get (k := 0) (kd := (2, 1)) (v := aR 1) gf_X0_17 rfl rfl rfl rfl dX0_tellRoad_46 ?_
      refine G_get (k := 2) (kd := (3, 3)) (v := aR (4)) gf_X0_45 rfl rfl rfl rfl dX0_tellRoad_49 ?_
      refine G_iload 0 rfl dX0_tellRoad_52 ?_
      refine G_iload_n 4 rfl rfl dX0_tellRoad_54 ?_
      obtain ⟨c11, h⟩ := h
      obtain ⟨σ12, e14⟩ : ∃ τ : Mem, τ = mset σ8 4 (σ 1 8) x3 := ⟨_, rfl⟩
      have h := h σ12 e14
      have o13 : OKm σ12 := by rw [e14]; exact OKm.seti o9 _ _ _ hx3 (isLg_row (show shp 4 = (1, 16, []) from rfl) _)
      refine G_iast (n := 16) rfl c11.1 c11.2 dX0_tellRoad_55 ?_
      rw [← e14]
      refine G_aload_n 1 rfl rfl dX0_tellRoad_56 ?_
      refine G_get (k := 0) (kd := (2, 1)) (v := aR 1) gf_X0_17 rfl rfl rfl rfl dX0_tellRoad_57 ?_
      refine G_get (k := 3) (kd := (3, 4)) (v := aR (5)) gf_X0_48 rfl rfl rfl rfl dX0_tellRoad_60 ?_
      refine G_iload 0 rfl dX0_tellRoad_63 ?_
      refine G_iload 5 rfl dX0_tellRoad_65 ?_
      obtain ⟨c15, h⟩ := h
      obtain ⟨σ16, e18⟩ : ∃ τ : Mem, τ = mset σ12 5 (σ 1 8) x4 := ⟨_, rfl⟩
      have h := h σ16 e18
      have o17 : OKm σ16 := by rw [e18]; exact OKm.seti o13 _ _ _ hx4 (isLg_row (show shp 5 = (1, 16, []) from rfl) _)
      refine G_iast (n := 16) rfl c15.1 c15.2 dX0_tellRoad_67 ?_
      rw [← e18]
      refine G_aload_n 1 rfl rfl dX0_tellRoad_68 ?_
      refine G_get (k := 1) (kd := (2, 10)) (v := aR 10) gf_X0_21 rfl rfl rfl rfl dX0_tellRoad_69 ?_
      refine G_get (k := 0) (kd := (3, 1)) (v := aR (11)) gf_X0_51 rfl rfl rfl rfl dX0_tellRoad_72 ?_
      refine G_iload 0 rfl dX0_tellRoad_75 ?_
      refine G_iload 5 rfl dX0_tellRoad_77 ?_
      obtain ⟨c19, h⟩ := h
      obtain ⟨σ20, e22⟩ : ∃ τ : Mem, τ = mset σ16 11 (σ 1 8) x4 := ⟨_, rfl⟩
      have h := h σ20 e22
      have o21 : OKm σ20 := by rw [e22]; exact OKm.seti o17 _ _ _ hx4 (isLg_row (show shp 11 = (1, 16, []) from rfl) _)
      refine G_iast (n := 16) rfl c19.1 c19.2 dX0_tellRoad_79 ?_
      rw [← e22]
      refine G_aload_n 1 rfl rfl dX0_tellRoad_80 ?_
      refine G_get (k := 0) (kd := (2, 1)) (v := aR 1) gf_X0_17 rfl rfl rfl rfl dX0_tellRoad_81 ?_
      refine G_dup rfl dX0_tellRoad_84 ?_
      refine G_get (k := 8) (kd := (0, 0)) (v := aI (σ20 1 8)) gf_X0_33 rfl rfl rfl rfl dX0_tellRoad_85 ?_
      refine G_iconst dX0_tellRoad_88 ?_
      refine G_iadd dX0_tellRoad_89 ?_
      obtain ⟨c24, h⟩ := h
      obtain ⟨σ23, e26⟩ : ∃ τ : Mem, τ = mset σ20 1 8 ((σ20 1 8) + 1) := ⟨_, rfl⟩
      have h := h σ23 e26
      have o25 : OKm σ23 := by rw [e26]; exact OKm.seti o21 _ _ _ c24 rfl
      refine G_put (k := 8) (ki := 8) (kd := (0, 0)) (x := _) pf_X0_33 rfl rfl rfl rfl (fa_i (mset_self _ _ _ _)) (fun _ => rfl) (fun _ => rfl) dX0_tellRoad_90 ?_
      rw [← e26]
      refine G_iload 0 rfl dX0_tellRoad_93 ?_
      exact G_iret rfl (OKm.i hO 1 8 rfl) dX0_tellRoad_95 ⟨_, rfl, h⟩ o25
    · have h := h.2 c2
      refine G_iconst dX0_tellRoad_21 ?_
      exact G_iret rfl (rL (-1) rfl) dX0_tellRoad_22 ⟨_, rfl, h⟩ hO

theorem sp_X0_tellRoad (d : Nat) (hd : 0 ≤ d) (σ : Mem) (hO : OKm σ) (x1 : Int) (hx1 : R32 x1) (x2 : Int) (hx2 : R32 x2) (x3 : Int) (hx3 : R32 x3) (x4 : Int) (hx4 : R32 x4) (A : Mem) (tx : Nat → Txt) (hpre : vwC σ A tx ∧ (0 ≤ x1 ∧ x1 ≤ 7 ∧ 0 ≤ x2 ∧ x2 ≤ 7) ∧ (1 ≤ x3 ∧ x3 ≤ 9) ∧ (1 ≤ x4 ∧ x4 ≤ 99)) : Mt yX0_tellRoad cX0_tellRoad 6 (some .int) d [aR (38), aI (x1), aI (x2), aI (x3), aI (x4)] σ (QI (fun v σ' => (A 10 0 < 16 ∧ x1 ≠ x2 → v = A 10 0 ∧ vwC σ' (roadS A x1 x2 x3 x4) tx) ∧ (¬ (A 10 0 < 16 ∧ x1 ≠ x2) → v = -1 ∧ vwC σ' A tx) ∧ Fr [1, 2, 3, 4, 5, 11] σ σ')) := mt_X0_tellRoad hd hx1 hx2 hx3 hx4 hO (by
  unfold wp_X0_tellRoad
  obtain ⟨hV, hab, hn, ht⟩ := hpre
  have hI := hV.2.2.1
  have hnt := hI.1
  have e8 := hV.1.1.1
  rw [e8]
  refine ⟨fun h => ⟨fun h2 => absurd h2.1 (by omega), fun _ => ⟨rfl, hV⟩, Fr.rf _ _⟩, fun h => ⟨fun hne => ?_, fun heq => ⟨fun h2 => absurd heq h2.2, fun _ => ⟨rfl, hV⟩, Fr.rf _ _⟩⟩⟩
  unfold R32
  repeat' (first | (intro _ e; subst e) | (refine And.intro ?_ ?_; first | omega | (simp (disch := omega) only [mset_off, mset_hit, mset_miss, mcpy_off, mcpy_hit, mcpy_miss, mrow_off, mrow_same]; omega)))
  refine ⟨fun _ => ⟨rfl, ?_⟩, fun h2 => absurd ⟨h, hne⟩ h2, ?_⟩
  · obtain ⟨⟨t0, t1, t2, t3⟩, ⟨n0, n1, n2, n3⟩, -, hX⟩ := hV
    refine ⟨⟨?_, fun r h1 h2 => ?_, fun g h1 h2 => ?_, fun i h1 h2 => ?_⟩, ⟨?_, fun r h1 h2 => ?_, fun g h1 h2 => ?_, fun i h1 h2 => ?_⟩, hI.road h (by omega) hn ht, txC hX ?_ (fun q h1 h2 => ?_) (by omega)⟩
    · unfold roadS; simp (disch := omega) only [mset_off, mset_hit, mset_miss, mcpy_off, mcpy_hit, mcpy_miss, mrow_off, mrow_same]; omega
    · unfold roadS at h2 ⊢
      simp (disch := omega) only [mset_hit] at h2
      by_cases e : r = A 10 0
      · subst e; simp (disch := omega) only [mset_off, mset_hit, mset_miss, mcpy_off, mcpy_hit, mcpy_miss, mrow_off, mrow_same]; exact ⟨trivial, trivial, trivial, trivial⟩
      · simp (disch := omega) only [mset_off, mset_hit, mset_miss, mcpy_off, mcpy_hit, mcpy_miss, mrow_off, mrow_same]; exact t1 r h1 (by omega)
    · unfold roadS at h2 ⊢
      simp (disch := omega) only [mset_off, mset_miss] at h2
      simp (disch := omega) only [mset_off, mset_hit, mset_miss, mcpy_off, mcpy_hit, mcpy_miss, mrow_off, mrow_same]; exact t2 g h1 h2
    · unfold roadS at h2 ⊢
      simp (disch := omega) only [mset_off, mset_miss] at h2
      simp (disch := omega) only [mset_off, mset_hit, mset_miss, mcpy_off, mcpy_hit, mcpy_miss, mrow_off, mrow_same]; exact t3 i h1 h2
    · unfold roadS; simp (disch := omega) only [mset_off, mset_hit, mset_miss, mcpy_off, mcpy_hit, mcpy_miss, mrow_off, mrow_same]; exact n0
    · unfold roadS at h2 ⊢
      simp (disch := omega) only [mset_hit] at h2
      by_cases e : r = A 10 0
      · subst e; simp (disch := omega) only [mset_off, mset_hit, mset_miss, mcpy_off, mcpy_hit, mcpy_miss, mrow_off, mrow_same]
      · simp (disch := omega) only [mset_off, mset_hit, mset_miss, mcpy_off, mcpy_hit, mcpy_miss, mrow_off, mrow_same]; exact n1 r h1 (by omega)
    · unfold roadS at h2 ⊢
      simp (disch := omega) only [mset_off, mset_miss] at h2
      simp (disch := omega) only [mset_off, mset_hit, mset_miss, mcpy_off, mcpy_hit, mcpy_miss, mrow_off, mrow_same]; exact n2 g h1 h2
    · unfold roadS bkC at *
      simp (disch := omega) only [mset_off] at h2
      simp (disch := omega) only [mset_off, mset_hit, mset_miss, mcpy_off, mcpy_hit, mcpy_miss, mrow_off, mrow_same]; exact n3 i h1 h2
    · unfold roadS; simp (disch := omega) only [mset_off, mset_hit, mset_miss, mcpy_off, mcpy_hit, mcpy_miss, mrow_off, mrow_same]
    · funext j; simp (disch := omega) only [mset_off, mset_hit, mset_miss, mcpy_off, mcpy_hit, mcpy_miss, mrow_off, mrow_same]
  · intro q hq
    simp only [List.mem_cons, List.not_mem_nil, or_false, not_or] at hq
    funext j
    simp (disch := omega) only [mset_off, mset_hit, mset_miss, mcpy_off, mcpy_hit, mcpy_miss, mrow_off, mrow_same])

def wp_X0_tellGoer (x1 : Int) (x2 : Int) (σ : Mem) (Q : Int → Mem → Prop) : Prop :=
  (((σ 1 9) < 6) →
    (0 ≤ (σ 1 9) ∧ (σ 1 9) < 6) ∧
    ∀ σ3 : Mem, σ3 = mset σ 6 (σ 1 9) x2 →
    (0 ≤ (σ 1 9) ∧ (σ 1 9) < 6) ∧
    ∀ σ7 : Mem, σ7 = mset σ3 12 (σ 1 9) x1 →
    (0 ≤ (σ 1 9) ∧ (σ 1 9) < 6) ∧
    ∀ σ11 : Mem, σ11 = mset σ7 13 (σ 1 9) 0 →
    R32 ((σ11 1 9) + 1) ∧
    ∀ σ14 : Mem, σ14 = mset σ11 1 9 ((σ11 1 9) + 1) →
    Q (σ 1 9) σ14) ∧
   ((6 ≤ (σ 1 9)) →
    Q (-1) σ)
theorem mt_X0_tellGoer {d : Nat} (hd : 0 ≤ d) {x1 : Int} {x2 : Int} {σ : Mem} {Q : Int → Mem → Prop} (hx1 : R32 x1) (hx2 : R32 x2) (hO : OKm σ) (h : wp_X0_tellGoer x1 x2 σ Q) : Mt yX0_tellGoer cX0_tellGoer 4 (some .int) d [aR (38), aI (x1), aI (x2)] σ (QI Q) := by
  refine Mt.intro (by decide +kernel) (Nat.le_of_ble_eq_true rfl) [(0, aR (38)), (1, aI (x1)), (2, aI (x2))] rfl ?_
  unfold wp_X0_tellGoer at h
  refine G_aload_n 0 rfl rfl dX0_tellGoer_0 ?_
  refine G_get (k := 0) (kd := (2, 1)) (v := aR 1) gf_X0_17 rfl rfl rfl rfl dX0_tellGoer_1 ?_
  refine G_get (k := 9) (kd := (0, 0)) (v := aI (σ 1 9)) gf_X0_54 rfl rfl rfl rfl dX0_tellGoer_4 ?_
  refine G_istore_n (lv' := [(3, aI ((σ 1 9))), (0, aR (38)), (1, aI (x1)), (2, aI (x2))]) rfl rfl (by decide) dX0_tellGoer_7 ?_
  refine G_iload_n 0 rfl rfl dX0_tellGoer_8 ?_
  refine G_bipush (by decide) dX0_tellGoer_9 ?_
  refine G_icmp_lt (OKm.i hO 1 9 rfl) (rL 6 rfl) dX0_tellGoer_11 (tgt := 16) (by decide) (fun c1 => ?_) (fun c1 => ?_)
  · have h := h.1 c1
    refine G_aload_n 1 rfl rfl dX0_tellGoer_16 ?_
    refine G_get (k := 0) (kd := (2, 1)) (v := aR 1) gf_X0_17 rfl rfl rfl rfl dX0_tellGoer_17 ?_
    refine G_get (k := 4) (kd := (3, 5)) (v := aR (6)) gf_X0_57 rfl rfl rfl rfl dX0_tellGoer_20 ?_
    refine G_iload_n 0 rfl rfl dX0_tellGoer_23 ?_
    refine G_iload_n 3 rfl rfl dX0_tellGoer_24 ?_
    obtain ⟨c2, h⟩ := h
    obtain ⟨σ3, e5⟩ : ∃ τ : Mem, τ = mset σ 6 (σ 1 9) x2 := ⟨_, rfl⟩
    have h := h σ3 e5
    have o4 : OKm σ3 := by rw [e5]; exact OKm.seti hO _ _ _ hx2 (isLg_row (show shp 6 = (1, 6, []) from rfl) _)
    refine G_iast (n := 6) rfl c2.1 c2.2 dX0_tellGoer_25 ?_
    rw [← e5]
    refine G_aload_n 1 rfl rfl dX0_tellGoer_26 ?_
    refine G_get (k := 1) (kd := (2, 10)) (v := aR 10) gf_X0_21 rfl rfl rfl rfl dX0_tellGoer_27 ?_
    refine G_get (k := 1) (kd := (3, 2)) (v := aR (12)) gf_X0_60 rfl rfl rfl rfl dX0_tellGoer_30 ?_
    refine G_iload_n 0 rfl rfl dX0_tellGoer_33 ?_
    refine G_iload_n 2 rfl rfl dX0_tellGoer_34 ?_
    obtain ⟨c6, h⟩ := h
    obtain ⟨σ7, e9⟩ : ∃ τ : Mem, τ = mset σ3 12 (σ 1 9) x1 := ⟨_, rfl⟩
    have h := h σ7 e9
    have o8 : OKm σ7 := by rw [e9]; exact OKm.seti o4 _ _ _ hx1 (isLg_row (show shp 12 = (1, 6, []) from rfl) _)
    refine G_iast (n := 6) rfl c6.1 c6.2 dX0_tellGoer_35 ?_
    rw [← e9]
    refine G_aload_n 1 rfl rfl dX0_tellGoer_36 ?_
    refine G_get (k := 1) (kd := (2, 10)) (v := aR 10) gf_X0_21 rfl rfl rfl rfl dX0_tellGoer_37 ?_
    refine G_get (k := 2) (kd := (3, 3)) (v := aR (13)) gf_X0_63 rfl rfl rfl rfl dX0_tellGoer_40 ?_
    refine G_iload_n 0 rfl rfl dX0_tellGoer_43 ?_
    refine G_iconst dX0_tellGoer_44 ?_
    obtain ⟨c10, h⟩ := h
    obtain ⟨σ11, e13⟩ : ∃ τ : Mem, τ = mset σ7 13 (σ 1 9) 0 := ⟨_, rfl⟩
    have h := h σ11 e13
    have o12 : OKm σ11 := by rw [e13]; exact OKm.seti o8 _ _ _ (rL 0 rfl) (isLg_row (show shp 13 = (1, 6, []) from rfl) _)
    refine G_iast (n := 6) rfl c10.1 c10.2 dX0_tellGoer_45 ?_
    rw [← e13]
    refine G_aload_n 1 rfl rfl dX0_tellGoer_46 ?_
    refine G_get (k := 0) (kd := (2, 1)) (v := aR 1) gf_X0_17 rfl rfl rfl rfl dX0_tellGoer_47 ?_
    refine G_dup rfl dX0_tellGoer_50 ?_
    refine G_get (k := 9) (kd := (0, 0)) (v := aI (σ11 1 9)) gf_X0_54 rfl rfl rfl rfl dX0_tellGoer_51 ?_
    refine G_iconst dX0_tellGoer_54 ?_
    refine G_iadd dX0_tellGoer_55 ?_
    obtain ⟨c15, h⟩ := h
    obtain ⟨σ14, e17⟩ : ∃ τ : Mem, τ = mset σ11 1 9 ((σ11 1 9) + 1) := ⟨_, rfl⟩
    have h := h σ14 e17
    have o16 : OKm σ14 := by rw [e17]; exact OKm.seti o12 _ _ _ c15 rfl
    refine G_put (k := 9) (ki := 9) (kd := (0, 0)) (x := _) pf_X0_54 rfl rfl rfl rfl (fa_i (mset_self _ _ _ _)) (fun _ => rfl) (fun _ => rfl) dX0_tellGoer_56 ?_
    rw [← e17]
    refine G_iload_n 0 rfl rfl dX0_tellGoer_59 ?_
    exact G_iret rfl (OKm.i hO 1 9 rfl) dX0_tellGoer_60 ⟨_, rfl, h⟩ o16
  · have h := h.2 c1
    refine G_iconst dX0_tellGoer_14 ?_
    exact G_iret rfl (rL (-1) rfl) dX0_tellGoer_15 ⟨_, rfl, h⟩ hO

theorem sp_X0_tellGoer (d : Nat) (hd : 0 ≤ d) (σ : Mem) (hO : OKm σ) (x1 : Int) (hx1 : R32 x1) (x2 : Int) (hx2 : R32 x2) (A : Mem) (tx : Nat → Txt) (hpre : vwC σ A tx ∧ (0 ≤ x1 ∧ x1 ≤ 7) ∧ (1 ≤ x2 ∧ x2 ≤ 9)) : Mt yX0_tellGoer cX0_tellGoer 4 (some .int) d [aR (38), aI (x1), aI (x2)] σ (QI (fun v σ' => (A 10 1 < 6 → v = A 10 1 ∧ vwC σ' (goerS A x1 x2) tx) ∧ (¬ (A 10 1 < 6) → v = -1 ∧ vwC σ' A tx) ∧ Fr [1, 6, 12, 13] σ σ')) := mt_X0_tellGoer hd hx1 hx2 hO (by
  unfold wp_X0_tellGoer
  obtain ⟨hV, hab, hn⟩ := hpre
  have hI := hV.2.2.1
  have hnt := hI.1
  have e9 := hV.1.1.2.1
  rw [e9]
  refine ⟨fun h => ?_, fun h => ⟨fun h2 => absurd h2 (by omega), fun _ => ⟨rfl, hV⟩, Fr.rf _ _⟩⟩
  unfold R32
  repeat' (first | (intro _ e; subst e) | (refine And.intro ?_ ?_; first | omega | (simp (disch := omega) only [mset_off, mset_hit, mset_miss, mcpy_off, mcpy_hit, mcpy_miss, mrow_off, mrow_same]; omega)))
  refine ⟨fun _ => ⟨rfl, ?_⟩, fun h2 => absurd h h2, ?_⟩
  · obtain ⟨⟨t0, t1, t2, t3⟩, ⟨n0, n1, n2, n3⟩, -, hX⟩ := hV
    refine ⟨⟨?_, fun r h1 h2 => ?_, fun g h1 h2 => ?_, fun i h1 h2 => ?_⟩, ⟨?_, fun r h1 h2 => ?_, fun g h1 h2 => ?_, fun i h1 h2 => ?_⟩, hI.goer h (by omega) hn, txC hX ?_ (fun q h1 h2 => ?_) (by omega)⟩
    · unfold goerS; simp (disch := omega) only [mset_off, mset_hit, mset_miss, mcpy_off, mcpy_hit, mcpy_miss, mrow_off, mrow_same]; omega
    · unfold goerS at h2 ⊢
      simp (disch := omega) only [mset_off, mset_miss] at h2
      simp (disch := omega) only [mset_off, mset_hit, mset_miss, mcpy_off, mcpy_hit, mcpy_miss, mrow_off, mrow_same]; exact t1 r h1 h2
    · unfold goerS at h2 ⊢
      simp (disch := omega) only [mset_hit] at h2
      by_cases e : g = A 10 1
      · subst e; simp (disch := omega) only [mset_off, mset_hit, mset_miss, mcpy_off, mcpy_hit, mcpy_miss, mrow_off, mrow_same]
      · simp (disch := omega) only [mset_off, mset_hit, mset_miss, mcpy_off, mcpy_hit, mcpy_miss, mrow_off, mrow_same]; exact t2 g h1 (by omega)
    · unfold goerS at h2 ⊢
      simp (disch := omega) only [mset_off, mset_miss] at h2
      simp (disch := omega) only [mset_off, mset_hit, mset_miss, mcpy_off, mcpy_hit, mcpy_miss, mrow_off, mrow_same]; exact t3 i h1 h2
    · unfold goerS; simp (disch := omega) only [mset_off, mset_hit, mset_miss, mcpy_off, mcpy_hit, mcpy_miss, mrow_off, mrow_same]; exact n0
    · unfold goerS at h2 ⊢
      simp (disch := omega) only [mset_off, mset_miss] at h2
      simp (disch := omega) only [mset_off, mset_hit, mset_miss, mcpy_off, mcpy_hit, mcpy_miss, mrow_off, mrow_same]; exact n1 r h1 h2
    · unfold goerS at h2 ⊢
      simp (disch := omega) only [mset_hit] at h2
      by_cases e : g = A 10 1
      · subst e; simp (disch := omega) only [mset_off, mset_hit, mset_miss, mcpy_off, mcpy_hit, mcpy_miss, mrow_off, mrow_same]; exact ⟨trivial, trivial⟩
      · simp (disch := omega) only [mset_off, mset_hit, mset_miss, mcpy_off, mcpy_hit, mcpy_miss, mrow_off, mrow_same]; exact n2 g h1 (by omega)
    · unfold goerS bkC at *
      simp (disch := omega) only [mset_off] at h2
      simp (disch := omega) only [mset_off, mset_hit, mset_miss, mcpy_off, mcpy_hit, mcpy_miss, mrow_off, mrow_same]; exact n3 i h1 h2
    · unfold goerS; simp (disch := omega) only [mset_off, mset_hit, mset_miss, mcpy_off, mcpy_hit, mcpy_miss, mrow_off, mrow_same]
    · funext j; simp (disch := omega) only [mset_off, mset_hit, mset_miss, mcpy_off, mcpy_hit, mcpy_miss, mrow_off, mrow_same]
  · intro q hq
    simp only [List.mem_cons, List.not_mem_nil, or_false, not_or] at hq
    funext j
    simp (disch := omega) only [mset_off, mset_hit, mset_miss, mcpy_off, mcpy_hit, mcpy_miss, mrow_off, mrow_same])
