def wp_X12_copy  (σ : Mem) (Q : Mem → Prop) : Prop :=
 ∀ P2 : Int → Mem → Prop,
 (∀ (v2 : Int) (σ : Mem), (R32 v2 → OKm σ →
   ((2119 ≤ v2) →
     Q σ) ∧
    ((v2 < 2119) →
     (0 ≤ v2 ∧ v2 < 2119) ∧
     (0 ≤ v2 ∧ v2 < 2119) ∧
     ∀ σ4 : Mem, σ4 = mset σ 76 v2 (σ 75 v2) →
     R32 (v2 + 1) ∧ P2 (v2 + 1) σ4)) → P2 v2 σ) →
  P2 0 σ
theorem mt_X12_copy {d : Nat} (hd : 0 ≤ d)  {σ : Mem} {Q : Mem → Prop}  (hO : OKm σ) (h : wp_X12_copy  σ Q) : Mt yX12_copy cX12_copy 3 none d [aR (75), aR (76)] σ (QV Q) := by
  refine Mt.intro (by decide +kernel) (Nat.le_of_ble_eq_true rfl) [(0, aR (75)), (1, aR (76))] rfl ?_
  unfold wp_X12_copy at h
  have h := h (fun (v2 : Int) (σ : Mem) => R32 v2 → OKm σ → G yX12_copy cX12_copy 3 none d (QV Q) 2 [(0, aR (75)), (1, aR (76)), (2, aI (v2))] [] σ) ?_
  · refine G_iconst dX12_copy_0 ?_
    refine G_istore_n (lv' := [(2, aI (0)), (0, aR (75)), (1, aR (76))]) rfl rfl (by decide) dX12_copy_1 ?_
    exact G_pick [1, 2, 0] rfl (h (rL 0 rfl) hO)
  · intro v2 σ h hv2 hO
    have h := h hv2 hO
    refine G_iload_n 2 rfl rfl dX12_copy_2 ?_
    refine G_sipush (by decide) dX12_copy_3 ?_
    refine G_icmp_ge hv2 (rL 2119 rfl) dX12_copy_6 (tgt := 21) (by decide) (fun c1 => ?_) (fun c1 => ?_)
    · have h := h.1 c1
      exact G_vret rfl dX12_copy_21 ⟨rfl, h⟩ hO
    · have h := h.2 c1
      refine G_aload_n 1 rfl rfl dX12_copy_9 ?_
      refine G_iload_n 2 rfl rfl dX12_copy_10 ?_
      refine G_aload_n 0 rfl rfl dX12_copy_11 ?_
      refine G_iload_n 2 rfl rfl dX12_copy_12 ?_
      obtain ⟨c2, h⟩ := h
      refine G_iald (n := 2119) rfl c2.1 c2.2 dX12_copy_13 ?_
      obtain ⟨c3, h⟩ := h
      obtain ⟨σ4, e6⟩ : ∃ τ : Mem, τ = mset σ 76 v2 (σ 75 v2) := ⟨_, rfl⟩
      have h := h σ4 e6
      have o5 : OKm σ4 := by rw [e6]; exact OKm.seti hO _ _ _ (OKm.i hO 75 v2 (isLg_row (show shp 75 = (1, 2119, []) from rfl) _)) (isLg_row (show shp 76 = (1, 2119, []) from rfl) _)
      refine G_iast (n := 2119) rfl c3.1 c3.2 dX12_copy_14 ?_
      rw [← e6]
      refine G_iinc (lv' := [(2, aI ((v2 + 1))), (0, aR (75)), (1, aR (76))]) (k := 2) rfl rfl (by decide) dX12_copy_15 ?_
      refine G_goto (tgt := 2) dX12_copy_18 (by decide) ?_
      obtain ⟨c7, h⟩ := h
      exact G_pick [1, 2, 0] rfl (h c7 o5)

theorem sp_X12_copy (d : Nat) (hd : 0 ≤ d) (σ : Mem) (hO : OKm σ) : Mt yX12_copy cX12_copy 3 none d [aR (75), aR (76)] σ (QV (fun σ' => (∀ i : Int, 0 ≤ i → i < 2119 → σ' 76 i = σ 75 i) ∧ Fr [76] σ σ')) := mt_X12_copy hd  hO (by
  unfold wp_X12_copy
  intro P2 h2
  have H : ∀ (n : Nat) (k : Int) (τ : Mem), k + n = 2119 → (0 ≤ k ∧ (∀ i : Int, 0 ≤ i → i < k → τ 76 i = σ 75 i) ∧ (∀ i : Int, k ≤ i → τ 76 i = σ 76 i) ∧ Fr [76] σ τ) → P2 k τ := by
    intro n
    induction n with
    | zero =>
      intro k τ hk hI
      refine h2 _ _ (fun _ hOt => ?_)
      refine ⟨fun hh => ?_, fun hh => absurd hh (by omega)⟩
      exact ⟨fun i h1 h2 => hI.2.1 i h1 (by omega), hI.2.2.2⟩
    | succ n ih =>
      intro k τ hk hI
      refine h2 _ _ (fun _ hOt => ?_)
      refine ⟨fun hh => absurd hh (by omega), fun hh => ?_⟩
      refine ⟨by omega, by omega, ?_⟩
      intro _ e; subst e
      refine ⟨by unfold R32; omega, ih _ _ (by omega) ⟨by omega, fun i h1 h2 => ?_, fun i h1 => ?_, hI.2.2.2.set (by simp)⟩⟩
      · by_cases e : i = k
        · subst e
          rw [mset_hit rfl, hI.2.2.2 75 (by simp)]
        · rw [mset_miss e]; exact hI.2.1 i h1 (by omega)
      · rw [mset_miss (by omega)]; exact hI.2.2.1 i (by omega)
  exact H 2119 0 σ (by omega) ⟨by omega, fun i h1 h2 => by omega, fun i _ => rfl, Fr.rf _ _⟩)

def wp_X12_copy_b  (σ : Mem) (Q : Mem → Prop) : Prop :=
 ∀ P2 : Int → Mem → Prop,
 (∀ (v2 : Int) (σ : Mem), (R32 v2 → OKm σ →
   ((2119 ≤ v2) →
     Q σ) ∧
    ((v2 < 2119) →
     (0 ≤ v2 ∧ v2 < 2119) ∧
     (0 ≤ v2 ∧ v2 < 2119) ∧
     ∀ σ4 : Mem, σ4 = mset σ 75 v2 (σ 76 v2) →
     R32 (v2 + 1) ∧ P2 (v2 + 1) σ4)) → P2 v2 σ) →
  P2 0 σ
theorem mt_X12_copy_b {d : Nat} (hd : 0 ≤ d)  {σ : Mem} {Q : Mem → Prop}  (hO : OKm σ) (h : wp_X12_copy_b  σ Q) : Mt yX12_copy cX12_copy 3 none d [aR (76), aR (75)] σ (QV Q) := by
  refine Mt.intro (by decide +kernel) (Nat.le_of_ble_eq_true rfl) [(0, aR (76)), (1, aR (75))] rfl ?_
  unfold wp_X12_copy_b at h
  have h := h (fun (v2 : Int) (σ : Mem) => R32 v2 → OKm σ → G yX12_copy cX12_copy 3 none d (QV Q) 2 [(0, aR (76)), (1, aR (75)), (2, aI (v2))] [] σ) ?_
  · refine G_iconst dX12_copy_0 ?_
    refine G_istore_n (lv' := [(2, aI (0)), (0, aR (76)), (1, aR (75))]) rfl rfl (by decide) dX12_copy_1 ?_
    exact G_pick [1, 2, 0] rfl (h (rL 0 rfl) hO)
  · intro v2 σ h hv2 hO
    have h := h hv2 hO
    refine G_iload_n 2 rfl rfl dX12_copy_2 ?_
    refine G_sipush (by decide) dX12_copy_3 ?_
    refine G_icmp_ge hv2 (rL 2119 rfl) dX12_copy_6 (tgt := 21) (by decide) (fun c1 => ?_) (fun c1 => ?_)
    · have h := h.1 c1
      exact G_vret rfl dX12_copy_21 ⟨rfl, h⟩ hO
    · have h := h.2 c1
      refine G_aload_n 1 rfl rfl dX12_copy_9 ?_
      refine G_iload_n 2 rfl rfl dX12_copy_10 ?_
      refine G_aload_n 0 rfl rfl dX12_copy_11 ?_
      refine G_iload_n 2 rfl rfl dX12_copy_12 ?_
      obtain ⟨c2, h⟩ := h
      refine G_iald (n := 2119) rfl c2.1 c2.2 dX12_copy_13 ?_
      obtain ⟨c3, h⟩ := h
      obtain ⟨σ4, e6⟩ : ∃ τ : Mem, τ = mset σ 75 v2 (σ 76 v2) := ⟨_, rfl⟩
      have h := h σ4 e6
      have o5 : OKm σ4 := by rw [e6]; exact OKm.seti hO _ _ _ (OKm.i hO 76 v2 (isLg_row (show shp 76 = (1, 2119, []) from rfl) _)) (isLg_row (show shp 75 = (1, 2119, []) from rfl) _)
      refine G_iast (n := 2119) rfl c3.1 c3.2 dX12_copy_14 ?_
      rw [← e6]
      refine G_iinc (lv' := [(2, aI ((v2 + 1))), (0, aR (76)), (1, aR (75))]) (k := 2) rfl rfl (by decide) dX12_copy_15 ?_
      refine G_goto (tgt := 2) dX12_copy_18 (by decide) ?_
      obtain ⟨c7, h⟩ := h
      exact G_pick [1, 2, 0] rfl (h c7 o5)

theorem sp_X12_copy_b (d : Nat) (hd : 0 ≤ d) (σ : Mem) (hO : OKm σ) : Mt yX12_copy cX12_copy 3 none d [aR (76), aR (75)] σ (QV (fun σ' => (∀ i : Int, 0 ≤ i → i < 2119 → σ' 75 i = σ 76 i) ∧ Fr [75] σ σ')) := mt_X12_copy_b hd  hO (by
  unfold wp_X12_copy_b
  intro P2 h2
  have H : ∀ (n : Nat) (k : Int) (τ : Mem), k + n = 2119 → (0 ≤ k ∧ (∀ i : Int, 0 ≤ i → i < k → τ 75 i = σ 76 i) ∧ (∀ i : Int, k ≤ i → τ 75 i = σ 75 i) ∧ Fr [75] σ τ) → P2 k τ := by
    intro n
    induction n with
    | zero =>
      intro k τ hk hI
      refine h2 _ _ (fun _ hOt => ?_)
      refine ⟨fun hh => ?_, fun hh => absurd hh (by omega)⟩
      exact ⟨fun i h1 h2 => hI.2.1 i h1 (by omega), hI.2.2.2⟩
    | succ n ih =>
      intro k τ hk hI
      refine h2 _ _ (fun _ hOt => ?_)
      refine ⟨fun hh => absurd hh (by omega), fun hh => ?_⟩
      refine ⟨by omega, by omega, ?_⟩
      intro _ e; subst e
      refine ⟨by unfold R32; omega, ih _ _ (by omega) ⟨by omega, fun i h1 h2 => ?_, fun i h1 => ?_, hI.2.2.2.set (by simp)⟩⟩
      · by_cases e : i = k
        · subst e
          rw [mset_hit rfl, hI.2.2.2 76 (by simp)]
        · rw [mset_miss e]; exact hI.2.1 i h1 (by omega)
      · rw [mset_miss (by omega)]; exact hI.2.2.1 i (by omega)
  exact H 2119 0 σ (by omega) ⟨by omega, fun i h1 h2 => by omega, fun i _ => rfl, Fr.rf _ _⟩)

def wp_X12_begin (x1 : Int) (σ : Mem) (Q : Mem → Prop) : Prop :=
  (0 ≤ (103 + (2 * x1)) ∧ (103 + (2 * x1)) < 2119) ∧
   (0 ≤ (27 + (2 * x1)) ∧ (27 + (2 * x1)) < 2119) ∧
   ∀ σ3 : Mem, σ3 = mset σ 75 (27 + (2 * x1)) (σ 75 (103 + (2 * x1))) →
   (0 ≤ ((27 + (2 * x1)) + 1) ∧ ((27 + (2 * x1)) + 1) < 2119) ∧
   ∀ σ7 : Mem, σ7 = mset σ3 75 ((27 + (2 * x1)) + 1) 0 →
   Q σ7
theorem mt_X12_begin {d : Nat} (hd : 0 ≤ d) {x1 : Int} {σ : Mem} {Q : Mem → Prop} (hx1 : R32 x1) (hO : OKm σ) (h : wp_X12_begin x1 σ Q) : Mt yX12_begin cX12_begin 2 none d [aR (74), aI (x1)] σ (QV Q) := by
  refine Mt.intro (by decide +kernel) (Nat.le_of_ble_eq_true rfl) [(0, aR (74)), (1, aI (x1))] rfl ?_
  unfold wp_X12_begin at h
  refine G_aload_n 0 rfl rfl dX12_begin_0 ?_
  refine G_get (k := 0) (kd := (2, 75)) (v := aR 75) gf_X12_7 rfl rfl rfl rfl dX12_begin_1 ?_
  refine G_bipush (by decide) dX12_begin_4 ?_
  refine G_iconst dX12_begin_6 ?_
  refine G_iload_n 1 rfl rfl dX12_begin_7 ?_
  refine G_imul dX12_begin_8 ?_
  refine G_iadd dX12_begin_9 ?_
  refine G_aload_n 0 rfl rfl dX12_begin_10 ?_
  refine G_get (k := 0) (kd := (2, 75)) (v := aR 75) gf_X12_7 rfl rfl rfl rfl dX12_begin_11 ?_
  refine G_bipush (by decide) dX12_begin_14 ?_
  refine G_iconst dX12_begin_16 ?_
  refine G_iload_n 1 rfl rfl dX12_begin_17 ?_
  refine G_imul dX12_begin_18 ?_
  refine G_iadd dX12_begin_19 ?_
  obtain ⟨c1, h⟩ := h
  refine G_iald (n := 2119) rfl c1.1 c1.2 dX12_begin_20 ?_
  obtain ⟨c2, h⟩ := h
  obtain ⟨σ3, e5⟩ : ∃ τ : Mem, τ = mset σ 75 (27 + (2 * x1)) (σ 75 (103 + (2 * x1))) := ⟨_, rfl⟩
  have h := h σ3 e5
  have o4 : OKm σ3 := by rw [e5]; exact OKm.seti hO _ _ _ (OKm.i hO 75 (103 + (2 * x1)) (isLg_row (show shp 75 = (1, 2119, []) from rfl) _)) (isLg_row (show shp 75 = (1, 2119, []) from rfl) _)
  refine G_iast (n := 2119) rfl c2.1 c2.2 dX12_begin_21 ?_
  rw [← e5]
  refine G_aload_n 0 rfl rfl dX12_begin_22 ?_
  refine G_get (k := 0) (kd := (2, 75)) (v := aR 75) gf_X12_7 rfl rfl rfl rfl dX12_begin_23 ?_
  refine G_bipush (by decide) dX12_begin_26 ?_
  refine G_iconst dX12_begin_28 ?_
  refine G_iload_n 1 rfl rfl dX12_begin_29 ?_
  refine G_imul dX12_begin_30 ?_
  refine G_iadd dX12_begin_31 ?_
  refine G_iconst dX12_begin_32 ?_
  refine G_iadd dX12_begin_33 ?_
  refine G_iconst dX12_begin_34 ?_
  obtain ⟨c6, h⟩ := h
  obtain ⟨σ7, e9⟩ : ∃ τ : Mem, τ = mset σ3 75 ((27 + (2 * x1)) + 1) 0 := ⟨_, rfl⟩
  have h := h σ7 e9
  have o8 : OKm σ7 := by rw [e9]; exact OKm.seti o4 _ _ _ (rL 0 rfl) (isLg_row (show shp 75 = (1, 2119, []) from rfl) _)
  refine G_iast (n := 2119) rfl c6.1 c6.2 dX12_begin_35 ?_
  rw [← e9]
  exact G_vret rfl dX12_begin_36 ⟨rfl, h⟩ o8

theorem sp_X12_begin (d : Nat) (hd : 0 ≤ d) (σ : Mem) (hO : OKm σ) (x1 : Int) (hx1 : R32 x1) (hpre : 0 ≤ x1 ∧ x1 < 6) : Mt yX12_begin cX12_begin 2 none d [aR (74), aI (x1)] σ (QV (fun σ' => σ' = (mset (mset σ 75 (27 + 2 * x1) (σ 75 (103 + 2 * x1))) 75 (27 + 2 * x1 + 1) 0))) := mt_X12_begin hd hx1 hO (by
  unfold wp_X12_begin
  unfold R32 at *
  repeat' (first | (intro _ e; subst e) | (refine And.intro ?_ ?_; first | omega | (simp (disch := omega) only [mset_off, mset_hit, mset_miss, mcpy_off, mcpy_hit, mcpy_miss, mrow_off, mrow_same]; omega)))
  simp (disch := omega) only [mset_off])

def wp_X12_anew  (σ : Mem) (Q : Mem → Prop) : Prop :=
  R64 (((σ 75 7) * 547) + 421) ∧
   R32 (Int.tmod (((σ 75 7) * 547) + 421) 30727) ∧
   ∀ σ3 : Mem, σ3 = mset σ 75 7 (Int.tmod (((σ 75 7) * 547) + 421) 30727) →
   Q σ3
theorem mt_X12_anew {d : Nat} (hd : 0 ≤ d)  {σ : Mem} {Q : Mem → Prop}  (hO : OKm σ) (h : wp_X12_anew  σ Q) : Mt yX12_anew cX12_anew 1 none d [aR (74)] σ (QV Q) := by
  refine Mt.intro (by decide +kernel) (Nat.le_of_ble_eq_true rfl) [(0, aR (74))] rfl ?_
  unfold wp_X12_anew at h
  refine G_aload_n 0 rfl rfl dX12_anew_0 ?_
  refine G_get (k := 0) (kd := (2, 75)) (v := aR 75) gf_X12_7 rfl rfl rfl rfl dX12_anew_1 ?_
  refine G_bipush (by decide) dX12_anew_4 ?_
  refine G_aload_n 0 rfl rfl dX12_anew_6 ?_
  refine G_get (k := 0) (kd := (2, 75)) (v := aR 75) gf_X12_7 rfl rfl rfl rfl dX12_anew_7 ?_
  refine G_bipush (by decide) dX12_anew_10 ?_
  refine G_iald (n := 2119) rfl (by decide) (by decide) dX12_anew_12 ?_
  refine G_i2l (OKm.i hO 75 7 (isLg_row (show shp 75 = (1, 2119, []) from rfl) _)) dX12_anew_13 ?_
  refine G_ldc2 (n := 547) rfl (by decide) kc_X12_321 dX12_anew_14 ?_
  refine G_lmul dX12_anew_17 ?_
  refine G_ldc2 (n := 421) rfl (by decide) kc_X12_323 dX12_anew_18 ?_
  refine G_ladd dX12_anew_21 ?_
  refine G_ldc2 (n := 30727) rfl (by decide) kc_X12_325 dX12_anew_22 ?_
  obtain ⟨c1, h⟩ := h
  refine G_lrem c1 (rLL 30727 rfl) (by decide) dX12_anew_25 ?_
  refine G_l2i dX12_anew_26 ?_
  obtain ⟨c2, h⟩ := h
  obtain ⟨σ3, e5⟩ : ∃ τ : Mem, τ = mset σ 75 7 (Int.tmod (((σ 75 7) * 547) + 421) 30727) := ⟨_, rfl⟩
  have h := h σ3 e5
  have o4 : OKm σ3 := by rw [e5]; exact OKm.seti hO _ _ _ c2 (isLg_row (show shp 75 = (1, 2119, []) from rfl) _)
  refine G_iast (n := 2119) rfl (by decide) (by decide) dX12_anew_27 ?_
  rw [← e5]
  exact G_vret rfl dX12_anew_28 ⟨rfl, h⟩ o4

theorem sp_X12_anew (d : Nat) (hd : 0 ≤ d) (σ : Mem) (hO : OKm σ) (hpre : 0 ≤ σ 75 7 ∧ σ 75 7 ≤ 30726) : Mt yX12_anew cX12_anew 1 none d [aR (74)] σ (QV (fun σ' => σ' = (mset σ 75 7 (nxt (σ 75 7))))) := mt_X12_anew hd  hO (by
  unfold wp_X12_anew
  have e2 := tmodP (a := σ 75 7 * 547 + 421) (b := 30727) (by omega)
  unfold R64 R32 at *
  unfold nxt
  rw [e2]
  grind)

def wp_X12_drawnBy (x1 : Int) (σ : Mem) (Q : Int → Mem → Prop) : Prop :=
  (x1 ≠ 0) ∧
   (0 ≤ σ 75 7 ∧ σ 75 7 ≤ 30726) ∧
   ∀ σ5 : Mem, σ5 = (mset σ 75 7 (nxt (σ 75 7))) →
   R32 (Int.tmod (σ 75 7) x1) ∧
   Q (Int.tmod (σ 75 7) x1) σ5
theorem mt_X12_drawnBy {d : Nat} (hd : 1 ≤ d) {x1 : Int} {σ : Mem} {Q : Int → Mem → Prop} (hx1 : R32 x1) (hO : OKm σ) (h : wp_X12_drawnBy x1 σ Q) : Mt yX12_drawnBy cX12_drawnBy 3 (some .int) d [aR (74), aI (x1)] σ (QI Q) := by
  refine Mt.intro (by decide +kernel) (Nat.le_of_ble_eq_true rfl) [(0, aR (74)), (1, aI (x1))] rfl ?_
  unfold wp_X12_drawnBy at h
  refine G_aload_n 0 rfl rfl dX12_drawnBy_0 ?_
  refine G_get (k := 0) (kd := (2, 75)) (v := aR 75) gf_X12_7 rfl rfl rfl rfl dX12_drawnBy_1 ?_
  refine G_bipush (by decide) dX12_drawnBy_4 ?_
  refine G_iald (n := 2119) rfl (by decide) (by decide) dX12_drawnBy_6 ?_
  refine G_iload_n 1 rfl rfl dX12_drawnBy_7 ?_
  obtain ⟨c1, h⟩ := h
  refine G_irem (OKm.i hO 75 7 (isLg_row (show shp 75 = (1, 2119, []) from rfl) _)) hx1 c1 dX12_drawnBy_8 ?_
  refine G_istore_n (lv' := [(2, aI ((Int.tmod (σ 75 7) x1))), (0, aR (74)), (1, aI (x1))]) rfl rfl (by decide) dX12_drawnBy_9 ?_
  refine G_aload_n 1 rfl rfl dX12_drawnBy_10 ?_
  obtain ⟨c2, h⟩ := h
  refine G_callV (as := []) cf_X12_318 rfl rfl rfl (sp_X12_anew (d - 1) (by omega) _ hO  c2) (by omega) rfl rfl (Nat.le_of_ble_eq_true rfl) dX12_drawnBy_11 ?_
  rintro _ σ5 ⟨rfl, e6⟩ o4 r3
  have h := h σ5 e6
  refine G_iload_n 0 rfl rfl dX12_drawnBy_14 ?_
  obtain ⟨c7, h⟩ := h
  exact G_iret rfl c7 dX12_drawnBy_15 ⟨_, rfl, h⟩ o4

theorem sp_X12_drawnBy (d : Nat) (hd : 1 ≤ d) (σ : Mem) (hO : OKm σ) (x1 : Int) (hx1 : R32 x1) (hpre : 0 ≤ σ 75 7 ∧ σ 75 7 ≤ 30726 ∧ 0 < x1) : Mt yX12_drawnBy cX12_drawnBy 3 (some .int) d [aR (74), aI (x1)] σ (QI (fun v σ' => v = (σ 75 7 % x1) ∧ σ' = (mset σ 75 7 (nxt (σ 75 7))))) := mt_X12_drawnBy hd hx1 hO (by
  unfold wp_X12_drawnBy
  have e1 := tmodP (a := σ 75 7) (b := x1) hpre.1
  have hb : 0 ≤ σ 75 7 % x1 ∧ σ 75 7 % x1 < x1 := ⟨Int.emod_nonneg _ (by omega), Int.emod_lt_of_pos _ hpre.2.2⟩
  unfold R32 at *
  rw [e1]
  grind)

theorem rowM_congr {σ σ' : Mem} {p p' : Nat} {o o' : Int} {A : Mem} (h : rowM σ p o A) (hc : Cnt A) (he : ∀ i : Int, 0 ≤ i → i < 65 → σ' p' (o' + i) = σ p (o + i)) : rowM σ' p' o' A := by
  obtain ⟨h0, h1, h2, h3⟩ := h
  unfold Cnt at hc
  have e0 : σ' p' o' = σ p o := by have := he 0 (by omega) (by omega); simpa using this
  refine ⟨?_, fun r hr hr2 => ?_, fun g hg hg2 => ?_, fun i hi hi2 => ?_⟩
  · rw [he 2 (by omega) (by omega), he 3 (by omega) (by omega), he 4 (by omega) (by omega), he 5 (by omega) (by omega), he 6 (by omega) (by omega), e0, he 1 (by omega) (by omega)]
    exact h0
  · rw [he (7 + r) (by omega) (by omega)]; exact h1 r hr hr2
  · rw [he (23 + 2 * g) (by omega) (by omega), he (24 + 2 * g) (by omega) (by omega)]; exact h2 g hg hg2
  · rw [he (35 + i) (by omega) (by omega)]; exact h3 i hi hi2

def wp_X12_keep  (σ : Mem) (Q : Mem → Prop) : Prop :=
 ∀ P13 : Int → Mem → Prop,
 ∀ P98 : Int → Int → Mem → Prop,
 ∀ P131 : Int → Int → Mem → Prop,
 (∀ (v1 : Int) (σ : Mem), (R32 v1 → OKm σ →
   ((1885 ≤ v1) →
     R32 ((σ 75 4) - 1) ∧
     ∀ σ20 : Mem, σ20 = mset σ 75 4 ((σ 75 4) - 1) →
     R32 (139 + (65 * (σ20 75 4))) ∧
     ∀ y24 : Int, y24 = (139 + (65 * (σ20 75 4))) →
     (0 ≤ y24 ∧ y24 < 2119) ∧
     ∀ σ26 : Mem, σ26 = mset σ20 75 y24 (σ20 75 0) →
     (0 ≤ (y24 + 1) ∧ (y24 + 1) < 2119) ∧
     ∀ σ30 : Mem, σ30 = mset σ26 75 (y24 + 1) (σ26 75 1) →
     P98 y24 0 σ30) ∧
    ((v1 < 1885) →
     (0 ≤ (204 + v1) ∧ (204 + v1) < 2119) ∧
     (0 ≤ (139 + v1) ∧ (139 + v1) < 2119) ∧
     ∀ σ35 : Mem, σ35 = mset σ 75 (139 + v1) (σ 75 (204 + v1)) →
     R32 (v1 + 1) ∧ P13 (v1 + 1) σ35)) → P13 v1 σ) →
 (∀ (v1 : Int) (v2 : Int) (σ : Mem), (R32 v1 → R32 v2 → OKm σ →
   ((33 ≤ v2) →
     P131 v1 0 σ) ∧
    ((v2 < 33) →
     (0 ≤ (6 + v2) ∧ (6 + v2) < 2119) ∧
     (0 ≤ ((v1 + 2) + v2) ∧ ((v1 + 2) + v2) < 2119) ∧
     ∀ σ14 : Mem, σ14 = mset σ 75 ((v1 + 2) + v2) (σ 75 (6 + v2)) →
     R32 (v2 + 1) ∧ P98 v1 (v2 + 1) σ14)) → P98 v1 v2 σ) →
 (∀ (v1 : Int) (v2 : Int) (σ : Mem), (R32 v1 → R32 v2 → OKm σ →
   ((30 ≤ v2) →
     R32 ((σ 75 4) + 1) ∧
     ∀ σ41 : Mem, σ41 = mset σ 75 4 ((σ 75 4) + 1) →
     Q σ41) ∧
    ((v2 < 30) →
     (0 ≤ (2089 + v2) ∧ (2089 + v2) < 2119) ∧
     (0 ≤ ((v1 + 35) + v2) ∧ ((v1 + 35) + v2) < 2119) ∧
     ∀ σ46 : Mem, σ46 = mset σ 75 ((v1 + 35) + v2) (σ 75 (2089 + v2)) →
     R32 (v2 + 1) ∧ P131 v1 (v2 + 1) σ46)) → P131 v1 v2 σ) →
  (((σ 75 4) ≠ 30) →
    (0 ≤ (139 + (65 * (σ 75 4))) ∧ (139 + (65 * (σ 75 4))) < 2119) ∧
    ∀ σ3 : Mem, σ3 = mset σ 75 (139 + (65 * (σ 75 4))) (σ 75 0) →
    (0 ≤ ((139 + (65 * (σ 75 4))) + 1) ∧ ((139 + (65 * (σ 75 4))) + 1) < 2119) ∧
    ∀ σ7 : Mem, σ7 = mset σ3 75 ((139 + (65 * (σ 75 4))) + 1) (σ3 75 1) →
    R32 (139 + (65 * (σ 75 4))) ∧ P98 (139 + (65 * (σ 75 4))) 0 σ7) ∧
   (((σ 75 4) = 30) →
    P13 0 σ)
theorem mt_X12_keep {d : Nat} (hd : 0 ≤ d)  {σ : Mem} {Q : Mem → Prop}  (hO : OKm σ) (h : wp_X12_keep  σ Q) : Mt yX12_keep cX12_keep 3 none d [aR (74)] σ (QV Q) := by
  refine Mt.intro (by decide +kernel) (Nat.le_of_ble_eq_true rfl) [(0, aR (74))] rfl ?_
  unfold wp_X12_keep at h
  have h := h (fun (v1 : Int) (σ : Mem) => R32 v1 → OKm σ → G yX12_keep cX12_keep 3 none d (QV Q) 13 [(0, aR (74)), (1, aI (v1))] [] σ)
    (fun (v1 : Int) (v2 : Int) (σ : Mem) => R32 v1 → R32 v2 → OKm σ → G yX12_keep cX12_keep 3 none d (QV Q) 98 [(0, aR (74)), (1, aI (v1)), (2, aI (v2))] [] σ)
    (fun (v1 : Int) (v2 : Int) (σ : Mem) => R32 v1 → R32 v2 → OKm σ → G yX12_keep cX12_keep 3 none d (QV Q) 131 [(0, aR (74)), (1, aI (v1)), (2, aI (v2))] [] σ) ?_ ?_ ?_
  · refine G_aload_n 0 rfl rfl dX12_keep_0 ?_
    refine G_get (k := 0) (kd := (2, 75)) (v := aR 75) gf_X12_7 rfl rfl rfl rfl dX12_keep_1 ?_
    refine G_iconst dX12_keep_4 ?_
    refine G_iald (n := 2119) rfl (by decide) (by decide) dX12_keep_5 ?_
    refine G_bipush (by decide) dX12_keep_6 ?_
    refine G_icmp_ne (OKm.i hO 75 4 (isLg_row (show shp 75 = (1, 2119, []) from rfl) _)) (rL 30 rfl) dX12_keep_8 (tgt := 56) (by decide) (fun c1 => ?_) (fun c1 => ?_)
    · have h := h.1 c1
      refine G_sipush (by decide) dX12_keep_56 ?_
      refine G_bipush (by decide) dX12_keep_59 ?_
      refine G_aload_n 0 rfl rfl dX12_keep_61 ?_
      refine G_get (k := 0) (kd := (2, 75)) (v := aR 75) gf_X12_7 rfl rfl rfl rfl dX12_keep_62 ?_
      refine G_iconst dX12_keep_65 ?_
      refine G_iald (n := 2119) rfl (by decide) (by decide) dX12_keep_66 ?_
      refine G_imul dX12_keep_67 ?_
      refine G_iadd dX12_keep_68 ?_
      refine G_istore_n (lv' := [(1, aI ((139 + (65 * (σ 75 4))))), (0, aR (74))]) rfl rfl (by decide) dX12_keep_69 ?_
      refine G_aload_n 1 rfl rfl dX12_keep_70 ?_
      refine G_get (k := 0) (kd := (2, 75)) (v := aR 75) gf_X12_7 rfl rfl rfl rfl dX12_keep_71 ?_
      refine G_iload_n 0 rfl rfl dX12_keep_74 ?_
      refine G_aload_n 1 rfl rfl dX12_keep_75 ?_
      refine G_get (k := 0) (kd := (2, 75)) (v := aR 75) gf_X12_7 rfl rfl rfl rfl dX12_keep_76 ?_
      refine G_iconst dX12_keep_79 ?_
      refine G_iald (n := 2119) rfl (by decide) (by decide) dX12_keep_80 ?_
      obtain ⟨c2, h⟩ := h
      obtain ⟨σ3, e5⟩ : ∃ τ : Mem, τ = mset σ 75 (139 + (65 * (σ 75 4))) (σ 75 0) := ⟨_, rfl⟩
      have h := h σ3 e5
      have o4 : OKm σ3 := by rw [e5]; exact OKm.seti hO _ _ _ (OKm.i hO 75 0 (isLg_row (show shp 75 = (1, 2119, []) from rfl) _)) (isLg_row (show shp 75 = (1, 2119, []) from rfl) _)
      refine G_iast (n := 2119) rfl c2.1 c2.2 dX12_keep_81 ?_
      rw [← e5]
      refine G_aload_n 1 rfl rfl dX12_keep_82 ?_
      refine G_get (k := 0) (kd := (2, 75)) (v := aR 75) gf_X12_7 rfl rfl rfl rfl dX12_keep_83 ?_
      refine G_iload_n 0 rfl rfl dX12_keep_86 ?_
      refine G_iconst dX12_keep_87 ?_
      refine G_iadd dX12_keep_88 ?_
      refine G_aload_n 1 rfl rfl dX12_keep_89 ?_
      refine G_get (k := 0) (kd := (2, 75)) (v := aR 75) gf_X12_7 rfl rfl rfl rfl dX12_keep_90 ?_
      refine G_iconst dX12_keep_93 ?_
      refine G_iald (n := 2119) rfl (by decide) (by decide) dX12_keep_94 ?_
      obtain ⟨c6, h⟩ := h
      obtain ⟨σ7, e9⟩ : ∃ τ : Mem, τ = mset σ3 75 ((139 + (65 * (σ 75 4))) + 1) (σ3 75 1) := ⟨_, rfl⟩
      have h := h σ7 e9
      have o8 : OKm σ7 := by rw [e9]; exact OKm.seti o4 _ _ _ (OKm.i o4 75 1 (isLg_row (show shp 75 = (1, 2119, []) from rfl) _)) (isLg_row (show shp 75 = (1, 2119, []) from rfl) _)
      refine G_iast (n := 2119) rfl c6.1 c6.2 dX12_keep_95 ?_
      rw [← e9]
      refine G_iconst dX12_keep_96 ?_
      refine G_istore_n (lv' := [(2, aI (0)), (1, aI ((139 + (65 * (σ 75 4))))), (0, aR (74))]) rfl rfl (by decide) dX12_keep_97 ?_
      obtain ⟨c10, h⟩ := h
      exact G_pick [2, 1, 0] rfl (h c10 (rL 0 rfl) o8)
    · have h := h.2 c1
      refine G_iconst dX12_keep_11 ?_
      refine G_istore_n (lv' := [(1, aI (0)), (0, aR (74))]) rfl rfl (by decide) dX12_keep_12 ?_
      exact G_pick [1, 0] rfl (h (rL 0 rfl) hO)
  · intro v1 σ h hv1 hO
    have h := h hv1 hO
    refine G_iload_n 1 rfl rfl dX12_keep_13 ?_
    refine G_sipush (by decide) dX12_keep_14 ?_
    refine G_icmp_ge hv1 (rL 1885 rfl) dX12_keep_17 (tgt := 46) (by decide) (fun c18 => ?_) (fun c18 => ?_)
    · have h := h.1 c18
      refine G_aload_n 0 rfl rfl dX12_keep_46 ?_
      refine G_get (k := 0) (kd := (2, 75)) (v := aR 75) gf_X12_7 rfl rfl rfl rfl dX12_keep_47 ?_
      refine G_iconst dX12_keep_50 ?_
      refine G_dup2 rfl rfl dX12_keep_51 ?_
      refine G_iald (n := 2119) rfl (by decide) (by decide) dX12_keep_52 ?_
      refine G_iconst dX12_keep_53 ?_
      refine G_isub dX12_keep_54 ?_
      obtain ⟨c19, h⟩ := h
      obtain ⟨σ20, e22⟩ : ∃ τ : Mem, τ = mset σ 75 4 ((σ 75 4) - 1) := ⟨_, rfl⟩
      have h := h σ20 e22
      have o21 : OKm σ20 := by rw [e22]; exact OKm.seti hO _ _ _ c19 (isLg_row (show shp 75 = (1, 2119, []) from rfl) _)
      refine G_iast (n := 2119) rfl (by decide) (by decide) dX12_keep_55 ?_
      rw [← e22]
      refine G_sipush (by decide) dX12_keep_56 ?_
      refine G_bipush (by decide) dX12_keep_59 ?_
      refine G_aload_n 0 rfl rfl dX12_keep_61 ?_
      refine G_get (k := 0) (kd := (2, 75)) (v := aR 75) gf_X12_7 rfl rfl rfl rfl dX12_keep_62 ?_
      refine G_iconst dX12_keep_65 ?_
      refine G_iald (n := 2119) rfl (by decide) (by decide) dX12_keep_66 ?_
      refine G_imul dX12_keep_67 ?_
      refine G_iadd dX12_keep_68 ?_
      obtain ⟨c23, h⟩ := h
      have h := h _ rfl
      refine G_istore_n (lv' := [(1, aI (((139 + (65 * (σ20 75 4)))))), (0, aR (74))]) rfl rfl (by decide) dX12_keep_69 ?_
      refine G_aload_n 1 rfl rfl dX12_keep_70 ?_
      refine G_get (k := 0) (kd := (2, 75)) (v := aR 75) gf_X12_7 rfl rfl rfl rfl dX12_keep_71 ?_
      refine G_iload_n 0 rfl rfl dX12_keep_74 ?_
      refine G_aload_n 1 rfl rfl dX12_keep_75 ?_
      refine G_get (k := 0) (kd := (2, 75)) (v := aR 75) gf_X12_7 rfl rfl rfl rfl dX12_keep_76 ?_
      refine G_iconst dX12_keep_79 ?_
      refine G_iald (n := 2119) rfl (by decide) (by decide) dX12_keep_80 ?_
      obtain ⟨c25, h⟩ := h
      obtain ⟨σ26, e28⟩ : ∃ τ : Mem, τ = mset σ20 75 ((139 + (65 * (σ20 75 4)))) (σ20 75 0) := ⟨_, rfl⟩
      have h := h σ26 e28
      have o27 : OKm σ26 := by rw [e28]; exact OKm.seti o21 _ _ _ (OKm.i o21 75 0 (isLg_row (show shp 75 = (1, 2119, []) from rfl) _)) (isLg_row (show shp 75 = (1, 2119, []) from rfl) _)
      refine G_iast (n := 2119) rfl c25.1 c25.2 dX12_keep_81 ?_
      rw [← e28]
      refine G_aload_n 1 rfl rfl dX12_keep_82 ?_
      refine G_get (k := 0) (kd := (2, 75)) (v := aR 75) gf_X12_7 rfl rfl rfl rfl dX12_keep_83 ?_
      refine G_iload_n 0 rfl rfl dX12_keep_86 ?_
      refine G_iconst dX12_keep_87 ?_
      refine G_iadd dX12_keep_88 ?_
      refine G_aload_n 1 rfl rfl dX12_keep_89 ?_
      refine G_get (k := 0) (kd := (2, 75)) (v := aR 75) gf_X12_7 rfl rfl rfl rfl dX12_keep_90 ?_
      refine G_iconst dX12_keep_93 ?_
      refine G_iald (n := 2119) rfl (by decide) (by decide) dX12_keep_94 ?_
      obtain ⟨c29, h⟩ := h
      obtain ⟨σ30, e32⟩ : ∃ τ : Mem, τ = mset σ26 75 (((139 + (65 * (σ20 75 4)))) + 1) (σ26 75 1) := ⟨_, rfl⟩
      have h := h σ30 e32
      have o31 : OKm σ30 := by rw [e32]; exact OKm.seti o27 _ _ _ (OKm.i o27 75 1 (isLg_row (show shp 75 = (1, 2119, []) from rfl) _)) (isLg_row (show shp 75 = (1, 2119, []) from rfl) _)
      refine G_iast (n := 2119) rfl c29.1 c29.2 dX12_keep_95 ?_
      rw [← e32]
      refine G_iconst dX12_keep_96 ?_
      refine G_istore_n (lv' := [(2, aI (0)), (1, aI (((139 + (65 * (σ20 75 4)))))), (0, aR (74))]) rfl rfl (by decide) dX12_keep_97 ?_
      exact G_pick [2, 1, 0] rfl (h c23 (rL 0 rfl) o31)
    · have h := h.2 c18
      refine G_aload_n 0 rfl rfl dX12_keep_20 ?_
      refine G_get (k := 0) (kd := (2, 75)) (v := aR 75) gf_X12_7 rfl rfl rfl rfl dX12_keep_21 ?_
      refine G_sipush (by decide) dX12_keep_24 ?_
      refine G_iload_n 1 rfl rfl dX12_keep_27 ?_
      refine G_iadd dX12_keep_28 ?_
      refine G_aload_n 0 rfl rfl dX12_keep_29 ?_
      refine G_get (k := 0) (kd := (2, 75)) (v := aR 75) gf_X12_7 rfl rfl rfl rfl dX12_keep_30 ?_
      refine G_sipush (by decide) dX12_keep_33 ?_
      refine G_iload_n 1 rfl rfl dX12_keep_36 ?_
      refine G_iadd dX12_keep_37 ?_
      obtain ⟨c33, h⟩ := h
      refine G_iald (n := 2119) rfl c33.1 c33.2 dX12_keep_38 ?_
      obtain ⟨c34, h⟩ := h
      obtain ⟨σ35, e37⟩ : ∃ τ : Mem, τ = mset σ 75 (139 + v1) (σ 75 (204 + v1)) := ⟨_, rfl⟩
      have h := h σ35 e37
      have o36 : OKm σ35 := by rw [e37]; exact OKm.seti hO _ _ _ (OKm.i hO 75 (204 + v1) (isLg_row (show shp 75 = (1, 2119, []) from rfl) _)) (isLg_row (show shp 75 = (1, 2119, []) from rfl) _)
      refine G_iast (n := 2119) rfl c34.1 c34.2 dX12_keep_39 ?_
      rw [← e37]
      refine G_iinc (lv' := [(1, aI ((v1 + 1))), (0, aR (74))]) (k := 1) rfl rfl (by decide) dX12_keep_40 ?_
      refine G_goto (tgt := 13) dX12_keep_43 (by decide) ?_
      obtain ⟨c38, h⟩ := h
      exact G_pick [1, 0] rfl (h c38 o36)
  · intro v1 v2 σ h hv1 hv2 hO
    have h := h hv1 hv2 hO
    refine G_iload_n 2 rfl rfl dX12_keep_98 ?_
    refine G_bipush (by decide) dX12_keep_99 ?_
    refine G_icmp_ge hv2 (rL 33 rfl) dX12_keep_101 (tgt := 129) (by decide) (fun c11 => ?_) (fun c11 => ?_)
    · have h := h.1 c11
      refine G_iconst dX12_keep_129 ?_
      refine G_istore_n (lv' := [(2, aI (0)), (0, aR (74)), (1, aI (v1))]) rfl rfl (by decide) dX12_keep_130 ?_
      exact G_pick [1, 2, 0] rfl (h hv1 (rL 0 rfl) hO)
    · have h := h.2 c11
      refine G_aload_n 0 rfl rfl dX12_keep_104 ?_
      refine G_get (k := 0) (kd := (2, 75)) (v := aR 75) gf_X12_7 rfl rfl rfl rfl dX12_keep_105 ?_
      refine G_iload_n 1 rfl rfl dX12_keep_108 ?_
      refine G_iconst dX12_keep_109 ?_
      refine G_iadd dX12_keep_110 ?_
      refine G_iload_n 2 rfl rfl dX12_keep_111 ?_
      refine G_iadd dX12_keep_112 ?_
      refine G_aload_n 0 rfl rfl dX12_keep_113 ?_
      refine G_get (k := 0) (kd := (2, 75)) (v := aR 75) gf_X12_7 rfl rfl rfl rfl dX12_keep_114 ?_
      refine G_bipush (by decide) dX12_keep_117 ?_
      refine G_iload_n 2 rfl rfl dX12_keep_119 ?_
      refine G_iadd dX12_keep_120 ?_
      obtain ⟨c12, h⟩ := h
      refine G_iald (n := 2119) rfl c12.1 c12.2 dX12_keep_121 ?_
      obtain ⟨c13, h⟩ := h
      obtain ⟨σ14, e16⟩ : ∃ τ : Mem, τ = mset σ 75 ((v1 + 2) + v2) (σ 75 (6 + v2)) := ⟨_, rfl⟩
      have h := h σ14 e16
      have o15 : OKm σ14 := by rw [e16]; exact OKm.seti hO _ _ _ (OKm.i hO 75 (6 + v2) (isLg_row (show shp 75 = (1, 2119, []) from rfl) _)) (isLg_row (show shp 75 = (1, 2119, []) from rfl) _)
      refine G_iast (n := 2119) rfl c13.1 c13.2 dX12_keep_122 ?_
      rw [← e16]
      refine G_iinc (lv' := [(2, aI ((v2 + 1))), (0, aR (74)), (1, aI (v1))]) (k := 2) rfl rfl (by decide) dX12_keep_123 ?_
      refine G_goto (tgt := 98) dX12_keep_126 (by decide) ?_
      obtain ⟨c17, h⟩ := h
      exact G_pick [1, 2, 0] rfl (h hv1 c17 o15)
  · intro v1 v2 σ h hv1 hv2 hO
    have h := h hv1 hv2 hO
    refine G_iload_n 2 rfl rfl dX12_keep_131 ?_
    refine G_bipush (by decide) dX12_keep_132 ?_
    refine G_icmp_ge hv2 (rL 30 rfl) dX12_keep_134 (tgt := 164) (by decide) (fun c39 => ?_) (fun c39 => ?_)
    · have h := h.1 c39
      refine G_aload_n 0 rfl rfl dX12_keep_164 ?_
      refine G_get (k := 0) (kd := (2, 75)) (v := aR 75) gf_X12_7 rfl rfl rfl rfl dX12_keep_165 ?_
      refine G_iconst dX12_keep_168 ?_
      refine G_dup2 rfl rfl dX12_keep_169 ?_
      refine G_iald (n := 2119) rfl (by decide) (by decide) dX12_keep_170 ?_
      refine G_iconst dX12_keep_171 ?_
      refine G_iadd dX12_keep_172 ?_
      obtain ⟨c40, h⟩ := h
      obtain ⟨σ41, e43⟩ : ∃ τ : Mem, τ = mset σ 75 4 ((σ 75 4) + 1) := ⟨_, rfl⟩
      have h := h σ41 e43
      have o42 : OKm σ41 := by rw [e43]; exact OKm.seti hO _ _ _ c40 (isLg_row (show shp 75 = (1, 2119, []) from rfl) _)
      refine G_iast (n := 2119) rfl (by decide) (by decide) dX12_keep_173 ?_
      rw [← e43]
      exact G_vret rfl dX12_keep_174 ⟨rfl, h⟩ o42
    · have h := h.2 c39
      refine G_aload_n 0 rfl rfl dX12_keep_137 ?_
      refine G_get (k := 0) (kd := (2, 75)) (v := aR 75) gf_X12_7 rfl rfl rfl rfl dX12_keep_138 ?_
      refine G_iload_n 1 rfl rfl dX12_keep_141 ?_
      refine G_bipush (by decide) dX12_keep_142 ?_
      refine G_iadd dX12_keep_144 ?_
      refine G_iload_n 2 rfl rfl dX12_keep_145 ?_
      refine G_iadd dX12_keep_146 ?_
      refine G_aload_n 0 rfl rfl dX12_keep_147 ?_
      refine G_get (k := 0) (kd := (2, 75)) (v := aR 75) gf_X12_7 rfl rfl rfl rfl dX12_keep_148 ?_
      refine G_sipush (by decide) dX12_keep_151 ?_
      refine G_iload_n 2 rfl rfl dX12_keep_154 ?_
      refine G_iadd dX12_keep_155 ?_
      obtain ⟨c44, h⟩ := h
      refine G_iald (n := 2119) rfl c44.1 c44.2 dX12_keep_156 ?_
      obtain ⟨c45, h⟩ := h
      obtain ⟨σ46, e48⟩ : ∃ τ : Mem, τ = mset σ 75 ((v1 + 35) + v2) (σ 75 (2089 + v2)) := ⟨_, rfl⟩
      have h := h σ46 e48
      have o47 : OKm σ46 := by rw [e48]; exact OKm.seti hO _ _ _ (OKm.i hO 75 (2089 + v2) (isLg_row (show shp 75 = (1, 2119, []) from rfl) _)) (isLg_row (show shp 75 = (1, 2119, []) from rfl) _)
      refine G_iast (n := 2119) rfl c45.1 c45.2 dX12_keep_157 ?_
      rw [← e48]
      refine G_iinc (lv' := [(2, aI ((v2 + 1))), (0, aR (74)), (1, aI (v1))]) (k := 2) rfl rfl (by decide) dX12_keep_158 ?_
      refine G_goto (tgt := 131) dX12_keep_161 (by decide) ?_
      obtain ⟨c49, h⟩ := h
      exact G_pick [1, 2, 0] rfl (h hv1 c49 o47)

theorem sp_X12_keep (d : Nat) (hd : 0 ≤ d) (σ : Mem) (hO : OKm σ) (A : Mem) (L : List Mem) (hpre : nowM σ 75 A ∧ σ 75 0 = A 10 0 ∧ σ 75 1 = A 10 1 ∧ Cnt A ∧ stepsM σ 75 L) : Mt yX12_keep cX12_keep 3 none d [aR (74)] σ (QV (fun σ' => stepsM σ' 75 (pushS A L) ∧ (∀ i : Int, 0 ≤ i → i < 139 → i ≠ 4 → σ' 75 i = σ 75 i) ∧ (∀ i : Int, 2089 ≤ i → σ' 75 i = σ 75 i) ∧ Fr [75] σ σ')) := mt_X12_keep hd  hO (by
  unfold wp_X12_keep
  intro P13 P98 P131 h13 h98 h131
  obtain ⟨⟨hN0, hN1, hN2, hN3⟩, h0, h1, hC, hL, hc, hrows⟩ := hpre
  have key : ∀ (c : Int) (ρ : Mem) (L' : List Mem), 0 ≤ c → c ≤ 29 → (L'.length : Int) = c → ρ 75 4 = c → pushS A L = A :: L' → (∀ i : Int, 0 ≤ i → i < 139 → i ≠ 4 → ρ 75 i = σ 75 i) → (∀ i : Int, 2089 ≤ i → ρ 75 i = σ 75 i) → (∀ (k : Nat) (B : Mem), L'[k]? = some B → Cnt B ∧ rowM ρ 75 (139 + 65 * (c - 1 - k)) B) → ρ 75 (139 + 65 * c) = A 10 0 → ρ 75 (139 + 65 * c + 1) = A 10 1 → Fr [75] σ ρ → P98 (139 + 65 * c) 0 ρ := by
    intro c ρ L' hc0 hc29 hlen hρ4 hpush hlow hbk hr' hx0 hx1 hF
    have H131 : ∀ (n : Nat) (k : Int) (τ : Mem), k + n = 30 → (0 ≤ k ∧ (∀ i : Int, 0 ≤ i → i < 33 → τ 75 (139 + 65 * c + 2 + i) = σ 75 (6 + i)) ∧ (∀ i : Int, 0 ≤ i → i < k → τ 75 (139 + 65 * c + 35 + i) = σ 75 (2089 + i)) ∧ τ 75 (139 + 65 * c) = A 10 0 ∧ τ 75 (139 + 65 * c + 1) = A 10 1 ∧ (∀ j : Int, j < 139 + 65 * c ∨ 139 + 65 * c + 65 ≤ j → τ 75 j = ρ 75 j) ∧ Fr [75] σ τ) → P131 (139 + 65 * c) k τ := by
      intro n
      induction n with
      | zero =>
        intro k τ hk hI
        refine h131 _ _ _ (fun _ _ hOt => ?_)
        refine ⟨fun hh => ?_, fun hh => absurd hh (by omega)⟩
        have e4 : τ 75 4 = c := by rw [hI.2.2.2.2.2.1 4 (by omega)]; exact hρ4
        refine ⟨by unfold R32; omega, ?_⟩
        intro _ e; subst e
        have hA : ∀ i : Int, 0 ≤ i → i < 65 → mset τ 75 4 (τ 75 4 + 1) 75 (139 + 65 * c + i) = τ 75 (139 + 65 * c + i) := fun i hi hi2 => mset_miss (by omega)
        have hrA : rowM τ 75 (139 + 65 * c) A := by
          unfold Cnt at hC
          have g2 := fun i h1 h2 => hI.2.1 i h1 h2
          refine ⟨⟨?_, ?_, ?_, ?_, ?_, hI.2.2.2.1, hI.2.2.2.2.1⟩, fun r hr hr2 => ?_, fun g hg hg2 => ⟨?_, ?_⟩, fun i hi hi2 => ?_⟩
          · have := g2 0 (by omega) (by omega); rw [← hN0.1]; simpa using this
          · have := g2 1 (by omega) (by omega); rw [← hN0.2.1]; rw [← show 139 + 65 * c + 2 + 1 = 139 + 65 * c + 3 by omega]; exact this
          · have := g2 2 (by omega) (by omega); rw [← hN0.2.2.1]; rw [← show 139 + 65 * c + 2 + 2 = 139 + 65 * c + 4 by omega]; exact this
          · have := g2 3 (by omega) (by omega); rw [← hN0.2.2.2.1]; rw [← show 139 + 65 * c + 2 + 3 = 139 + 65 * c + 5 by omega]; exact this
          · have := g2 4 (by omega) (by omega); rw [← hN0.2.2.2.2]; rw [← show 139 + 65 * c + 2 + 4 = 139 + 65 * c + 6 by omega]; exact this
          · have := g2 (5 + r) (by omega) (by omega); rw [← hN1 r hr hr2]; rw [← show 139 + 65 * c + 2 + (5 + r) = 139 + 65 * c + (7 + r) by omega, this]; congr 1; omega
          · have := g2 (21 + 2 * g) (by omega) (by omega); rw [← (hN2 g hg hg2).1]; rw [← show 139 + 65 * c + 2 + (21 + 2 * g) = 139 + 65 * c + (23 + 2 * g) by omega, this]; congr 1; omega
          · have := g2 (22 + 2 * g) (by omega) (by omega); rw [← (hN2 g hg hg2).2]; rw [← show 139 + 65 * c + 2 + (22 + 2 * g) = 139 + 65 * c + (24 + 2 * g) by omega, this]; congr 1; omega
          · have := hI.2.2.1 i hi (by omega); rw [← hN3 i hi hi2]; rw [← show 139 + 65 * c + 35 + i = 139 + 65 * c + (35 + i) by omega]; exact this
        refine ⟨⟨?_, ?_, fun k2 B hk2 => ?_⟩, fun i hi hi2 hi3 => ?_, fun i hi => ?_, hI.2.2.2.2.2.2.set (by simp)⟩
        · rw [hpush]; simp; omega
        · rw [mset_hit rfl, hpush, e4]; simp; omega
        · rw [hpush] at hk2 ⊢
          cases k2 with
          | zero =>
            cases hk2
            refine ⟨hC, rowM_congr hrA hC (fun i hi hi2 => ?_)⟩
            rw [← hA i hi hi2]; congr 1; simp; omega
          | succ k2 =>
            obtain ⟨q1, q2⟩ := hr' k2 B hk2
            have hk3 : k2 < L'.length := by have := (List.getElem?_eq_some_iff.mp hk2).1; simpa using this
            refine ⟨q1, rowM_congr q2 q1 (fun i hi hi2 => ?_)⟩
            simp only [List.length_cons]
            rw [mset_miss (by omega), hI.2.2.2.2.2.1 _ (by omega)]
            congr 1; omega
        · rw [mset_miss hi3, hI.2.2.2.2.2.1 i (by omega)]; exact hlow i hi hi2 hi3
        · rw [mset_miss (by omega), hI.2.2.2.2.2.1 i (by omega)]; exact hbk i hi
      | succ n ih =>
        intro k τ hk hI
        refine h131 _ _ _ (fun _ _ hOt => ?_)
        refine ⟨fun hh => absurd hh (by omega), fun hh => ?_⟩
        refine ⟨by omega, by omega, ?_⟩
        intro _ e; subst e
        refine ⟨by unfold R32; omega, ih _ _ (by omega) ⟨by omega, fun i h1 h2 => ?_, fun i h1 h2 => ?_, ?_, ?_, fun j hj => ?_, hI.2.2.2.2.2.2.set (by simp)⟩⟩
        · rw [mset_miss (by omega)]; exact hI.2.1 i h1 h2
        · by_cases e : i = k
          · subst e; rw [mset_hit rfl, hI.2.2.2.2.2.1 _ (by omega), hbk _ (by omega)]
          · rw [mset_miss (by omega)]; exact hI.2.2.1 i h1 (by omega)
        · rw [mset_miss (by omega)]; exact hI.2.2.2.1
        · rw [mset_miss (by omega)]; exact hI.2.2.2.2.1
        · rw [mset_miss (by omega)]; exact hI.2.2.2.2.2.1 j hj
    have H98 : ∀ (n : Nat) (k : Int) (τ : Mem), k + n = 33 → (0 ≤ k ∧ (∀ i : Int, 0 ≤ i → i < k → τ 75 (139 + 65 * c + 2 + i) = σ 75 (6 + i)) ∧ (∀ i : Int, 0 ≤ i → i < 0 → τ 75 (139 + 65 * c + 35 + i) = σ 75 (2089 + i)) ∧ τ 75 (139 + 65 * c) = A 10 0 ∧ τ 75 (139 + 65 * c + 1) = A 10 1 ∧ (∀ j : Int, j < 139 + 65 * c ∨ 139 + 65 * c + 65 ≤ j → τ 75 j = ρ 75 j) ∧ Fr [75] σ τ) → P98 (139 + 65 * c) k τ := by
      intro n
      induction n with
      | zero =>
        intro k τ hk hI
        refine h98 _ _ _ (fun _ _ hOt => ?_)
        refine ⟨fun hh => ?_, fun hh => absurd hh (by omega)⟩
        exact H131 30 0 τ (by omega) ⟨by omega, fun i h1 h2 => hI.2.1 i h1 (by omega), fun i h1 h2 => by omega, hI.2.2.2.1, hI.2.2.2.2.1, hI.2.2.2.2.2.1, hI.2.2.2.2.2.2⟩
      | succ n ih =>
        intro k τ hk hI
        refine h98 _ _ _ (fun _ _ hOt => ?_)
        refine ⟨fun hh => absurd hh (by omega), fun hh => ?_⟩
        refine ⟨by omega, by omega, ?_⟩
        intro _ e; subst e
        refine ⟨by unfold R32; omega, ih _ _ (by omega) ⟨by omega, fun i h1 h2 => ?_, fun i h1 h2 => by omega, ?_, ?_, fun j hj => ?_, hI.2.2.2.2.2.2.set (by simp)⟩⟩
        · by_cases e : i = k
          · subst e; rw [mset_hit rfl, hI.2.2.2.2.2.1 _ (by omega), hlow _ (by omega) (by omega) (by omega)]
          · rw [mset_miss (by omega)]; exact hI.2.1 i h1 (by omega)
        · rw [mset_miss (by omega)]; exact hI.2.2.2.1
        · rw [mset_miss (by omega)]; exact hI.2.2.2.2.1
        · rw [mset_miss (by omega)]; exact hI.2.2.2.2.2.1 j hj
    exact H98 33 0 ρ (by omega) ⟨by omega, fun i h1 h2 => by omega, fun i h1 h2 => by omega, hx0, hx1, fun j _ => rfl, hF⟩
  have hlen30 : ∀ L' : List Mem, L'.length ≤ 29 → (A :: L').take 30 = A :: L' := fun L' h => List.take_of_length_le (by simp; omega)
  refine ⟨fun hne => ?_, fun heq => ?_⟩
  · refine ⟨by omega, ?_⟩
    intro _ e; subst e
    refine ⟨by omega, ?_⟩
    intro _ e; subst e
    refine ⟨by unfold R32; omega, ?_⟩
    rw [hc]
    refine key (L.length : Int) _ L (by omega) (by omega) rfl ?_ (hlen30 L (by omega)) (fun i h1 h2 h3 => ?_) (fun i h1 => ?_) (fun k B hk => ?_) ?_ ?_ (((Fr.rf _ _).set (by simp)).set (by simp))
    · rw [mset_miss (by omega), mset_miss (by omega)]; exact hc
    · rw [mset_miss (by omega), mset_miss (by omega)]
    · rw [mset_miss (by omega), mset_miss (by omega)]
    · obtain ⟨q1, q2⟩ := hrows k B hk
      have hk3 : k < L.length := (List.getElem?_eq_some_iff.mp hk).1
      refine ⟨q1, rowM_congr q2 q1 (fun i hi hi2 => ?_)⟩
      rw [mset_miss (by omega), mset_miss (by omega)]
    · rw [mset_miss (by omega), mset_hit (by omega)]; exact h0
    · rw [mset_hit (by omega), mset_miss (by omega)]; exact h1
  · have hlL : L.length = 30 := by omega
    have H13 : ∀ (n : Nat) (k : Int) (τ : Mem), k + n = 1885 → (0 ≤ k ∧ (∀ i : Int, 0 ≤ i → i < k → τ 75 (139 + i) = σ 75 (204 + i)) ∧ (∀ j : Int, j < 139 ∨ 139 + k ≤ j → τ 75 j = σ 75 j) ∧ Fr [75] σ τ) → P13 k τ := by
      intro n
      induction n with
      | zero =>
        intro k τ hk hI
        refine h13 _ _ (fun _ hOt => ?_)
        refine ⟨fun hh => ?_, fun hh => absurd hh (by omega)⟩
        have e4 : τ 75 4 = 30 := by rw [hI.2.2.1 4 (by omega)]; exact heq
        refine ⟨by unfold R32; omega, ?_⟩
        intro _ e; subst e
        rw [mset_hit rfl, e4]
        refine ⟨by unfold R32; omega, ?_⟩
        intro _ e; subst e
        refine ⟨by omega, ?_⟩
        intro _ e; subst e
        refine ⟨by omega, ?_⟩
        intro _ e; subst e
        refine key 29 _ (L.take 29) (by omega) (by omega) ?_ ?_ ?_ (fun i h1 h2 h3 => ?_) (fun i h1 => ?_) (fun k3 B hk3 => ?_) ?_ ?_ (((hI.2.2.2.set (by simp)).set (by simp)).set (by simp))
        · rw [List.length_take]; omega
        · rw [mset_miss (by omega), mset_miss (by omega), mset_hit rfl]; omega
        · show (A :: L).take 30 = A :: L.take 29
          rfl
        · rw [mset_miss (by omega), mset_miss (by omega), mset_miss (by omega)]; exact hI.2.2.1 i (by omega)
        · rw [mset_miss (by omega), mset_miss (by omega), mset_miss (by omega)]; exact hI.2.2.1 i (by omega)
        · rw [List.getElem?_take] at hk3
          split at hk3
          · rename_i hlt
            obtain ⟨q1, q2⟩ := hrows k3 B hk3
            refine ⟨q1, rowM_congr q2 q1 (fun i hi hi2 => ?_)⟩
            rw [mset_miss (by omega), mset_miss (by omega), mset_miss (by omega)]
            rw [show (139 + 65 * (29 - 1 - (k3 : Int)) + i) = 139 + (65 * (28 - (k3 : Int)) + i) by omega, hI.2.1 _ (by omega) (by omega)]
            congr 1; omega
          · cases hk3
        · rw [mset_miss (by omega), mset_hit (by omega), mset_miss (by omega)]; rw [hI.2.2.1 0 (by omega)]; exact h0
        · rw [mset_hit (by omega), mset_miss (by omega), mset_miss (by omega)]; rw [hI.2.2.1 1 (by omega)]; exact h1
      | succ n ih =>
        intro k τ hk hI
        refine h13 _ _ (fun _ hOt => ?_)
        refine ⟨fun hh => absurd hh (by omega), fun hh => ?_⟩
        refine ⟨by omega, by omega, ?_⟩
        intro _ e; subst e
        refine ⟨by unfold R32; omega, ih _ _ (by omega) ⟨by omega, fun i h1 h2 => ?_, fun j hj => ?_, hI.2.2.2.set (by simp)⟩⟩
        · by_cases e : i = k
          · subst e; rw [mset_hit rfl]; exact hI.2.2.1 _ (by omega)
          · rw [mset_miss (by omega)]; exact hI.2.1 i h1 (by omega)
        · rw [mset_miss (by omega)]; exact hI.2.2.1 j (by omega)
    exact H13 1885 0 σ (by omega) ⟨by omega, fun i h1 h2 => by omega, fun j _ => rfl, Fr.rf _ _⟩)

/-- the state behind taking back to the row B, what was told being as it is in A -/
def undoS (A B : Mem) : Mem := fun q i =>
  if q = 1 then (if i < B 10 0 then B 1 i else A 14 i) else if q = 2 then (if i < B 10 1 then B 2 i else A 16 i) else if q = 3 then (if i < B 10 1 then B 3 i else 0) else if q = 0 ∨ q = 4 ∨ q = 5 ∨ q = 6 ∨ q = 7 then B q i else A q i
theorem undoS_core {A B : Mem} {q : Nat} (h : q = 0 ∨ q = 4 ∨ q = 5 ∨ q = 6 ∨ q = 7) : undoS A B q = B q := by
  funext i; unfold undoS; rw [if_neg (by omega), if_neg (by omega), if_neg (by omega), if_pos h]
theorem undoS_told {A B : Mem} {q : Nat} (h : 8 ≤ q) : undoS A B q = A q := by
  funext i; unfold undoS; rw [if_neg (by omega), if_neg (by omega), if_neg (by omega), if_neg (by omega)]
theorem bkM_undo {A B : Mem} (i : Int) : bkM (undoS A B) i = bkM B i := by
  unfold bkM; rw [undoS_core (by simp), undoS_core (by simp), undoS_core (by simp), undoS_core (by simp)]
theorem bkC_undo {A B : Mem} (i : Int) : bkC (undoS A B) i = bkC B i := by
  unfold bkC; rw [undoS_core (by simp), undoS_core (by simp), undoS_core (by simp), undoS_core (by simp)]
theorem toldM_low {σ σ' : Mem} {A : Mem} (h : toldM σ 75 A) (hA : A 10 0 ≤ 16 ∧ A 10 1 ≤ 6 ∧ A 10 3 ≤ 8) (he : ∀ i : Int, (0 ≤ i ∧ i ≤ 3 ∨ i = 5 ∨ 39 ≤ i ∧ i < 139) → σ' 75 i = σ 75 i) : toldM σ' 75 A := by
  obtain ⟨h0, h1, h2, h3⟩ := h
  refine ⟨?_, fun r hr hr2 => ?_, fun g hg hg2 => ?_, fun i hi hi2 => ?_⟩
  · rw [he 0 (by omega), he 1 (by omega), he 2 (by omega), he 5 (by omega), he 3 (by omega)]; exact h0
  · rw [he _ (by omega), he _ (by omega), he _ (by omega), he _ (by omega)]; exact h1 r hr hr2
  · rw [he _ (by omega), he _ (by omega)]; exact h2 g hg hg2
  · rw [he _ (by omega), he _ (by omega), he _ (by omega)]; exact h3 i hi hi2
theorem toldM_same {σ : Mem} {p : Nat} {A A' : Mem} (h : toldM σ p A) (he : ∀ q, 8 ≤ q → A' q = A q) : toldM σ p A' := by
  unfold toldM at *
  rw [he 10 (by omega), he 11 (by omega), he 12 (by omega), he 13 (by omega), he 14 (by omega), he 15 (by omega), he 16 (by omega), he 17 (by omega), he 18 (by omega), he 19 (by omega)]
  exact h

def wp_X12_undo  (σ : Mem) (Q : Int → Mem → Prop) : Prop :=
 ∀ P37 : Int → Int → Mem → Prop,
 ∀ P75 : Int → Int → Mem → Prop,
 ∀ P115 : Int → Int → Mem → Prop,
 ∀ P138 : Int → Int → Mem → Prop,
 (∀ (v1 : Int) (v2 : Int) (σ : Mem), (R32 v1 → R32 v2 → OKm σ →
   ((33 ≤ v2) →
     (0 ≤ v1 ∧ v1 < 2119) ∧
     P75 v1 (σ 75 v1) σ) ∧
    ((v2 < 33) →
     (0 ≤ ((v1 + 2) + v2) ∧ ((v1 + 2) + v2) < 2119) ∧
     (0 ≤ (6 + v2) ∧ (6 + v2) < 2119) ∧
     ∀ σ11 : Mem, σ11 = mset σ 75 (6 + v2) (σ 75 ((v1 + 2) + v2)) →
     R32 (v2 + 1) ∧ P37 v1 (v2 + 1) σ11)) → P37 v1 v2 σ) →
 (∀ (v1 : Int) (v2 : Int) (σ : Mem), (R32 v1 → R32 v2 → OKm σ →
   (((σ 75 0) ≤ v2) →
     (0 ≤ (v1 + 1) ∧ (v1 + 1) < 2119) ∧
     P115 v1 (σ 75 (v1 + 1)) σ) ∧
    ((v2 < (σ 75 0)) →
     (0 ≤ v2 ∧ v2 < 16 ∧ 0 ≤ (3 : Int) ∧ (3 : Int) < 4) ∧
     (0 ≤ (11 + v2) ∧ (11 + v2) < 2119) ∧
     ∀ σ21 : Mem, σ21 = mset σ 75 (11 + v2) (σ 75 (39 + 4 * v2 + (3 : Int))) →
     R32 (v2 + 1) ∧ P75 v1 (v2 + 1) σ21)) → P75 v1 v2 σ) →
 (∀ (v1 : Int) (v2 : Int) (σ : Mem), (R32 v1 → R32 v2 → OKm σ →
   (((σ 75 1) ≤ v2) →
     P138 v1 0 σ) ∧
    ((v2 < (σ 75 1)) →
     (0 ≤ v2 ∧ v2 < 6) ∧
     ∀ σ29 : Mem, σ29 = (mset (mset σ 75 (27 + 2 * v2) (σ 75 (103 + 2 * v2))) 75 (27 + 2 * v2 + 1) 0) →
     R32 (v2 + 1) ∧ P115 v1 (v2 + 1) σ29)) → P115 v1 v2 σ) →
 (∀ (v1 : Int) (v2 : Int) (σ : Mem), (R32 v1 → R32 v2 → OKm σ →
   ((30 ≤ v2) →
     Q (σ 75 4) σ) ∧
    ((v2 < 30) →
     (0 ≤ ((v1 + 35) + v2) ∧ ((v1 + 35) + v2) < 2119) ∧
     (0 ≤ (2089 + v2) ∧ (2089 + v2) < 2119) ∧
     ∀ σ35 : Mem, σ35 = mset σ 75 (2089 + v2) (σ 75 ((v1 + 35) + v2)) →
     R32 (v2 + 1) ∧ P138 v1 (v2 + 1) σ35)) → P138 v1 v2 σ) →
  (((σ 75 4) ≠ 0) →
    R32 ((σ 75 4) - 1) ∧
    ∀ σ3 : Mem, σ3 = mset σ 75 4 ((σ 75 4) - 1) →
    R32 (139 + (65 * (σ3 75 4))) ∧ P37 (139 + (65 * (σ3 75 4))) 0 σ3) ∧
   (((σ 75 4) = 0) →
    Q (-1) σ)
theorem mt_X12_undo {d : Nat} (hd : 1 ≤ d)  {σ : Mem} {Q : Int → Mem → Prop}  (hO : OKm σ) (h : wp_X12_undo  σ Q) : Mt yX12_undo cX12_undo 3 (some .int) d [aR (74)] σ (QI Q) := by
  refine Mt.intro (by decide +kernel) (Nat.le_of_ble_eq_true rfl) [(0, aR (74))] rfl ?_
  unfold wp_X12_undo at h
  have h := h (fun (v1 : Int) (v2 : Int) (σ : Mem) => R32 v1 → R32 v2 → OKm σ → G yX12_undo cX12_undo 3 (some .int) d (QI Q) 37 [(0, aR (74)), (1, aI (v1)), (2, aI (v2))] [] σ)
    (fun (v1 : Int) (v2 : Int) (σ : Mem) => R32 v1 → R32 v2 → OKm σ → G yX12_undo cX12_undo 3 (some .int) d (QI Q) 75 [(0, aR (74)), (1, aI (v1)), (2, aI (v2))] [] σ)
    (fun (v1 : Int) (v2 : Int) (σ : Mem) => R32 v1 → R32 v2 → OKm σ → G yX12_undo cX12_undo 3 (some .int) d (QI Q) 115 [(0, aR (74)), (1, aI (v1)), (2, aI (v2))] [] σ)
    (fun (v1 : Int) (v2 : Int) (σ : Mem) => R32 v1 → R32 v2 → OKm σ → G yX12_undo cX12_undo 3 (some .int) d (QI Q) 138 [(0, aR (74)), (1, aI (v1)), (2, aI (v2))] [] σ) ?_ ?_ ?_ ?_
  · refine G_aload_n 0 rfl rfl dX12_undo_0 ?_
    refine G_get (k := 0) (kd := (2, 75)) (v := aR 75) gf_X12_7 rfl rfl rfl rfl dX12_undo_1 ?_
    refine G_iconst dX12_undo_4 ?_
    refine G_iald (n := 2119) rfl (by decide) (by decide) dX12_undo_5 ?_
    refine G_if_ne (OKm.i hO 75 4 (isLg_row (show shp 75 = (1, 2119, []) from rfl) _)) dX12_undo_6 (tgt := 11) (by decide) (fun c1 => ?_) (fun c1 => ?_)
    · have h := h.1 c1
      refine G_aload_n 0 rfl rfl dX12_undo_11 ?_
      refine G_get (k := 0) (kd := (2, 75)) (v := aR 75) gf_X12_7 rfl rfl rfl rfl dX12_undo_12 ?_
      refine G_iconst dX12_undo_15 ?_
      refine G_dup2 rfl rfl dX12_undo_16 ?_
      refine G_iald (n := 2119) rfl (by decide) (by decide) dX12_undo_17 ?_
      refine G_iconst dX12_undo_18 ?_
      refine G_isub dX12_undo_19 ?_
      obtain ⟨c2, h⟩ := h
      obtain ⟨σ3, e5⟩ : ∃ τ : Mem, τ = mset σ 75 4 ((σ 75 4) - 1) := ⟨_, rfl⟩
      have h := h σ3 e5
      have o4 : OKm σ3 := by rw [e5]; exact OKm.seti hO _ _ _ c2 (isLg_row (show shp 75 = (1, 2119, []) from rfl) _)
      refine G_iast (n := 2119) rfl (by decide) (by decide) dX12_undo_20 ?_
      rw [← e5]
      refine G_sipush (by decide) dX12_undo_21 ?_
      refine G_bipush (by decide) dX12_undo_24 ?_
      refine G_aload_n 0 rfl rfl dX12_undo_26 ?_
      refine G_get (k := 0) (kd := (2, 75)) (v := aR 75) gf_X12_7 rfl rfl rfl rfl dX12_undo_27 ?_
      refine G_iconst dX12_undo_30 ?_
      refine G_iald (n := 2119) rfl (by decide) (by decide) dX12_undo_31 ?_
      refine G_imul dX12_undo_32 ?_
      refine G_iadd dX12_undo_33 ?_
      refine G_istore_n (lv' := [(1, aI ((139 + (65 * (σ3 75 4))))), (0, aR (74))]) rfl rfl (by decide) dX12_undo_34 ?_
      refine G_iconst dX12_undo_35 ?_
      refine G_istore_n (lv' := [(2, aI (0)), (1, aI ((139 + (65 * (σ3 75 4))))), (0, aR (74))]) rfl rfl (by decide) dX12_undo_36 ?_
      obtain ⟨c6, h⟩ := h
      exact G_pick [2, 1, 0] rfl (h c6 (rL 0 rfl) o4)
    · have h := h.2 c1
      refine G_iconst dX12_undo_9 ?_
      exact G_iret rfl (rL (-1) rfl) dX12_undo_10 ⟨_, rfl, h⟩ hO
  · intro v1 v2 σ h hv1 hv2 hO
    have h := h hv1 hv2 hO
    refine G_iload_n 2 rfl rfl dX12_undo_37 ?_
    refine G_bipush (by decide) dX12_undo_38 ?_
    refine G_icmp_ge hv2 (rL 33 rfl) dX12_undo_40 (tgt := 68) (by decide) (fun c7 => ?_) (fun c7 => ?_)
    · have h := h.1 c7
      refine G_aload_n 0 rfl rfl dX12_undo_68 ?_
      refine G_get (k := 0) (kd := (2, 75)) (v := aR 75) gf_X12_7 rfl rfl rfl rfl dX12_undo_69 ?_
      refine G_iload_n 1 rfl rfl dX12_undo_72 ?_
      obtain ⟨c8, h⟩ := h
      refine G_iald (n := 2119) rfl c8.1 c8.2 dX12_undo_73 ?_
      refine G_istore_n (lv' := [(2, aI ((σ 75 v1))), (0, aR (74)), (1, aI (v1))]) rfl rfl (by decide) dX12_undo_74 ?_
      exact G_pick [1, 2, 0] rfl (h hv1 (OKm.i hO 75 v1 (isLg_row (show shp 75 = (1, 2119, []) from rfl) _)) hO)
    · have h := h.2 c7
      refine G_aload_n 0 rfl rfl dX12_undo_43 ?_
      refine G_get (k := 0) (kd := (2, 75)) (v := aR 75) gf_X12_7 rfl rfl rfl rfl dX12_undo_44 ?_
      refine G_bipush (by decide) dX12_undo_47 ?_
      refine G_iload_n 2 rfl rfl dX12_undo_49 ?_
      refine G_iadd dX12_undo_50 ?_
      refine G_aload_n 0 rfl rfl dX12_undo_51 ?_
      refine G_get (k := 0) (kd := (2, 75)) (v := aR 75) gf_X12_7 rfl rfl rfl rfl dX12_undo_52 ?_
      refine G_iload_n 1 rfl rfl dX12_undo_55 ?_
      refine G_iconst dX12_undo_56 ?_
      refine G_iadd dX12_undo_57 ?_
      refine G_iload_n 2 rfl rfl dX12_undo_58 ?_
      refine G_iadd dX12_undo_59 ?_
      obtain ⟨c9, h⟩ := h
      refine G_iald (n := 2119) rfl c9.1 c9.2 dX12_undo_60 ?_
      obtain ⟨c10, h⟩ := h
      obtain ⟨σ11, e13⟩ : ∃ τ : Mem, τ = mset σ 75 (6 + v2) (σ 75 ((v1 + 2) + v2)) := ⟨_, rfl⟩
      have h := h σ11 e13
      have o12 : OKm σ11 := by rw [e13]; exact OKm.seti hO _ _ _ (OKm.i hO 75 ((v1 + 2) + v2) (isLg_row (show shp 75 = (1, 2119, []) from rfl) _)) (isLg_row (show shp 75 = (1, 2119, []) from rfl) _)
      refine G_iast (n := 2119) rfl c10.1 c10.2 dX12_undo_61 ?_
      rw [← e13]
      refine G_iinc (lv' := [(2, aI ((v2 + 1))), (0, aR (74)), (1, aI (v1))]) (k := 2) rfl rfl (by decide) dX12_undo_62 ?_
      refine G_goto (tgt := 37) dX12_undo_65 (by decide) ?_
      obtain ⟨c14, h⟩ := h
      exact G_pick [1, 2, 0] rfl (h hv1 c14 o12)
  · intro v1 v2 σ h hv1 hv2 hO
    have h := h hv1 hv2 hO
    refine G_iload_n 2 rfl rfl dX12_undo_75 ?_
    refine G_aload_n 0 rfl rfl dX12_undo_76 ?_
    refine G_get (k := 0) (kd := (2, 75)) (v := aR 75) gf_X12_7 rfl rfl rfl rfl dX12_undo_77 ?_
    refine G_iconst dX12_undo_80 ?_
    refine G_iald (n := 2119) rfl (by decide) (by decide) dX12_undo_81 ?_
    refine G_icmp_ge hv2 (OKm.i hO 75 0 (isLg_row (show shp 75 = (1, 2119, []) from rfl) _)) dX12_undo_82 (tgt := 106) (by decide) (fun c15 => ?_) (fun c15 => ?_)
    · have h := h.1 c15
      refine G_aload_n 0 rfl rfl dX12_undo_106 ?_
      refine G_get (k := 0) (kd := (2, 75)) (v := aR 75) gf_X12_7 rfl rfl rfl rfl dX12_undo_107 ?_
      refine G_iload_n 1 rfl rfl dX12_undo_110 ?_
      refine G_iconst dX12_undo_111 ?_
      refine G_iadd dX12_undo_112 ?_
      obtain ⟨c16, h⟩ := h
      refine G_iald (n := 2119) rfl c16.1 c16.2 dX12_undo_113 ?_
      refine G_istore_n (lv' := [(2, aI ((σ 75 (v1 + 1)))), (0, aR (74)), (1, aI (v1))]) rfl rfl (by decide) dX12_undo_114 ?_
      exact G_pick [1, 2, 0] rfl (h hv1 (OKm.i hO 75 (v1 + 1) (isLg_row (show shp 75 = (1, 2119, []) from rfl) _)) hO)
    · have h := h.2 c15
      refine G_aload_n 0 rfl rfl dX12_undo_85 ?_
      refine G_get (k := 0) (kd := (2, 75)) (v := aR 75) gf_X12_7 rfl rfl rfl rfl dX12_undo_86 ?_
      refine G_bipush (by decide) dX12_undo_89 ?_
      refine G_iload_n 2 rfl rfl dX12_undo_91 ?_
      refine G_iadd dX12_undo_92 ?_
      refine G_aload_n 0 rfl rfl dX12_undo_93 ?_
      refine G_iload_n 2 rfl rfl dX12_undo_94 ?_
      refine G_iconst dX12_undo_95 ?_
      obtain ⟨c17, h⟩ := h
      refine G_callV (as := [_, _]) cf_X12_85 rfl rfl rfl (sp_X12_told (d - 1) (by omega) _ hO _ hv2 _ (rL 3 rfl) c17) (by omega) rfl rfl (Nat.le_of_ble_eq_true rfl) dX12_undo_96 ?_
      rintro _ _ ⟨_, rfl, rfl, rfl⟩ o19 r18
      obtain ⟨c20, h⟩ := h
      obtain ⟨σ21, e23⟩ : ∃ τ : Mem, τ = mset σ 75 (11 + v2) (σ 75 (39 + 4 * v2 + (3 : Int))) := ⟨_, rfl⟩
      have h := h σ21 e23
      have o22 : OKm σ21 := by rw [e23]; exact OKm.seti hO _ _ _ (r18 _ rfl) (isLg_row (show shp 75 = (1, 2119, []) from rfl) _)
      refine G_iast (n := 2119) rfl c20.1 c20.2 dX12_undo_99 ?_
      rw [← e23]
      refine G_iinc (lv' := [(2, aI ((v2 + 1))), (0, aR (74)), (1, aI (v1))]) (k := 2) rfl rfl (by decide) dX12_undo_100 ?_
      refine G_goto (tgt := 75) dX12_undo_103 (by decide) ?_
      obtain ⟨c24, h⟩ := h
      exact G_pick [1, 2, 0] rfl (h hv1 c24 o22)
  · intro v1 v2 σ h hv1 hv2 hO
    have h := h hv1 hv2 hO
    refine G_iload_n 2 rfl rfl dX12_undo_115 ?_
    refine G_aload_n 0 rfl rfl dX12_undo_116 ?_
    refine G_get (k := 0) (kd := (2, 75)) (v := aR 75) gf_X12_7 rfl rfl rfl rfl dX12_undo_117 ?_
    refine G_iconst dX12_undo_120 ?_
    refine G_iald (n := 2119) rfl (by decide) (by decide) dX12_undo_121 ?_
    refine G_icmp_ge hv2 (OKm.i hO 75 1 (isLg_row (show shp 75 = (1, 2119, []) from rfl) _)) dX12_undo_122 (tgt := 136) (by decide) (fun c25 => ?_) (fun c25 => ?_)
    · have h := h.1 c25
      refine G_iconst dX12_undo_136 ?_
      refine G_istore_n (lv' := [(2, aI (0)), (0, aR (74)), (1, aI (v1))]) rfl rfl (by decide) dX12_undo_137 ?_
      exact G_pick [1, 2, 0] rfl (h hv1 (rL 0 rfl) hO)
    · have h := h.2 c25
      refine G_aload_n 0 rfl rfl dX12_undo_125 ?_
      refine G_iload_n 2 rfl rfl dX12_undo_126 ?_
      obtain ⟨c26, h⟩ := h
      refine G_callV (as := [_]) cf_X12_93 rfl rfl rfl (sp_X12_begin (d - 1) (by omega) _ hO _ hv2 c26) (by omega) rfl rfl (Nat.le_of_ble_eq_true rfl) dX12_undo_127 ?_
      rintro _ σ29 ⟨rfl, e30⟩ o28 r27
      have h := h σ29 e30
      refine G_iinc (lv' := [(2, aI ((v2 + 1))), (0, aR (74)), (1, aI (v1))]) (k := 2) rfl rfl (by decide) dX12_undo_130 ?_
      refine G_goto (tgt := 115) dX12_undo_133 (by decide) ?_
      obtain ⟨c31, h⟩ := h
      exact G_pick [1, 2, 0] rfl (h hv1 c31 o28)
  · intro v1 v2 σ h hv1 hv2 hO
    have h := h hv1 hv2 hO
    refine G_iload_n 2 rfl rfl dX12_undo_138 ?_
    refine G_bipush (by decide) dX12_undo_139 ?_
    refine G_icmp_ge hv2 (rL 30 rfl) dX12_undo_141 (tgt := 171) (by decide) (fun c32 => ?_) (fun c32 => ?_)
    · have h := h.1 c32
      refine G_aload_n 0 rfl rfl dX12_undo_171 ?_
      refine G_get (k := 0) (kd := (2, 75)) (v := aR 75) gf_X12_7 rfl rfl rfl rfl dX12_undo_172 ?_
      refine G_iconst dX12_undo_175 ?_
      refine G_iald (n := 2119) rfl (by decide) (by decide) dX12_undo_176 ?_
      exact G_iret rfl (OKm.i hO 75 4 (isLg_row (show shp 75 = (1, 2119, []) from rfl) _)) dX12_undo_177 ⟨_, rfl, h⟩ hO
    · have h := h.2 c32
      refine G_aload_n 0 rfl rfl dX12_undo_144 ?_
      refine G_get (k := 0) (kd := (2, 75)) (v := aR 75) gf_X12_7 rfl rfl rfl rfl dX12_undo_145 ?_
      refine G_sipush (by decide) dX12_undo_148 ?_
      refine G_iload_n 2 rfl rfl dX12_undo_151 ?_
      refine G_iadd dX12_undo_152 ?_
      refine G_aload_n 0 rfl rfl dX12_undo_153 ?_
      refine G_get (k := 0) (kd := (2, 75)) (v := aR 75) gf_X12_7 rfl rfl rfl rfl dX12_undo_154 ?_
      refine G_iload_n 1 rfl rfl dX12_undo_157 ?_
      refine G_bipush (by decide) dX12_undo_158 ?_
      refine G_iadd dX12_undo_160 ?_
      refine G_iload_n 2 rfl rfl dX12_undo_161 ?_
      refine G_iadd dX12_undo_162 ?_
      obtain ⟨c33, h⟩ := h
      refine G_iald (n := 2119) rfl c33.1 c33.2 dX12_undo_163 ?_
      obtain ⟨c34, h⟩ := h
      obtain ⟨σ35, e37⟩ : ∃ τ : Mem, τ = mset σ 75 (2089 + v2) (σ 75 ((v1 + 35) + v2)) := ⟨_, rfl⟩
      have h := h σ35 e37
      have o36 : OKm σ35 := by rw [e37]; exact OKm.seti hO _ _ _ (OKm.i hO 75 ((v1 + 35) + v2) (isLg_row (show shp 75 = (1, 2119, []) from rfl) _)) (isLg_row (show shp 75 = (1, 2119, []) from rfl) _)
      refine G_iast (n := 2119) rfl c34.1 c34.2 dX12_undo_164 ?_
      rw [← e37]
      refine G_iinc (lv' := [(2, aI ((v2 + 1))), (0, aR (74)), (1, aI (v1))]) (k := 2) rfl rfl (by decide) dX12_undo_165 ?_
      refine G_goto (tgt := 138) dX12_undo_168 (by decide) ?_
      obtain ⟨c38, h⟩ := h
      exact G_pick [1, 2, 0] rfl (h hv1 c38 o36)

theorem sp_X12_undo (d : Nat) (hd : 1 ≤ d) (σ : Mem) (hO : OKm σ) (A : Mem) (L : List Mem) (hpre : toldM σ 75 A ∧ (0 ≤ A 10 0 ∧ A 10 0 ≤ 16 ∧ 0 ≤ A 10 1 ∧ A 10 1 ≤ 6 ∧ A 10 3 ≤ 8) ∧ stepsM σ 75 L) : Mt yX12_undo cX12_undo 3 (some .int) d [aR (74)] σ (QI (fun v σ' => match L with | [] => v = -1 ∧ σ' = σ | B :: L2 => v = (L2.length : Int) ∧ stepsM σ' 75 L2 ∧ nowM σ' 75 (undoS A B) ∧ toldM σ' 75 (undoS A B) ∧ Fr [75] σ σ')) := mt_X12_undo hd  hO (by
  unfold wp_X12_undo
  intro P37 P75 P115 P138 h37 h75 h115 h138
  obtain ⟨hT, hA, hL, hc, hrows⟩ := hpre
  refine ⟨fun hne => ?_, fun heq => ?_⟩
  rotate_left
  · have : L = [] := List.eq_nil_of_length_eq_zero (by omega)
    subst this
    exact ⟨rfl, rfl⟩
  cases L with
  | nil => simp at hc; omega
  | cons B L =>
    obtain ⟨hB, hB2⟩ := hrows 0 B rfl
    have hBc := hB
    unfold Cnt at hBc
    simp only [List.length_cons] at hL hc hB2
    have hc2 : σ 75 4 - 1 = (L.length : Int) := by omega
    refine ⟨by unfold R32; omega, ?_⟩
    intro ρ eρ
    have e4 : ρ 75 4 = (L.length : Int) := by rw [eρ, mset_hit rfl]; exact hc2
    rw [e4]
    refine ⟨by unfold R32; omega, ?_⟩
    have hρ : ∀ j : Int, j ≠ 4 → ρ 75 j = σ 75 j := fun j hj => by rw [eρ, mset_miss hj]
    have hFρ : Fr [75] σ ρ := by rw [eρ]; exact (Fr.rf _ _).set (by simp)
    have hb2 : rowM ρ 75 (139 + 65 * (L.length : Int)) B := rowM_congr hB2 hB (fun i hi hi2 => by rw [hρ _ (by omega)]; (congr 1 <;> (try simp) <;> omega))
    have hTρ : toldM ρ 75 A := toldM_low hT (by omega) (fun i hi => hρ i (by omega))
    obtain ⟨b0, b1, b2, b3⟩ := hb2
    have t0 := hTρ.1
    generalize hx : (139 + 65 * (L.length : Int)) = x at *
    have H138 : ∀ (n : Nat) (k : Int) (τ : Mem), k + n = 30 → (0 ≤ k ∧ (∀ i : Int, 0 ≤ i → i < k → τ 75 (2089 + i) = ρ 75 (x + 35 + i)) ∧ (∀ i : Int, 0 ≤ i → i < 5 → τ 75 (6 + i) = ρ 75 (x + 2 + i)) ∧ (∀ i : Int, 0 ≤ i → i < A 10 0 → τ 75 (11 + i) = (if i < B 10 0 then ρ 75 (x + 7 + i) else A 14 i)) ∧ (∀ g : Int, 0 ≤ g → g < A 10 1 → τ 75 (27 + 2 * g) = (if g < B 10 1 then ρ 75 (x + 23 + 2 * g) else A 16 g) ∧ τ 75 (27 + 2 * g + 1) = (if g < B 10 1 then ρ 75 (x + 24 + 2 * g) else 0)) ∧ (∀ j : Int, j < 0 ∨ j = 4 ∨ 0 ≤ j ∧ j < 6 ∨ 39 ≤ j ∧ j < 2089 → τ 75 j = ρ 75 j) ∧ Fr [75] σ τ) → P138 x k τ := by
      intro n
      induction n with
      | zero =>
        intro k τ hk hI
        refine h138 _ _ _ (fun _ _ hOt => ?_)
        refine ⟨fun hh => ?_, fun hh => absurd hh (by omega)⟩
        have eL : τ 75 4 = (L.length : Int) := by rw [hI.2.2.2.2.2.1 4 (by omega)]; exact e4
        refine ⟨eL, ⟨by omega, eL, fun k3 B3 hk3 => ?_⟩, ⟨?_, fun r hr hr2 => ?_, fun g hg hg2 => ?_, fun i hi hi2 => ?_⟩, ?_, hI.2.2.2.2.2.2⟩
        · obtain ⟨q1, q2⟩ := hrows (k3 + 1) B3 hk3
          have hk4 : k3 < L.length := (List.getElem?_eq_some_iff.mp (show L[k3]? = some B3 from hk3)).1
          refine ⟨q1, rowM_congr q2 q1 (fun i hi hi2 => ?_)⟩
          rw [hI.2.2.2.2.2.1 _ (by omega), hρ _ (by omega)]
          congr 1; simp; omega
        · rw [undoS_core (by simp)]
          have g2 := hI.2.2.1
          refine ⟨?_, ?_, ?_, ?_, ?_⟩
          · have := g2 0 (by omega) (by omega); rw [← b0.1]; simpa using this
          · have := g2 1 (by omega) (by omega); rw [← b0.2.1]; rw [← show x + 2 + 1 = x + 3 by omega]; exact this
          · have := g2 2 (by omega) (by omega); rw [← b0.2.2.1]; rw [← show x + 2 + 2 = x + 4 by omega]; exact this
          · have := g2 3 (by omega) (by omega); rw [← b0.2.2.2.1]; rw [← show x + 2 + 3 = x + 5 by omega]; exact this
          · have := g2 4 (by omega) (by omega); rw [← b0.2.2.2.2.1]; rw [← show x + 2 + 4 = x + 6 by omega]; exact this
        · rw [undoS_told (by omega)] at hr2
          rw [hI.2.2.2.1 r hr hr2]
          show _ = (if r < B 10 0 then B 1 r else A 14 r)
          by_cases e : r < B 10 0
          · rw [if_pos e, if_pos e, ← b1 r hr e]; congr 1; omega
          · rw [if_neg e, if_neg e]
        · rw [undoS_told (by omega)] at hg2
          rw [(hI.2.2.2.2.1 g hg hg2).1, (hI.2.2.2.2.1 g hg hg2).2]
          show _ = (if g < B 10 1 then B 2 g else A 16 g) ∧ _ = (if g < B 10 1 then B 3 g else 0)
          by_cases e : g < B 10 1
          · rw [if_pos e, if_pos e, if_pos e, if_pos e, ← (b2 g hg e).1, ← (b2 g hg e).2]
            constructor <;> (congr 1; omega)
          · rw [if_neg e, if_neg e, if_neg e, if_neg e]; exact ⟨rfl, rfl⟩
        · rw [undoS_core (by simp)] at hi2
          rw [bkM_undo, ← b3 i hi hi2, hI.2.1 i hi (by omega)]; congr 1; omega
        · exact toldM_same (toldM_low hTρ (by omega) (fun i hi => hI.2.2.2.2.2.1 i (by omega))) (fun q hq => undoS_told hq)
      | succ n ih =>
        intro k τ hk hI
        refine h138 _ _ _ (fun _ _ hOt => ?_)
        refine ⟨fun hh => absurd hh (by omega), fun hh => ?_⟩
        refine ⟨by omega, by omega, ?_⟩
        intro _ e; subst e
        refine ⟨by unfold R32; omega, ih _ _ (by omega) ⟨by omega, fun i h1 h2 => ?_, fun i h1 h2 => ?_, fun i h1 h2 => ?_, fun g h1 h2 => ?_, fun j hj => ?_, hI.2.2.2.2.2.2.set (by simp)⟩⟩
        · by_cases e : i = k
          · subst e; rw [mset_hit rfl]; exact hI.2.2.2.2.2.1 _ (by omega)
          · rw [mset_miss (by omega)]; exact hI.2.1 i h1 (by omega)
        · rw [mset_miss (by omega)]; exact hI.2.2.1 i h1 h2
        · rw [mset_miss (by omega)]; exact hI.2.2.2.1 i h1 h2
        · rw [mset_miss (by omega), mset_miss (by omega)]; exact hI.2.2.2.2.1 g h1 h2
        · rw [mset_miss (by omega)]; exact hI.2.2.2.2.2.1 j hj
    have H115 : ∀ (n : Nat) (k : Int) (τ : Mem), k + n = max (A 10 1) (B 10 1) → (0 ≤ k ∧ B 10 1 ≤ k ∧ (∀ i : Int, 0 ≤ i → i < 5 → τ 75 (6 + i) = ρ 75 (x + 2 + i)) ∧ (∀ i : Int, 0 ≤ i → i < A 10 0 → τ 75 (11 + i) = (if i < B 10 0 then ρ 75 (x + 7 + i) else A 14 i)) ∧ (∀ g : Int, 0 ≤ g → g < k → g < 6 → τ 75 (27 + 2 * g) = (if g < B 10 1 then ρ 75 (x + 23 + 2 * g) else A 16 g) ∧ τ 75 (27 + 2 * g + 1) = (if g < B 10 1 then ρ 75 (x + 24 + 2 * g) else 0)) ∧ (∀ j : Int, j < 0 ∨ j = 4 ∨ 0 ≤ j ∧ j < 6 ∨ 39 ≤ j ∧ j < 2119 → τ 75 j = ρ 75 j) ∧ Fr [75] σ τ) → P115 x k τ := by
      intro n
      induction n with
      | zero =>
        intro k τ hk hI
        refine h115 _ _ _ (fun _ _ hOt => ?_)
        refine ⟨fun hh => ?_, fun hh => absurd hh (by rw [hI.2.2.2.2.2.1 1 (by omega), t0.2.1]; omega)⟩
        exact H138 30 0 τ (by omega) ⟨by omega, fun i h1 h2 => by omega, hI.2.2.1, hI.2.2.2.1, fun g h1 h2 => hI.2.2.2.2.1 g h1 (by omega) (by omega), fun j hj => hI.2.2.2.2.2.1 j (by omega), hI.2.2.2.2.2.2⟩
      | succ n ih =>
        intro k τ hk hI
        refine h115 _ _ _ (fun _ _ hOt => ?_)
        refine ⟨fun hh => absurd hh (by rw [hI.2.2.2.2.2.1 1 (by omega), t0.2.1]; omega), fun hh => ?_⟩
        have hg := hTρ.2.2.1 k (by omega) (by rw [hI.2.2.2.2.2.1 1 (by omega), t0.2.1] at hh; omega)
        rw [hI.2.2.2.2.2.1 1 (by omega), t0.2.1] at hh
        refine ⟨by omega, ?_⟩
        intro _ e; subst e
        refine ⟨by unfold R32; omega, ih _ _ (by omega) ⟨by omega, by omega, fun i h1 h2 => ?_, fun i h1 h2 => ?_, fun g h1 h2 h3 => ?_, fun j hj => ?_, (hI.2.2.2.2.2.2.set (by simp)).set (by simp)⟩⟩
        · rw [mset_miss (by omega), mset_miss (by omega)]; exact hI.2.2.1 i h1 h2
        · rw [mset_miss (by omega), mset_miss (by omega)]; exact hI.2.2.2.1 i h1 h2
        · by_cases e : g = k
          · subst e
            rw [mset_miss (by omega), mset_hit (by omega), mset_hit rfl, if_neg (by omega), if_neg (by omega), hI.2.2.2.2.2.1 _ (by omega)]
            exact ⟨hg.1, rfl⟩
          · rw [mset_miss (by omega), mset_miss (by omega), mset_miss (by omega), mset_miss (by omega)]; exact hI.2.2.2.2.1 g h1 (by omega) h3
        · rw [mset_miss (by omega), mset_miss (by omega)]; exact hI.2.2.2.2.2.1 j hj
    have H75 : ∀ (n : Nat) (k : Int) (τ : Mem), k + n = max (A 10 0) (B 10 0) → (0 ≤ k ∧ B 10 0 ≤ k ∧ (∀ i : Int, 0 ≤ i → i < 5 → τ 75 (6 + i) = ρ 75 (x + 2 + i)) ∧ (∀ i : Int, 0 ≤ i → i < k → i < 16 → τ 75 (11 + i) = (if i < B 10 0 then ρ 75 (x + 7 + i) else A 14 i)) ∧ (∀ i : Int, 0 ≤ i → i < 12 → τ 75 (27 + i) = ρ 75 (x + 23 + i)) ∧ (∀ j : Int, j < 0 ∨ j = 4 ∨ 0 ≤ j ∧ j < 6 ∨ 39 ≤ j ∧ j < 2119 → τ 75 j = ρ 75 j) ∧ Fr [75] σ τ) → P75 x k τ := by
      intro n
      induction n with
      | zero =>
        intro k τ hk hI
        refine h75 _ _ _ (fun _ _ hOt => ?_)
        refine ⟨fun hh => ?_, fun hh => absurd hh (by rw [hI.2.2.2.2.2.1 0 (by omega), t0.1]; omega)⟩
        refine ⟨by omega, ?_⟩
        rw [hI.2.2.2.2.2.1 (x + 1) (by omega), b0.2.2.2.2.2.2]
        exact H115 (max (A 10 1) (B 10 1) - B 10 1).toNat (B 10 1) τ (by omega) ⟨by omega, by omega, hI.2.2.1, fun i h1 h2 => hI.2.2.2.1 i h1 (by omega) (by omega), fun g h1 h2 h3 => ⟨by rw [if_pos h2, hI.2.2.2.2.1 (2 * g) (by omega) (by omega)], by rw [if_pos h2, show 27 + 2 * g + 1 = 27 + (2 * g + 1) by omega, hI.2.2.2.2.1 (2 * g + 1) (by omega) (by omega)]; congr 1; omega⟩, fun j hj => hI.2.2.2.2.2.1 j (by omega), hI.2.2.2.2.2.2⟩
      | succ n ih =>
        intro k τ hk hI
        refine h75 _ _ _ (fun _ _ hOt => ?_)
        refine ⟨fun hh => absurd hh (by rw [hI.2.2.2.2.2.1 0 (by omega), t0.1]; omega), fun hh => ?_⟩
        have hg := (hTρ.2.1 k (by omega) (by rw [hI.2.2.2.2.2.1 0 (by omega), t0.1] at hh; omega)).2.2.2
        rw [hI.2.2.2.2.2.1 0 (by omega), t0.1] at hh
        refine ⟨by omega, by omega, ?_⟩
        intro _ e; subst e
        refine ⟨by unfold R32; omega, ih _ _ (by omega) ⟨by omega, by omega, fun i h1 h2 => ?_, fun i h1 h2 h3 => ?_, fun i h1 h2 => ?_, fun j hj => ?_, hI.2.2.2.2.2.2.set (by simp)⟩⟩
        · rw [mset_miss (by omega)]; exact hI.2.2.1 i h1 h2
        · by_cases e : i = k
          · subst e
            rw [mset_hit rfl, if_neg (by omega), hI.2.2.2.2.2.1 _ (by omega)]
            exact hg
          · rw [mset_miss (by omega)]; exact hI.2.2.2.1 i h1 (by omega) h3
        · rw [mset_miss (by omega)]; exact hI.2.2.2.2.1 i h1 h2
        · rw [mset_miss (by omega)]; exact hI.2.2.2.2.2.1 j hj
    have H37 : ∀ (n : Nat) (k : Int) (τ : Mem), k + n = 33 → (0 ≤ k ∧ (∀ i : Int, 0 ≤ i → i < k → τ 75 (6 + i) = ρ 75 (x + 2 + i)) ∧ (∀ j : Int, j < 6 ∨ 39 ≤ j → τ 75 j = ρ 75 j) ∧ Fr [75] σ τ) → P37 x k τ := by
      intro n
      induction n with
      | zero =>
        intro k τ hk hI
        refine h37 _ _ _ (fun _ _ hOt => ?_)
        refine ⟨fun hh => ?_, fun hh => absurd hh (by omega)⟩
        refine ⟨by omega, ?_⟩
        rw [hI.2.2.1 x (by omega), b0.2.2.2.2.2.1]
        exact H75 (max (A 10 0) (B 10 0) - B 10 0).toNat (B 10 0) τ (by omega) ⟨by omega, by omega, fun i h1 h2 => hI.2.1 i h1 (by omega), fun i h1 h2 h3 => by rw [if_pos h2, show 11 + i = 6 + (5 + i) by omega, hI.2.1 (5 + i) (by omega) (by omega)]; (congr 1 <;> omega), fun i h1 h2 => by rw [show 27 + i = 6 + (21 + i) by omega, hI.2.1 (21 + i) (by omega) (by omega)]; (congr 1 <;> omega), fun j hj => hI.2.2.1 j (by omega), hI.2.2.2⟩
      | succ n ih =>
        intro k τ hk hI
        refine h37 _ _ _ (fun _ _ hOt => ?_)
        refine ⟨fun hh => absurd hh (by omega), fun hh => ?_⟩
        refine ⟨by omega, by omega, ?_⟩
        intro _ e; subst e
        refine ⟨by unfold R32; omega, ih _ _ (by omega) ⟨by omega, fun i h1 h2 => ?_, fun j hj => ?_, hI.2.2.2.set (by simp)⟩⟩
        · by_cases e : i = k
          · subst e; rw [mset_hit rfl]; exact hI.2.2.1 _ (by omega)
          · rw [mset_miss (by omega)]; exact hI.2.1 i h1 (by omega)
        · rw [mset_miss (by omega)]; exact hI.2.2.1 j (by omega)
    exact H37 33 0 ρ (by omega) ⟨by omega, fun i h1 h2 => by omega, fun j _ => rfl, hFρ⟩)
