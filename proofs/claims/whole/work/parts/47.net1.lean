def wp_J7_fill_53178_m (x2 : Int) (σ : Mem) (Q : Mem → Prop) : Prop :=
 ∀ P5 : Int → Int → Int → Mem → Prop,
 (∀ (v1 : Int) (v2 : Int) (v3 : Int) (σ : Mem), (R32 v1 → R32 v2 → R32 v3 → OKm σ →
   ((v3 ≤ v2) →
     Q σ) ∧
    ((v2 < v3) →
     (0 ≤ v2 ∧ v2 < 8) ∧
     ∀ σ3 : Mem, σ3 = mset σ 41 v2 v1 →
     R32 (v2 + 1) ∧ P5 v1 (v2 + 1) v3 σ3)) → P5 v1 v2 v3 σ) →
  P5 x2 0 8 σ
theorem mt_J7_fill_53178_m {d : Nat} (hd : 0 ≤ d) {x2 : Int} {σ : Mem} {Q : Mem → Prop} (hx2 : R32 x2) (hO : OKm σ) (h : wp_J7_fill_53178_m x2 σ Q) : Mt yJ7_fill_53178 cJ7_fill_53178 4 none d [aR (41), aI (x2)] σ (QV Q) := by
  refine Mt.introF (by decide +kernel) (Nat.le_of_ble_eq_true rfl) [(0, aR (41)), (1, aI (x2))] rfl ?_
  unfold wp_J7_fill_53178_m at h
  have h := h (fun (v1 : Int) (v2 : Int) (v3 : Int) (σ : Mem) => R32 v1 → R32 v2 → R32 v3 → OKm σ → G yJ7_fill_53178 cJ7_fill_53178 4 none d (QV Q) 5 [(0, aR (41)), (1, aI (v1)), (2, aI (v2)), (3, aI (v3))] [] σ) ?_
  · refine G_iconst dJ7_fill_53178_0 ?_
    refine G_istore_n (lv' := [(2, aI (0)), (0, aR (41)), (1, aI (x2))]) rfl rfl (by decide) dJ7_fill_53178_1 ?_
    refine G_aload_n 1 rfl rfl dJ7_fill_53178_2 ?_
    refine G_alen (v := 8) (n := 8) rfl (by decide) (by decide) rfl dJ7_fill_53178_3 ?_
    refine G_istore_n (lv' := [(3, aI (8)), (2, aI (0)), (0, aR (41)), (1, aI (x2))]) rfl rfl (by decide) dJ7_fill_53178_4 ?_
    exact G_pick [2, 3, 1, 0] rfl (h hx2 (rL 0 rfl) (rL 8 rfl) hO)
  · intro v1 v2 v3 σ h hv1 hv2 hv3 hO
    have h := h hv1 hv2 hv3 hO
    refine G_iload_n 2 rfl rfl dJ7_fill_53178_5 ?_
    refine G_iload_n 3 rfl rfl dJ7_fill_53178_6 ?_
    refine G_icmp_ge hv2 hv3 dJ7_fill_53178_7 (tgt := 20) (by decide) (fun c1 => ?_) (fun c1 => ?_)
    · have h := h.1 c1
      exact G_vret rfl dJ7_fill_53178_20 ⟨rfl, h⟩ hO
    · have h := h.2 c1
      refine G_aload_n 0 rfl rfl dJ7_fill_53178_10 ?_
      refine G_iload_n 2 rfl rfl dJ7_fill_53178_11 ?_
      refine G_iload_n 1 rfl rfl dJ7_fill_53178_12 ?_
      obtain ⟨c2, h⟩ := h
      obtain ⟨σ3, e5⟩ : ∃ τ : Mem, τ = mset σ 41 v2 v1 := ⟨_, rfl⟩
      have h := h σ3 e5
      have o4 : OKm σ3 := by rw [e5]; exact OKm.seti hO _ _ _ hv1 (isLg_row (show shp 41 = (1, 8, []) from rfl) _)
      refine G_iast (n := 8) rfl c2.1 c2.2 dJ7_fill_53178_13 ?_
      rw [← e5]
      refine G_iinc (lv' := [(2, aI ((v2 + 1))), (0, aR (41)), (1, aI (v1)), (3, aI (v3))]) (k := 2) rfl rfl (by decide) dJ7_fill_53178_14 ?_
      refine G_goto (tgt := 5) dJ7_fill_53178_17 (by decide) ?_
      obtain ⟨c6, h⟩ := h
      exact G_pick [1, 2, 0, 3] rfl (h hv1 c6 hv3 o4)

theorem sp_J7_fill_53178_m (d : Nat) (hd : 0 ≤ d) (σ : Mem) (hO : OKm σ) (x2 : Int) (hx2 : R32 x2) : Mt yJ7_fill_53178 cJ7_fill_53178 4 none d [aR (41), aI (x2)] σ (QV (fun σ' => (∀ i : Int, 0 ≤ i → i < 8 → σ' 41 i = x2) ∧ Fr [41] σ σ')) := mt_J7_fill_53178_m hd hx2 hO (by
  unfold wp_J7_fill_53178_m
  intro P5 h5
  have H : ∀ (n : Nat) (k : Int) (τ : Mem), k + n = 8 → (0 ≤ k ∧ (∀ i : Int, 0 ≤ i → i < k → τ 41 i = x2) ∧ Fr [41] σ τ) → P5 x2 k 8 τ := by
    intro n
    induction n with
    | zero =>
      intro k τ hk hI
      refine h5 _ _ _ _ (fun _ _ _ hOt => ?_)
      refine ⟨fun hh => ?_, fun hh => absurd hh (by omega)⟩
      exact ⟨fun i h1 h2 => hI.2.1 i h1 (by omega), hI.2.2⟩
    | succ n ih =>
      intro k τ hk hI
      refine h5 _ _ _ _ (fun _ _ _ hOt => ?_)
      refine ⟨fun hh => absurd hh (by omega), fun hh => ?_⟩
      refine ⟨by omega, ?_⟩
      intro _ e; subst e
      refine ⟨by unfold R32; omega, ih _ _ (by omega) ⟨by omega, fun i h1 h2 => ?_, hI.2.2.set (by simp)⟩⟩
      by_cases e : i = k
      · subst e; rw [mset_hit rfl]
      · rw [mset_miss e]; exact hI.2.1 i h1 (by omega)
  exact H 8 0 σ (by omega) ⟨by omega, fun i h1 h2 => by omega, Fr.rf _ _⟩)

def wp_J7_fill_53178_w (x2 : Int) (σ : Mem) (Q : Mem → Prop) : Prop :=
 ∀ P5 : Int → Int → Int → Mem → Prop,
 (∀ (v1 : Int) (v2 : Int) (v3 : Int) (σ : Mem), (R32 v1 → R32 v2 → R32 v3 → OKm σ →
   ((v3 ≤ v2) →
     Q σ) ∧
    ((v2 < v3) →
     (0 ≤ v2 ∧ v2 < 8) ∧
     ∀ σ3 : Mem, σ3 = mset σ 43 v2 v1 →
     R32 (v2 + 1) ∧ P5 v1 (v2 + 1) v3 σ3)) → P5 v1 v2 v3 σ) →
  P5 x2 0 8 σ
theorem mt_J7_fill_53178_w {d : Nat} (hd : 0 ≤ d) {x2 : Int} {σ : Mem} {Q : Mem → Prop} (hx2 : R32 x2) (hO : OKm σ) (h : wp_J7_fill_53178_w x2 σ Q) : Mt yJ7_fill_53178 cJ7_fill_53178 4 none d [aR (43), aI (x2)] σ (QV Q) := by
  refine Mt.introF (by decide +kernel) (Nat.le_of_ble_eq_true rfl) [(0, aR (43)), (1, aI (x2))] rfl ?_
  unfold wp_J7_fill_53178_w at h
  have h := h (fun (v1 : Int) (v2 : Int) (v3 : Int) (σ : Mem) => R32 v1 → R32 v2 → R32 v3 → OKm σ → G yJ7_fill_53178 cJ7_fill_53178 4 none d (QV Q) 5 [(0, aR (43)), (1, aI (v1)), (2, aI (v2)), (3, aI (v3))] [] σ) ?_
  · refine G_iconst dJ7_fill_53178_0 ?_
    refine G_istore_n (lv' := [(2, aI (0)), (0, aR (43)), (1, aI (x2))]) rfl rfl (by decide) dJ7_fill_53178_1 ?_
    refine G_aload_n 1 rfl rfl dJ7_fill_53178_2 ?_
    refine G_alen (v := 8) (n := 8) rfl (by decide) (by decide) rfl dJ7_fill_53178_3 ?_
    refine G_istore_n (lv' := [(3, aI (8)), (2, aI (0)), (0, aR (43)), (1, aI (x2))]) rfl rfl (by decide) dJ7_fill_53178_4 ?_
    exact G_pick [2, 3, 1, 0] rfl (h hx2 (rL 0 rfl) (rL 8 rfl) hO)
  · intro v1 v2 v3 σ h hv1 hv2 hv3 hO
    have h := h hv1 hv2 hv3 hO
    refine G_iload_n 2 rfl rfl dJ7_fill_53178_5 ?_
    refine G_iload_n 3 rfl rfl dJ7_fill_53178_6 ?_
    refine G_icmp_ge hv2 hv3 dJ7_fill_53178_7 (tgt := 20) (by decide) (fun c1 => ?_) (fun c1 => ?_)
    · have h := h.1 c1
      exact G_vret rfl dJ7_fill_53178_20 ⟨rfl, h⟩ hO
    · have h := h.2 c1
      refine G_aload_n 0 rfl rfl dJ7_fill_53178_10 ?_
      refine G_iload_n 2 rfl rfl dJ7_fill_53178_11 ?_
      refine G_iload_n 1 rfl rfl dJ7_fill_53178_12 ?_
      obtain ⟨c2, h⟩ := h
      obtain ⟨σ3, e5⟩ : ∃ τ : Mem, τ = mset σ 43 v2 v1 := ⟨_, rfl⟩
      have h := h σ3 e5
      have o4 : OKm σ3 := by rw [e5]; exact OKm.seti hO _ _ _ hv1 (isLg_row (show shp 43 = (1, 8, []) from rfl) _)
      refine G_iast (n := 8) rfl c2.1 c2.2 dJ7_fill_53178_13 ?_
      rw [← e5]
      refine G_iinc (lv' := [(2, aI ((v2 + 1))), (0, aR (43)), (1, aI (v1)), (3, aI (v3))]) (k := 2) rfl rfl (by decide) dJ7_fill_53178_14 ?_
      refine G_goto (tgt := 5) dJ7_fill_53178_17 (by decide) ?_
      obtain ⟨c6, h⟩ := h
      exact G_pick [1, 2, 0, 3] rfl (h hv1 c6 hv3 o4)

theorem sp_J7_fill_53178_w (d : Nat) (hd : 0 ≤ d) (σ : Mem) (hO : OKm σ) (x2 : Int) (hx2 : R32 x2) : Mt yJ7_fill_53178 cJ7_fill_53178 4 none d [aR (43), aI (x2)] σ (QV (fun σ' => (∀ i : Int, 0 ≤ i → i < 8 → σ' 43 i = x2) ∧ Fr [43] σ σ')) := mt_J7_fill_53178_w hd hx2 hO (by
  unfold wp_J7_fill_53178_w
  intro P5 h5
  have H : ∀ (n : Nat) (k : Int) (τ : Mem), k + n = 8 → (0 ≤ k ∧ (∀ i : Int, 0 ≤ i → i < k → τ 43 i = x2) ∧ Fr [43] σ τ) → P5 x2 k 8 τ := by
    intro n
    induction n with
    | zero =>
      intro k τ hk hI
      refine h5 _ _ _ _ (fun _ _ _ hOt => ?_)
      refine ⟨fun hh => ?_, fun hh => absurd hh (by omega)⟩
      exact ⟨fun i h1 h2 => hI.2.1 i h1 (by omega), hI.2.2⟩
    | succ n ih =>
      intro k τ hk hI
      refine h5 _ _ _ _ (fun _ _ _ hOt => ?_)
      refine ⟨fun hh => absurd hh (by omega), fun hh => ?_⟩
      refine ⟨by omega, ?_⟩
      intro _ e; subst e
      refine ⟨by unfold R32; omega, ih _ _ (by omega) ⟨by omega, fun i h1 h2 => ?_, hI.2.2.set (by simp)⟩⟩
      by_cases e : i = k
      · subst e; rw [mset_hit rfl]
      · rw [mset_miss e]; exact hI.2.1 i h1 (by omega)
  exact H 8 0 σ (by omega) ⟨by omega, fun i h1 h2 => by omega, Fr.rf _ _⟩)

def wp_J7_fill_53178_n (x2 : Int) (σ : Mem) (Q : Mem → Prop) : Prop :=
 ∀ P5 : Int → Int → Int → Mem → Prop,
 (∀ (v1 : Int) (v2 : Int) (v3 : Int) (σ : Mem), (R32 v1 → R32 v2 → R32 v3 → OKm σ →
   ((v3 ≤ v2) →
     Q σ) ∧
    ((v2 < v3) →
     (0 ≤ v2 ∧ v2 < 8) ∧
     ∀ σ3 : Mem, σ3 = mset σ 45 v2 v1 →
     R32 (v2 + 1) ∧ P5 v1 (v2 + 1) v3 σ3)) → P5 v1 v2 v3 σ) →
  P5 x2 0 8 σ
theorem mt_J7_fill_53178_n {d : Nat} (hd : 0 ≤ d) {x2 : Int} {σ : Mem} {Q : Mem → Prop} (hx2 : R32 x2) (hO : OKm σ) (h : wp_J7_fill_53178_n x2 σ Q) : Mt yJ7_fill_53178 cJ7_fill_53178 4 none d [aR (45), aI (x2)] σ (QV Q) := by
  refine Mt.introF (by decide +kernel) (Nat.le_of_ble_eq_true rfl) [(0, aR (45)), (1, aI (x2))] rfl ?_
  unfold wp_J7_fill_53178_n at h
  have h := h (fun (v1 : Int) (v2 : Int) (v3 : Int) (σ : Mem) => R32 v1 → R32 v2 → R32 v3 → OKm σ → G yJ7_fill_53178 cJ7_fill_53178 4 none d (QV Q) 5 [(0, aR (45)), (1, aI (v1)), (2, aI (v2)), (3, aI (v3))] [] σ) ?_
  · refine G_iconst dJ7_fill_53178_0 ?_
    refine G_istore_n (lv' := [(2, aI (0)), (0, aR (45)), (1, aI (x2))]) rfl rfl (by decide) dJ7_fill_53178_1 ?_
    refine G_aload_n 1 rfl rfl dJ7_fill_53178_2 ?_
    refine G_alen (v := 8) (n := 8) rfl (by decide) (by decide) rfl dJ7_fill_53178_3 ?_
    refine G_istore_n (lv' := [(3, aI (8)), (2, aI (0)), (0, aR (45)), (1, aI (x2))]) rfl rfl (by decide) dJ7_fill_53178_4 ?_
    exact G_pick [2, 3, 1, 0] rfl (h hx2 (rL 0 rfl) (rL 8 rfl) hO)
  · intro v1 v2 v3 σ h hv1 hv2 hv3 hO
    have h := h hv1 hv2 hv3 hO
    refine G_iload_n 2 rfl rfl dJ7_fill_53178_5 ?_
    refine G_iload_n 3 rfl rfl dJ7_fill_53178_6 ?_
    refine G_icmp_ge hv2 hv3 dJ7_fill_53178_7 (tgt := 20) (by decide) (fun c1 => ?_) (fun c1 => ?_)
    · have h := h.1 c1
      exact G_vret rfl dJ7_fill_53178_20 ⟨rfl, h⟩ hO
    · have h := h.2 c1
      refine G_aload_n 0 rfl rfl dJ7_fill_53178_10 ?_
      refine G_iload_n 2 rfl rfl dJ7_fill_53178_11 ?_
      refine G_iload_n 1 rfl rfl dJ7_fill_53178_12 ?_
      obtain ⟨c2, h⟩ := h
      obtain ⟨σ3, e5⟩ : ∃ τ : Mem, τ = mset σ 45 v2 v1 := ⟨_, rfl⟩
      have h := h σ3 e5
      have o4 : OKm σ3 := by rw [e5]; exact OKm.seti hO _ _ _ hv1 (isLg_row (show shp 45 = (1, 8, []) from rfl) _)
      refine G_iast (n := 8) rfl c2.1 c2.2 dJ7_fill_53178_13 ?_
      rw [← e5]
      refine G_iinc (lv' := [(2, aI ((v2 + 1))), (0, aR (45)), (1, aI (v1)), (3, aI (v3))]) (k := 2) rfl rfl (by decide) dJ7_fill_53178_14 ?_
      refine G_goto (tgt := 5) dJ7_fill_53178_17 (by decide) ?_
      obtain ⟨c6, h⟩ := h
      exact G_pick [1, 2, 0, 3] rfl (h hv1 c6 hv3 o4)

theorem sp_J7_fill_53178_n (d : Nat) (hd : 0 ≤ d) (σ : Mem) (hO : OKm σ) (x2 : Int) (hx2 : R32 x2) : Mt yJ7_fill_53178 cJ7_fill_53178 4 none d [aR (45), aI (x2)] σ (QV (fun σ' => (∀ i : Int, 0 ≤ i → i < 8 → σ' 45 i = x2) ∧ Fr [45] σ σ')) := mt_J7_fill_53178_n hd hx2 hO (by
  unfold wp_J7_fill_53178_n
  intro P5 h5
  have H : ∀ (n : Nat) (k : Int) (τ : Mem), k + n = 8 → (0 ≤ k ∧ (∀ i : Int, 0 ≤ i → i < k → τ 45 i = x2) ∧ Fr [45] σ τ) → P5 x2 k 8 τ := by
    intro n
    induction n with
    | zero =>
      intro k τ hk hI
      refine h5 _ _ _ _ (fun _ _ _ hOt => ?_)
      refine ⟨fun hh => ?_, fun hh => absurd hh (by omega)⟩
      exact ⟨fun i h1 h2 => hI.2.1 i h1 (by omega), hI.2.2⟩
    | succ n ih =>
      intro k τ hk hI
      refine h5 _ _ _ _ (fun _ _ _ hOt => ?_)
      refine ⟨fun hh => absurd hh (by omega), fun hh => ?_⟩
      refine ⟨by omega, ?_⟩
      intro _ e; subst e
      refine ⟨by unfold R32; omega, ih _ _ (by omega) ⟨by omega, fun i h1 h2 => ?_, hI.2.2.set (by simp)⟩⟩
      by_cases e : i = k
      · subst e; rw [mset_hit rfl]
      · rw [mset_miss e]; exact hI.2.1 i h1 (by omega)
  exact H 8 0 σ (by omega) ⟨by omega, fun i h1 h2 => by omega, Fr.rf _ _⟩)

def wp_J7_fill_53178_k (x2 : Int) (σ : Mem) (Q : Mem → Prop) : Prop :=
 ∀ P5 : Int → Int → Int → Mem → Prop,
 (∀ (v1 : Int) (v2 : Int) (v3 : Int) (σ : Mem), (R32 v1 → R32 v2 → R32 v3 → OKm σ →
   ((v3 ≤ v2) →
     Q σ) ∧
    ((v2 < v3) →
     (0 ≤ v2 ∧ v2 < 600) ∧
     ∀ σ3 : Mem, σ3 = mset σ 50 v2 v1 →
     R32 (v2 + 1) ∧ P5 v1 (v2 + 1) v3 σ3)) → P5 v1 v2 v3 σ) →
  P5 x2 0 600 σ
theorem mt_J7_fill_53178_k {d : Nat} (hd : 0 ≤ d) {x2 : Int} {σ : Mem} {Q : Mem → Prop} (hx2 : R32 x2) (hO : OKm σ) (h : wp_J7_fill_53178_k x2 σ Q) : Mt yJ7_fill_53178 cJ7_fill_53178 4 none d [aR (50), aI (x2)] σ (QV Q) := by
  refine Mt.introF (by decide +kernel) (Nat.le_of_ble_eq_true rfl) [(0, aR (50)), (1, aI (x2))] rfl ?_
  unfold wp_J7_fill_53178_k at h
  have h := h (fun (v1 : Int) (v2 : Int) (v3 : Int) (σ : Mem) => R32 v1 → R32 v2 → R32 v3 → OKm σ → G yJ7_fill_53178 cJ7_fill_53178 4 none d (QV Q) 5 [(0, aR (50)), (1, aI (v1)), (2, aI (v2)), (3, aI (v3))] [] σ) ?_
  · refine G_iconst dJ7_fill_53178_0 ?_
    refine G_istore_n (lv' := [(2, aI (0)), (0, aR (50)), (1, aI (x2))]) rfl rfl (by decide) dJ7_fill_53178_1 ?_
    refine G_aload_n 1 rfl rfl dJ7_fill_53178_2 ?_
    refine G_alen (v := 600) (n := 600) rfl (by decide) (by decide) rfl dJ7_fill_53178_3 ?_
    refine G_istore_n (lv' := [(3, aI (600)), (2, aI (0)), (0, aR (50)), (1, aI (x2))]) rfl rfl (by decide) dJ7_fill_53178_4 ?_
    exact G_pick [2, 3, 1, 0] rfl (h hx2 (rL 0 rfl) (rL 600 rfl) hO)
  · intro v1 v2 v3 σ h hv1 hv2 hv3 hO
    have h := h hv1 hv2 hv3 hO
    refine G_iload_n 2 rfl rfl dJ7_fill_53178_5 ?_
    refine G_iload_n 3 rfl rfl dJ7_fill_53178_6 ?_
    refine G_icmp_ge hv2 hv3 dJ7_fill_53178_7 (tgt := 20) (by decide) (fun c1 => ?_) (fun c1 => ?_)
    · have h := h.1 c1
      exact G_vret rfl dJ7_fill_53178_20 ⟨rfl, h⟩ hO
    · have h := h.2 c1
      refine G_aload_n 0 rfl rfl dJ7_fill_53178_10 ?_
      refine G_iload_n 2 rfl rfl dJ7_fill_53178_11 ?_
      refine G_iload_n 1 rfl rfl dJ7_fill_53178_12 ?_
      obtain ⟨c2, h⟩ := h
      obtain ⟨σ3, e5⟩ : ∃ τ : Mem, τ = mset σ 50 v2 v1 := ⟨_, rfl⟩
      have h := h σ3 e5
      have o4 : OKm σ3 := by rw [e5]; exact OKm.seti hO _ _ _ hv1 (isLg_row (show shp 50 = (1, 600, []) from rfl) _)
      refine G_iast (n := 600) rfl c2.1 c2.2 dJ7_fill_53178_13 ?_
      rw [← e5]
      refine G_iinc (lv' := [(2, aI ((v2 + 1))), (0, aR (50)), (1, aI (v1)), (3, aI (v3))]) (k := 2) rfl rfl (by decide) dJ7_fill_53178_14 ?_
      refine G_goto (tgt := 5) dJ7_fill_53178_17 (by decide) ?_
      obtain ⟨c6, h⟩ := h
      exact G_pick [1, 2, 0, 3] rfl (h hv1 c6 hv3 o4)

theorem sp_J7_fill_53178_k (d : Nat) (hd : 0 ≤ d) (σ : Mem) (hO : OKm σ) (x2 : Int) (hx2 : R32 x2) : Mt yJ7_fill_53178 cJ7_fill_53178 4 none d [aR (50), aI (x2)] σ (QV (fun σ' => (∀ i : Int, 0 ≤ i → i < 600 → σ' 50 i = x2) ∧ Fr [50] σ σ')) := mt_J7_fill_53178_k hd hx2 hO (by
  unfold wp_J7_fill_53178_k
  intro P5 h5
  have H : ∀ (n : Nat) (k : Int) (τ : Mem), k + n = 600 → (0 ≤ k ∧ (∀ i : Int, 0 ≤ i → i < k → τ 50 i = x2) ∧ Fr [50] σ τ) → P5 x2 k 600 τ := by
    intro n
    induction n with
    | zero =>
      intro k τ hk hI
      refine h5 _ _ _ _ (fun _ _ _ hOt => ?_)
      refine ⟨fun hh => ?_, fun hh => absurd hh (by omega)⟩
      exact ⟨fun i h1 h2 => hI.2.1 i h1 (by omega), hI.2.2⟩
    | succ n ih =>
      intro k τ hk hI
      refine h5 _ _ _ _ (fun _ _ _ hOt => ?_)
      refine ⟨fun hh => absurd hh (by omega), fun hh => ?_⟩
      refine ⟨by omega, ?_⟩
      intro _ e; subst e
      refine ⟨by unfold R32; omega, ih _ _ (by omega) ⟨by omega, fun i h1 h2 => ?_, hI.2.2.set (by simp)⟩⟩
      by_cases e : i = k
      · subst e; rw [mset_hit rfl]
      · rw [mset_miss e]; exact hI.2.1 i h1 (by omega)
  exact H 600 0 σ (by omega) ⟨by omega, fun i h1 h2 => by omega, Fr.rf _ _⟩)

/-! WAYS, as the two programs lay them. -/
def fup (m : Int → Int) (i v : Int) : Int → Int := fun j => if j = i then v else m j
theorem fup_self (m : Int → Int) (i v : Int) : fup m i v i = v := by unfold fup; rw [if_pos rfl]
theorem fup_ne {m : Int → Int} {i v j : Int} (h : j ≠ i) : fup m i v j = m j := by unfold fup; rw [if_neg h]
def okR (A : Mem) (th wo r : Int) : Bool := decide (r ≠ wo ∧ th ≤ A 1 r)
def initF (a : Int) : Int → Int := fun t => if t = a then 0 else 1000000
def relC (A : Mem) (m : Int → Int) (r : Int) : Int → Int :=
  fup (fup m (A 11 r) (min (m (A 11 r)) (m (A 12 r) + A 13 r))) (A 12 r) (min (fup m (A 11 r) (min (m (A 11 r)) (m (A 12 r) + A 13 r)) (A 12 r)) (fup m (A 11 r) (min (m (A 11 r)) (m (A 12 r) + A 13 r)) (A 11 r) + A 13 r))
def rndC (A : Mem) (th wo : Int) (m : Int → Int) : Nat → (Int → Int)
  | 0 => m
  | n + 1 => if okR A th wo (n : Int) = true then relC A (rndC A th wo m n) (n : Int) else rndC A th wo m n
def sprC (A : Mem) (th wo a : Int) : Nat → (Int → Int)
  | 0 => initF a
  | k + 1 => rndC A th wo (sprC A th wo a k) (A 10 0).toNat
def relM1 (A : Mem) (m : Int → Int) (r : Int) : Int → Int := if m (A 11 r) + A 13 r < m (A 12 r) then fup m (A 12 r) (m (A 11 r) + A 13 r) else m
def relM2 (A : Mem) (m : Int → Int) (r : Int) : Int → Int := if m (A 12 r) + A 13 r < m (A 11 r) then fup m (A 11 r) (m (A 12 r) + A 13 r) else m
def rndM (A : Mem) (th wo : Int) (m : Int → Int) : Nat → (Int → Int)
  | 0 => m
  | n + 1 => if okR A th wo (n : Int) = true then relM2 A (relM1 A (rndM A th wo m n) (n : Int)) (n : Int) else rndM A th wo m n
def sprM (A : Mem) (th wo a : Int) : Nat → (Int → Int)
  | 0 => initF a
  | k + 1 => rndM A th wo (sprM A th wo a k) (A 10 0).toNat
def okF (m : Int → Int) : Prop := ∀ t : Int, 0 ≤ m t ∧ m t ≤ 1000000
theorem okF_init (a : Int) : okF (initF a) := fun t => by unfold initF; split <;> omega
theorem okF_fup {m : Int → Int} {i v : Int} (h : okF m) (hv : 0 ≤ v ∧ v ≤ 1000000) : okF (fup m i v) := fun t => by
  unfold fup; split
  · exact hv
  · exact h t

theorem okF_relC {A : Mem} {m : Int → Int} {r : Int} (h : okF m) (hl : 0 ≤ A 13 r) : okF (relC A m r) := by
  unfold relC
  have h1 := h (A 11 r)
  have h2 := h (A 12 r)
  have hu : okF (fup m (A 11 r) (min (m (A 11 r)) (m (A 12 r) + A 13 r))) := okF_fup h (by omega)
  have h3 := hu (A 12 r)
  have h4 := hu (A 11 r)
  exact okF_fup hu (by omega)
theorem okF_rndC {A : Mem} {th wo : Int} {m : Int → Int} (h : okF m) (hI : InvA A) : ∀ n : Nat, (n : Int) ≤ A 10 0 → okF (rndC A th wo m n)
  | 0, _ => h
  | n + 1, hn => by
    have ih := okF_rndC (th := th) (wo := wo) h hI n (by omega)
    have := (hI.2.1 (n : Int) (by omega) (by omega)).2
    unfold rndC
    split
    · exact okF_relC ih (by omega)
    · exact ih
theorem okF_sprC {A : Mem} {th wo a : Int} (hI : InvA A) : ∀ k : Nat, okF (sprC A th wo a k)
  | 0 => okF_init a
  | k + 1 => okF_rndC (okF_sprC hI k) hI _ (by have := hI.1; omega)
theorem okF_relM1 {A : Mem} {m : Int → Int} {r : Int} (h : okF m) (hl : 0 ≤ A 13 r) : okF (relM1 A m r) := by
  unfold relM1
  have h1 := h (A 11 r)
  have h2 := h (A 12 r)
  split
  · exact okF_fup h (by omega)
  · exact h
theorem okF_relM2 {A : Mem} {m : Int → Int} {r : Int} (h : okF m) (hl : 0 ≤ A 13 r) : okF (relM2 A m r) := by
  unfold relM2
  have h1 := h (A 11 r)
  have h2 := h (A 12 r)
  split
  · exact okF_fup h (by omega)
  · exact h
theorem okF_rndM {A : Mem} {th wo : Int} {m : Int → Int} (h : okF m) (hI : InvA A) : ∀ n : Nat, (n : Int) ≤ A 10 0 → okF (rndM A th wo m n)
  | 0, _ => h
  | n + 1, hn => by
    have ih := okF_rndM (th := th) (wo := wo) h hI n (by omega)
    have := (hI.2.1 (n : Int) (by omega) (by omega)).2
    unfold rndM
    split
    · exact okF_relM2 (okF_relM1 ih (by omega)) (by omega)
    · exact ih
theorem okF_sprM {A : Mem} {th wo a : Int} (hI : InvA A) : ∀ k : Nat, okF (sprM A th wo a k)
  | 0 => okF_init a
  | k + 1 => okF_rndM (okF_sprM hI k) hI _ (by have := hI.1; omega)
def inF (τ : Mem) (p : Nat) (m : Int → Int) : Prop := ∀ t : Int, 0 ≤ t → t < 8 → τ p t = m t
theorem inF_fup {τ : Mem} {p : Nat} {m : Int → Int} {i v : Int} (h : inF τ p m) : inF (mset τ p i v) p (fup m i v) := fun t h1 h2 => by
  rw [mset_same]; unfold fup; split
  · rfl
  · exact h t h1 h2

theorem inF.ne {τ τ' : Mem} {p : Nat} {m : Int → Int} (h : inF τ p m) (he : τ' p = τ p) : inF τ' p m := fun t h1 h2 => by rw [he]; exact h t h1 h2

def wp_X4_holds (x1 : Int) (σ : Mem) (Q : Int → Mem → Prop) : Prop :=
  (0 ≤ x1 ∧ x1 < 16) ∧
   (((σ 11 x1) ≤ 0) →
    Q 0 σ) ∧
   ((0 < (σ 11 x1)) →
    Q 1 σ)
theorem mt_X4_holds {d : Nat} (hd : 0 ≤ d) {x1 : Int} {σ : Mem} {Q : Int → Mem → Prop} (hx1 : R32 x1) (hO : OKm σ) (h : wp_X4_holds x1 σ Q) : Mt yX4_holds cX4_holds 2 (some .boolean) d [aR (40), aI (x1)] σ (QI Q) := by
  refine Mt.intro (by decide +kernel) (Nat.le_of_ble_eq_true rfl) [(0, aR (40)), (1, aI (x1))] rfl ?_
  unfold wp_X4_holds at h
  refine G_aload_n 0 rfl rfl dX4_holds_0 ?_
  refine G_get (k := 1) (kd := (2, 10)) (v := aR 10) gf_X4_41 rfl rfl rfl rfl dX4_holds_1 ?_
  refine G_get (k := 0) (kd := (3, 1)) (v := aR (11)) gf_X4_45 rfl rfl rfl rfl dX4_holds_4 ?_
  refine G_iload_n 1 rfl rfl dX4_holds_7 ?_
  obtain ⟨c1, h⟩ := h
  refine G_iald (n := 16) rfl c1.1 c1.2 dX4_holds_8 ?_
  refine G_if_le (OKm.i hO 11 x1 (isLg_row (show shp 11 = (1, 16, []) from rfl) _)) dX4_holds_9 (tgt := 16) (by decide) (fun c2 => ?_) (fun c2 => ?_)
  · have h := h.1 c2
    refine G_iconst dX4_holds_16 ?_
    exact G_zret rfl (by decide) dX4_holds_17 ⟨_, rfl, h⟩ hO
  · have h := h.2 c2
    refine G_iconst dX4_holds_12 ?_
    refine G_goto (tgt := 17) dX4_holds_13 (by decide) ?_
    exact G_zret rfl (by decide) dX4_holds_17 ⟨_, rfl, h⟩ hO

theorem sp_X4_holds (d : Nat) (hd : 0 ≤ d) (σ : Mem) (hO : OKm σ) (x1 : Int) (hx1 : R32 x1) (hpre : 0 ≤ x1 ∧ x1 < 16) : Mt yX4_holds cX4_holds 2 (some .boolean) d [aR (40), aI (x1)] σ (QI (fun v σ' => bI (0 < σ 11 x1) = v ∧ σ = σ')) := mt_X4_holds hd hx1 hO (by
  unfold wp_X4_holds
  refine ⟨hpre, fun h => ⟨?_, rfl⟩, fun h => ⟨?_, rfl⟩⟩
  · unfold bI; rw [if_neg (by omega)]
  · unfold bI; rw [if_pos h])

def netR (A : Mem) (t r : Int) : Bool := decide (0 < A 1 r ∧ (A 11 r = t ∨ A 12 r = t))
def degN (A : Mem) (t : Int) : Nat → Int
  | 0 => 0
  | n + 1 => degN A t n + (if netR A t (n : Int) = true then 1 else 0)
def degS (A : Mem) (t : Int) : Int := degN A t (A 10 0).toNat
theorem degN_r (A : Mem) (t : Int) : ∀ n : Nat, 0 ≤ degN A t n ∧ degN A t n ≤ n
  | 0 => by simp [degN]
  | n + 1 => by have := degN_r A t n; unfold degN; split <;> omega

def wp_X4_roadsAt (x1 : Int) (σ : Mem) (Q : Int → Mem → Prop) : Prop :=
 ∀ P4 : Int → Int → Int → Mem → Prop,
 (∀ (v1 : Int) (v2 : Int) (v3 : Int) (σ : Mem), (R32 v1 → R32 v2 → R32 v3 → OKm σ →
   (((σ 1 8) ≤ v3) →
     Q v2 σ) ∧
    ((v3 < (σ 1 8)) →
     (0 ≤ v3 ∧ v3 < 16) ∧
     ((¬ (0 < σ 11 v3)) →
      R32 (v3 + 1) ∧ P4 v1 v2 (v3 + 1) σ) ∧
     ((0 < σ 11 v3) →
      (0 ≤ v3 ∧ v3 < 16) ∧
      ((¬ (σ 2 v3 = v1 ∨ σ 3 v3 = v1)) →
       R32 (v3 + 1) ∧ P4 v1 v2 (v3 + 1) σ) ∧
      ((σ 2 v3 = v1 ∨ σ 3 v3 = v1) →
       R32 (v2 + 1) ∧ R32 (v3 + 1) ∧ P4 v1 (v2 + 1) (v3 + 1) σ)))) → P4 v1 v2 v3 σ) →
  P4 x1 0 0 σ
theorem mt_X4_roadsAt {d : Nat} (hd : 1 ≤ d) {x1 : Int} {σ : Mem} {Q : Int → Mem → Prop} (hx1 : R32 x1) (hO : OKm σ) (h : wp_X4_roadsAt x1 σ Q) : Mt yX4_roadsAt cX4_roadsAt 4 (some .int) d [aR (40), aI (x1)] σ (QI Q) := by
  refine Mt.intro (by decide +kernel) (Nat.le_of_ble_eq_true rfl) [(0, aR (40)), (1, aI (x1))] rfl ?_
  unfold wp_X4_roadsAt at h
  have h := h (fun (v1 : Int) (v2 : Int) (v3 : Int) (σ : Mem) => R32 v1 → R32 v2 → R32 v3 → OKm σ → G yX4_roadsAt cX4_roadsAt 4 (some .int) d (QI Q) 4 [(0, aR (40)), (1, aI (v1)), (2, aI (v2)), (3, aI (v3))] [] σ) ?_
  · refine G_iconst dX4_roadsAt_0 ?_
    refine G_istore_n (lv' := [(2, aI (0)), (0, aR (40)), (1, aI (x1))]) rfl rfl (by decide) dX4_roadsAt_1 ?_
    refine G_iconst dX4_roadsAt_2 ?_
    refine G_istore_n (lv' := [(3, aI (0)), (2, aI (0)), (0, aR (40)), (1, aI (x1))]) rfl rfl (by decide) dX4_roadsAt_3 ?_
    exact G_pick [2, 3, 1, 0] rfl (h hx1 (rL 0 rfl) (rL 0 rfl) hO)
  · intro v1 v2 v3 σ h hv1 hv2 hv3 hO
    have h := h hv1 hv2 hv3 hO
    refine G_iload_n 3 rfl rfl dX4_roadsAt_4 ?_
    refine G_aload_n 0 rfl rfl dX4_roadsAt_5 ?_
    refine G_get (k := 0) (kd := (2, 1)) (v := aR 1) gf_X4_37 rfl rfl rfl rfl dX4_roadsAt_6 ?_
    refine G_get (k := 8) (kd := (0, 0)) (v := aI (σ 1 8)) gf_X4_50 rfl rfl rfl rfl dX4_roadsAt_9 ?_
    refine G_icmp_ge hv3 (OKm.i hO 1 8 rfl) dX4_roadsAt_12 (tgt := 44) (by decide) (fun c1 => ?_) (fun c1 => ?_)
    · have h := h.1 c1
      refine G_iload_n 2 rfl rfl dX4_roadsAt_44 ?_
      exact G_iret rfl hv2 dX4_roadsAt_45 ⟨_, rfl, h⟩ hO
    · have h := h.2 c1
      refine G_aload_n 0 rfl rfl dX4_roadsAt_15 ?_
      refine G_iload_n 3 rfl rfl dX4_roadsAt_16 ?_
      obtain ⟨c2, h⟩ := h
      refine G_callV (as := [_]) cf_X4_56 rfl rfl rfl (sp_X4_holds (d - 1) (by omega) _ hO _ hv3 c2) (by omega) rfl rfl (Nat.le_of_ble_eq_true rfl) dX4_roadsAt_17 ?_
      rintro _ _ ⟨_, rfl, rfl, rfl⟩ o4 r3
      refine G_if_eq (bI_R _) dX4_roadsAt_20 (tgt := 38) (by decide) (fun c5 => ?_) (fun c5 => ?_)
      · have h := h.1 ((bI_0 _).mp c5)
        refine G_iinc (lv' := [(3, aI ((v3 + 1))), (0, aR (40)), (1, aI (v1)), (2, aI (v2))]) (k := 3) rfl rfl (by decide) dX4_roadsAt_38 ?_
        refine G_goto (tgt := 4) dX4_roadsAt_41 (by decide) ?_
        obtain ⟨c6, h⟩ := h
        exact G_pick [1, 2, 3, 0] rfl (h hv1 hv2 c6 hO)
      · have h := h.2 (bI_ne c5)
        refine G_aload_n 0 rfl rfl dX4_roadsAt_23 ?_
        refine G_get (k := 0) (kd := (2, 1)) (v := aR 1) gf_X4_37 rfl rfl rfl rfl dX4_roadsAt_24 ?_
        refine G_iload_n 3 rfl rfl dX4_roadsAt_27 ?_
        refine G_iload_n 1 rfl rfl dX4_roadsAt_28 ?_
        obtain ⟨c7, h⟩ := h
        refine G_callV (as := [_, _]) cf_X4_60 rfl rfl rfl (sp_X10_touches (d - 1) (by omega) _ hO _ hv3 _ hv1 c7) (by omega) rfl rfl (Nat.le_of_ble_eq_true rfl) dX4_roadsAt_29 ?_
        rintro _ _ ⟨_, rfl, rfl, rfl⟩ o9 r8
        refine G_if_eq (bI_R _) dX4_roadsAt_32 (tgt := 38) (by decide) (fun c10 => ?_) (fun c10 => ?_)
        · have h := h.1 ((bI_0 _).mp c10)
          refine G_iinc (lv' := [(3, aI ((v3 + 1))), (0, aR (40)), (1, aI (v1)), (2, aI (v2))]) (k := 3) rfl rfl (by decide) dX4_roadsAt_38 ?_
          refine G_goto (tgt := 4) dX4_roadsAt_41 (by decide) ?_
          obtain ⟨c11, h⟩ := h
          exact G_pick [1, 2, 3, 0] rfl (h hv1 hv2 c11 hO)
        · have h := h.2 (bI_ne c10)
          refine G_iinc (lv' := [(2, aI ((v2 + 1))), (0, aR (40)), (1, aI (v1)), (3, aI (v3))]) (k := 2) rfl rfl (by decide) dX4_roadsAt_35 ?_
          refine G_iinc (lv' := [(3, aI ((v3 + 1))), (2, aI ((v2 + 1))), (0, aR (40)), (1, aI (v1))]) (k := 3) rfl rfl (by decide) dX4_roadsAt_38 ?_
          refine G_goto (tgt := 4) dX4_roadsAt_41 (by decide) ?_
          obtain ⟨c12, h⟩ := h
          obtain ⟨c13, h⟩ := h
          exact G_pick [2, 3, 1, 0] rfl (h hv1 c12 c13 hO)

theorem sp_X4_roadsAt (d : Nat) (hd : 1 ≤ d) (σ : Mem) (hO : OKm σ) (x1 : Int) (hx1 : R32 x1) (A : Mem) (tx : Nat → Txt) (hpre : vwC σ A tx) : Mt yX4_roadsAt cX4_roadsAt 4 (some .int) d [aR (40), aI (x1)] σ (QI (fun v σ' => v = degS A x1 ∧ σ' = σ)) := mt_X4_roadsAt hd hx1 hO (by
  unfold wp_X4_roadsAt
  intro P4 h4
  have hV := hpre
  have hI := hV.2.2.1
  have hc := hI.1
  have e8 : σ 1 8 = A 10 0 := hV.1.1.1
  have e9 : σ 1 9 = A 10 1 := hV.1.1.2.1
  have H : ∀ (n k : Nat), k + n = (A 10 0).toNat → P4 x1 (degN A x1 k) (k : Int) σ := by
    intro n
    induction n with
    | zero =>
      intro k hk
      have hk2 : k = (A 10 0).toNat := by omega
      subst hk2
      exact h4 _ _ _ _ (fun _ _ _ _ => ⟨fun _ => ⟨rfl, rfl⟩, fun h => absurd h (by omega)⟩)
    | succ n ih =>
      intro k hk
      have ih1 := ih (k + 1) (by omega)
      have hr := degN_r A x1 k
      have t1 := hV.1.2.1 (k : Int) (by omega) (by omega)
      have n1 := hV.2.1.2.1 (k : Int) (by omega) (by omega)
      have s2 : σ 2 (k : Int) = A 11 (k : Int) := t1.1
      have s3 : σ 3 (k : Int) = A 12 (k : Int) := t1.2.1
      have yes : netR A x1 (k : Int) = true → P4 x1 (degN A x1 k + 1) ((k : Int) + 1) σ := fun h => by
        have e : degN A x1 (k + 1) = degN A x1 k + 1 := by show _ + (if _ then _ else _) = _; rw [if_pos h]
        rw [e] at ih1; exact ih1
      have no : netR A x1 (k : Int) = false → P4 x1 (degN A x1 k) ((k : Int) + 1) σ := fun h => by
        have e : degN A x1 (k + 1) = degN A x1 k := by show _ + (if _ then _ else _) = _; rw [h]; simp
        rw [e] at ih1; exact ih1
      refine h4 _ _ _ _ (fun _ _ _ _ => ⟨fun h => absurd h (by omega), fun _ => ?_⟩)
      rw [n1, s2, s3]
      exact ⟨by omega, fun h => ⟨by unfold R32; omega, no (decide_eq_false (fun q => h q.1))⟩, fun h => ⟨by omega, fun h2 => ⟨by unfold R32; omega, no (decide_eq_false (fun q => h2 q.2))⟩, fun h2 => ⟨by unfold R32; omega, by unfold R32; omega, yes (decide_eq_true ⟨h, h2⟩)⟩⟩⟩
  exact H _ 0 (Nat.zero_add _))

def wp_X4_spread (x1 : Int) (x2 : Int) (x3 : Int) (σ : Mem) (Q : Mem → Prop) : Prop :=
 ∀ P19 : Int → Int → Int → Mem → Prop,
 ∀ P29 : Int → Int → Int → Int → Mem → Prop,
 (∀ (v2 : Int) (v3 : Int) (v4 : Int) (σ : Mem), (R32 v2 → R32 v3 → R32 v4 → OKm σ →
   ((8 ≤ v4) →
     Q σ) ∧
    ((v4 < 8) →
     P29 v2 v3 v4 0 σ)) → P19 v2 v3 v4 σ) →
 (∀ (v2 : Int) (v3 : Int) (v4 : Int) (v5 : Int) (σ : Mem), (R32 v2 → R32 v3 → R32 v4 → R32 v5 → OKm σ →
   (((σ 1 8) ≤ v5) →
     R32 (v4 + 1) ∧ P19 v2 v3 (v4 + 1) σ) ∧
    ((v5 < (σ 1 8)) →
     ((v5 = v3) →
      R32 (v5 + 1) ∧ P29 v2 v3 v4 (v5 + 1) σ) ∧
     ((v5 ≠ v3) →
      (0 ≤ v5 ∧ v5 < 16) ∧
      (((σ 11 v5) < v2) →
       R32 (v5 + 1) ∧ P29 v2 v3 v4 (v5 + 1) σ) ∧
      ((v2 ≤ (σ 11 v5)) →
       (0 ≤ v5 ∧ v5 < 16) ∧
       (0 ≤ v5 ∧ v5 < 16) ∧
       (0 ≤ (σ 2 v5) ∧ (σ 2 v5) < 8) ∧
       (0 ≤ (σ 3 v5) ∧ (σ 3 v5) < 8) ∧
       (0 ≤ v5 ∧ v5 < 16) ∧
       R32 ((σ 41 (σ 3 v5)) + (σ 4 v5)) ∧
       (0 ≤ (σ 2 v5) ∧ (σ 2 v5) < 8) ∧
       ∀ σ25 : Mem, σ25 = mset σ 41 (σ 2 v5) (min (σ 41 (σ 2 v5)) ((σ 41 (σ 3 v5)) + (σ 4 v5))) →
       (0 ≤ (σ 3 v5) ∧ (σ 3 v5) < 8) ∧
       (0 ≤ (σ 2 v5) ∧ (σ 2 v5) < 8) ∧
       (0 ≤ v5 ∧ v5 < 16) ∧
       R32 ((σ25 41 (σ 2 v5)) + (σ25 4 v5)) ∧
       (0 ≤ (σ 3 v5) ∧ (σ 3 v5) < 8) ∧
       ∀ σ33 : Mem, σ33 = mset σ25 41 (σ 3 v5) (min (σ25 41 (σ 3 v5)) ((σ25 41 (σ 2 v5)) + (σ25 4 v5))) →
       R32 (v5 + 1) ∧ P29 v2 v3 v4 (v5 + 1) σ33)))) → P29 v2 v3 v4 v5 σ) →
  ∀ σ3 : Mem, OKm σ3 → ((∀ i : Int, 0 ≤ i → i < 8 → σ3 41 i = (1000000 : Int)) ∧ Fr [41] σ σ3) →
   (0 ≤ x1 ∧ x1 < 8) ∧
   ∀ σ7 : Mem, σ7 = mset σ3 41 x1 0 →
   P19 x2 x3 1 σ7
theorem mt_X4_spread {d : Nat} (hd : 1 ≤ d) {x1 : Int} {x2 : Int} {x3 : Int} {σ : Mem} {Q : Mem → Prop} (hx1 : R32 x1) (hx2 : R32 x2) (hx3 : R32 x3) (hO : OKm σ) (h : wp_X4_spread x1 x2 x3 σ Q) : Mt yX4_spread cX4_spread 8 none d [aR (40), aI (x1), aI (x2), aI (x3)] σ (QV Q) := by
  refine Mt.intro (by decide +kernel) (Nat.le_of_ble_eq_true rfl) [(0, aR (40)), (1, aI (x1)), (2, aI (x2)), (3, aI (x3))] rfl ?_
  unfold wp_X4_spread at h
  have h := h (fun (v2 : Int) (v3 : Int) (v4 : Int) (σ : Mem) => R32 v2 → R32 v3 → R32 v4 → OKm σ → G yX4_spread cX4_spread 8 none d (QV Q) 19 [(0, aR (40)), (2, aI (v2)), (3, aI (v3)), (4, aI (v4))] [] σ)
    (fun (v2 : Int) (v3 : Int) (v4 : Int) (v5 : Int) (σ : Mem) => R32 v2 → R32 v3 → R32 v4 → R32 v5 → OKm σ → G yX4_spread cX4_spread 8 none d (QV Q) 29 [(0, aR (40)), (2, aI (v2)), (3, aI (v3)), (4, aI (v4)), (5, aI (v5))] [] σ) ?_ ?_
  · refine G_aload_n 0 rfl rfl dX4_spread_0 ?_
    refine G_get (k := 2) (kd := (3, 1)) (v := aR (41)) gf_X4_9 rfl rfl rfl rfl dX4_spread_1 ?_
    refine G_ldc (n := 1000000) rfl (by decide) kc_X4_64 dX4_spread_4 ?_
    refine G_callS (as := [_, _]) cf_X4_65 rfl (sp_J7_fill_53178_m (d - 1) (by omega) _ hO _ (rL 1000000 rfl)) (by omega) rfl rfl (Nat.le_of_ble_eq_true rfl) dX4_spread_6 ?_
    rintro _ σ3 ⟨rfl, z5⟩ o2 r1
    have h := h _ o2 z5
    refine G_aload_n 0 rfl rfl dX4_spread_9 ?_
    refine G_get (k := 2) (kd := (3, 1)) (v := aR (41)) gf_X4_9 rfl rfl rfl rfl dX4_spread_10 ?_
    refine G_iload_n 1 rfl rfl dX4_spread_13 ?_
    refine G_iconst dX4_spread_14 ?_
    obtain ⟨c6, h⟩ := h
    obtain ⟨σ7, e9⟩ : ∃ τ : Mem, τ = mset σ3 41 x1 0 := ⟨_, rfl⟩
    have h := h σ7 e9
    have o8 : OKm σ7 := by rw [e9]; exact OKm.seti o2 _ _ _ (rL 0 rfl) (isLg_row (show shp 41 = (1, 8, []) from rfl) _)
    refine G_iast (n := 8) rfl c6.1 c6.2 dX4_spread_15 ?_
    rw [← e9]
    refine G_iconst dX4_spread_16 ?_
    refine G_istore (lv' := [(4, aI (1)), (0, aR (40)), (1, aI (x1)), (2, aI (x2)), (3, aI (x3))]) rfl (by decide) dX4_spread_17 ?_
    exact G_pick [1, 3, 4, 0] rfl (h hx2 hx3 (rL 1 rfl) o8)
  · intro v2 v3 v4 σ h hv2 hv3 hv4 hO
    have h := h hv2 hv3 hv4 hO
    refine G_iload 3 rfl dX4_spread_19 ?_
    refine G_bipush (by decide) dX4_spread_21 ?_
    refine G_icmp_ge hv4 (rL 8 rfl) dX4_spread_23 (tgt := 167) (by decide) (fun c10 => ?_) (fun c10 => ?_)
    · have h := h.1 c10
      exact G_vret rfl dX4_spread_167 ⟨rfl, h⟩ hO
    · have h := h.2 c10
      refine G_iconst dX4_spread_26 ?_
      refine G_istore (lv' := [(5, aI (0)), (0, aR (40)), (2, aI (v2)), (3, aI (v3)), (4, aI (v4))]) rfl (by decide) dX4_spread_27 ?_
      exact G_pick [1, 2, 3, 4, 0] rfl (h hv2 hv3 hv4 (rL 0 rfl) hO)
  · intro v2 v3 v4 v5 σ h hv2 hv3 hv4 hv5 hO
    have h := h hv2 hv3 hv4 hv5 hO
    refine G_iload 4 rfl dX4_spread_29 ?_
    refine G_aload_n 0 rfl rfl dX4_spread_31 ?_
    refine G_get (k := 0) (kd := (2, 1)) (v := aR 1) gf_X4_37 rfl rfl rfl rfl dX4_spread_32 ?_
    refine G_get (k := 8) (kd := (0, 0)) (v := aI (σ 1 8)) gf_X4_50 rfl rfl rfl rfl dX4_spread_35 ?_
    refine G_icmp_ge hv5 (OKm.i hO 1 8 rfl) dX4_spread_38 (tgt := 161) (by decide) (fun c11 => ?_) (fun c11 => ?_)
    · have h := h.1 c11
      refine G_iinc (lv' := [(4, aI ((v4 + 1))), (0, aR (40)), (2, aI (v2)), (3, aI (v3)), (5, aI (v5))]) (k := 3) rfl rfl (by decide) dX4_spread_161 ?_
      refine G_goto (tgt := 19) dX4_spread_164 (by decide) ?_
      obtain ⟨c12, h⟩ := h
      exact G_pick [1, 2, 3, 0] rfl (h hv2 hv3 c12 hO)
    · have h := h.2 c11
      refine G_iload 4 rfl dX4_spread_41 ?_
      refine G_iload_n 2 rfl rfl dX4_spread_43 ?_
      refine G_icmp_eq hv5 hv3 dX4_spread_44 (tgt := 155) (by decide) (fun c13 => ?_) (fun c13 => ?_)
      · have h := h.1 c13
        refine G_iinc (lv' := [(5, aI ((v5 + 1))), (0, aR (40)), (2, aI (v2)), (3, aI (v3)), (4, aI (v4))]) (k := 4) rfl rfl (by decide) dX4_spread_155 ?_
        refine G_goto (tgt := 29) dX4_spread_158 (by decide) ?_
        obtain ⟨c14, h⟩ := h
        exact G_pick [1, 2, 3, 4, 0] rfl (h hv2 hv3 hv4 c14 hO)
      · have h := h.2 c13
        refine G_aload_n 0 rfl rfl dX4_spread_47 ?_
        refine G_get (k := 1) (kd := (2, 10)) (v := aR 10) gf_X4_41 rfl rfl rfl rfl dX4_spread_48 ?_
        refine G_get (k := 0) (kd := (3, 1)) (v := aR (11)) gf_X4_45 rfl rfl rfl rfl dX4_spread_51 ?_
        refine G_iload 4 rfl dX4_spread_54 ?_
        obtain ⟨c15, h⟩ := h
        refine G_iald (n := 16) rfl c15.1 c15.2 dX4_spread_56 ?_
        refine G_iload_n 1 rfl rfl dX4_spread_57 ?_
        refine G_icmp_lt (OKm.i hO 11 v5 (isLg_row (show shp 11 = (1, 16, []) from rfl) _)) hv2 dX4_spread_58 (tgt := 155) (by decide) (fun c16 => ?_) (fun c16 => ?_)
        · have h := h.1 c16
          refine G_iinc (lv' := [(5, aI ((v5 + 1))), (0, aR (40)), (2, aI (v2)), (3, aI (v3)), (4, aI (v4))]) (k := 4) rfl rfl (by decide) dX4_spread_155 ?_
          refine G_goto (tgt := 29) dX4_spread_158 (by decide) ?_
          obtain ⟨c17, h⟩ := h
          exact G_pick [1, 2, 3, 4, 0] rfl (h hv2 hv3 hv4 c17 hO)
        · have h := h.2 c16
          refine G_aload_n 0 rfl rfl dX4_spread_61 ?_
          refine G_get (k := 0) (kd := (2, 1)) (v := aR 1) gf_X4_37 rfl rfl rfl rfl dX4_spread_62 ?_
          refine G_get (k := 0) (kd := (3, 1)) (v := aR (2)) gf_X4_71 rfl rfl rfl rfl dX4_spread_65 ?_
          refine G_iload 4 rfl dX4_spread_68 ?_
          obtain ⟨c18, h⟩ := h
          refine G_iald (n := 16) rfl c18.1 c18.2 dX4_spread_70 ?_
          refine G_istore (lv' := [(6, aI ((σ 2 v5))), (0, aR (40)), (2, aI (v2)), (3, aI (v3)), (4, aI (v4)), (5, aI (v5))]) rfl (by decide) dX4_spread_71 ?_
          refine G_aload_n 1 rfl rfl dX4_spread_73 ?_
          refine G_get (k := 0) (kd := (2, 1)) (v := aR 1) gf_X4_37 rfl rfl rfl rfl dX4_spread_74 ?_
          refine G_get (k := 1) (kd := (3, 2)) (v := aR (3)) gf_X4_74 rfl rfl rfl rfl dX4_spread_77 ?_
          refine G_iload 5 rfl dX4_spread_80 ?_
          obtain ⟨c19, h⟩ := h
          refine G_iald (n := 16) rfl c19.1 c19.2 dX4_spread_82 ?_
          refine G_istore (lv' := [(7, aI ((σ 3 v5))), (6, aI ((σ 2 v5))), (0, aR (40)), (2, aI (v2)), (3, aI (v3)), (4, aI (v4)), (5, aI (v5))]) rfl (by decide) dX4_spread_83 ?_
          refine G_aload_n 2 rfl rfl dX4_spread_85 ?_
          refine G_get (k := 2) (kd := (3, 1)) (v := aR (41)) gf_X4_9 rfl rfl rfl rfl dX4_spread_86 ?_
          refine G_iload 1 rfl dX4_spread_89 ?_
          refine G_aload_n 2 rfl rfl dX4_spread_91 ?_
          refine G_get (k := 2) (kd := (3, 1)) (v := aR (41)) gf_X4_9 rfl rfl rfl rfl dX4_spread_92 ?_
          refine G_iload 1 rfl dX4_spread_95 ?_
          obtain ⟨c20, h⟩ := h
          refine G_iald (n := 8) rfl c20.1 c20.2 dX4_spread_97 ?_
          refine G_aload_n 2 rfl rfl dX4_spread_98 ?_
          refine G_get (k := 2) (kd := (3, 1)) (v := aR (41)) gf_X4_9 rfl rfl rfl rfl dX4_spread_99 ?_
          refine G_iload 0 rfl dX4_spread_102 ?_
          obtain ⟨c21, h⟩ := h
          refine G_iald (n := 8) rfl c21.1 c21.2 dX4_spread_104 ?_
          refine G_aload_n 2 rfl rfl dX4_spread_105 ?_
          refine G_get (k := 0) (kd := (2, 1)) (v := aR 1) gf_X4_37 rfl rfl rfl rfl dX4_spread_106 ?_
          refine G_get (k := 2) (kd := (3, 3)) (v := aR (4)) gf_X4_77 rfl rfl rfl rfl dX4_spread_109 ?_
          refine G_iload 6 rfl dX4_spread_112 ?_
          obtain ⟨c22, h⟩ := h
          refine G_iald (n := 16) rfl c22.1 c22.2 dX4_spread_114 ?_
          refine G_iadd dX4_spread_115 ?_
          obtain ⟨c23, h⟩ := h
          refine G_mmin rfl (OKm.i hO 41 (σ 2 v5) (isLg_row (show shp 41 = (1, 8, []) from rfl) _)) c23 (Nat.le_of_ble_eq_true rfl) sf_X4_80 dX4_spread_116 ?_
          obtain ⟨c24, h⟩ := h
          obtain ⟨σ25, e27⟩ : ∃ τ : Mem, τ = mset σ 41 (σ 2 v5) (min (σ 41 (σ 2 v5)) ((σ 41 (σ 3 v5)) + (σ 4 v5))) := ⟨_, rfl⟩
          have h := h σ25 e27
          have o26 : OKm σ25 := by rw [e27]; exact OKm.seti hO _ _ _ (r32_min (OKm.i hO 41 (σ 2 v5) (isLg_row (show shp 41 = (1, 8, []) from rfl) _)) c23) (isLg_row (show shp 41 = (1, 8, []) from rfl) _)
          refine G_iast (n := 8) rfl c24.1 c24.2 dX4_spread_119 ?_
          rw [← e27]
          refine G_aload_n 2 rfl rfl dX4_spread_120 ?_
          refine G_get (k := 2) (kd := (3, 1)) (v := aR (41)) gf_X4_9 rfl rfl rfl rfl dX4_spread_121 ?_
          refine G_iload 0 rfl dX4_spread_124 ?_
          refine G_aload_n 2 rfl rfl dX4_spread_126 ?_
          refine G_get (k := 2) (kd := (3, 1)) (v := aR (41)) gf_X4_9 rfl rfl rfl rfl dX4_spread_127 ?_
          refine G_iload 0 rfl dX4_spread_130 ?_
          obtain ⟨c28, h⟩ := h
          refine G_iald (n := 8) rfl c28.1 c28.2 dX4_spread_132 ?_
          refine G_aload_n 2 rfl rfl dX4_spread_133 ?_
          refine G_get (k := 2) (kd := (3, 1)) (v := aR (41)) gf_X4_9 rfl rfl rfl rfl dX4_spread_134 ?_
          refine G_iload 1 rfl dX4_spread_137 ?_
          obtain ⟨c29, h⟩ := h
          refine G_iald (n := 8) rfl c29.1 c29.2 dX4_spread_139 ?_
          refine G_aload_n 2 rfl rfl dX4_spread_140 ?_
          refine G_get (k := 0) (kd := (2, 1)) (v := aR 1) gf_X4_37 rfl rfl rfl rfl dX4_spread_141 ?_
          refine G_get (k := 2) (kd := (3, 3)) (v := aR (4)) gf_X4_77 rfl rfl rfl rfl dX4_spread_144 ?_
          refine G_iload 6 rfl dX4_spread_147 ?_
          obtain ⟨c30, h⟩ := h
          refine G_iald (n := 16) rfl c30.1 c30.2 dX4_spread_149 ?_
          refine G_iadd dX4_spread_150 ?_
          obtain ⟨c31, h⟩ := h
          refine G_mmin rfl (OKm.i o26 41 (σ 3 v5) (isLg_row (show shp 41 = (1, 8, []) from rfl) _)) c31 (Nat.le_of_ble_eq_true rfl) sf_X4_80 dX4_spread_151 ?_
          obtain ⟨c32, h⟩ := h
          obtain ⟨σ33, e35⟩ : ∃ τ : Mem, τ = mset σ25 41 (σ 3 v5) (min (σ25 41 (σ 3 v5)) ((σ25 41 (σ 2 v5)) + (σ25 4 v5))) := ⟨_, rfl⟩
          have h := h σ33 e35
          have o34 : OKm σ33 := by rw [e35]; exact OKm.seti o26 _ _ _ (r32_min (OKm.i o26 41 (σ 3 v5) (isLg_row (show shp 41 = (1, 8, []) from rfl) _)) c31) (isLg_row (show shp 41 = (1, 8, []) from rfl) _)
          refine G_iast (n := 8) rfl c32.1 c32.2 dX4_spread_154 ?_
          rw [← e35]
          refine G_iinc (lv' := [(5, aI ((v5 + 1))), (7, aI ((σ 3 v5))), (6, aI ((σ 2 v5))), (0, aR (40)), (2, aI (v2)), (3, aI (v3)), (4, aI (v4))]) (k := 6) rfl rfl (by decide) dX4_spread_155 ?_
          refine G_goto (tgt := 29) dX4_spread_158 (by decide) ?_
          obtain ⟨c36, h⟩ := h
          exact G_pick [3, 4, 5, 6, 0] rfl (h hv2 hv3 hv4 c36 o34)

theorem sp_X4_spread (d : Nat) (hd : 1 ≤ d) (σ : Mem) (hO : OKm σ) (x1 : Int) (hx1 : R32 x1) (x2 : Int) (hx2 : R32 x2) (x3 : Int) (hx3 : R32 x3) (A : Mem) (tx : Nat → Txt) (hpre : vwC σ A tx ∧ (0 ≤ x1 ∧ x1 ≤ 7)) : Mt yX4_spread cX4_spread 8 none d [aR (40), aI (x1), aI (x2), aI (x3)] σ (QV (fun σ' => inF σ' 41 (sprC A x2 x3 x1 7) ∧ Fr [41] σ σ')) := mt_X4_spread hd hx1 hx2 hx3 hO (by
  unfold wp_X4_spread
  intro P19 P29 h19 h29
  obtain ⟨hV, hx⟩ := hpre
  have hI := hV.2.2.1
  have hc := hI.1
  have key : ∀ τ : Mem, Fr [41] σ τ → vwC τ A tx := fun τ hf => hV.fr (hf.wk (by simp))
  have H29 : ∀ (j : Nat) (hnext : ∀ τ : Mem, inF τ 41 (sprC A x2 x3 x1 (j + 1)) → Fr [41] σ τ → R32 ((j : Int) + 1 + 1) ∧ P19 x2 x3 ((j : Int) + 1 + 1) τ) (n k : Nat) (τ : Mem), k + n = (A 10 0).toNat → inF τ 41 (rndC A x2 x3 (sprC A x2 x3 x1 j) k) → Fr [41] σ τ → P29 x2 x3 ((j : Int) + 1) (k : Int) τ := by
    intro j hnext n
    induction n with
    | zero =>
      intro k τ hk hm hF
      have hk2 : k = (A 10 0).toNat := by omega
      subst hk2
      have e8 : τ 1 8 = A 10 0 := (key τ hF).1.1.1
      exact h29 _ _ _ _ _ (fun _ _ _ _ _ => ⟨fun _ => hnext τ hm hF, fun h => absurd h (by omega)⟩)
    | succ n ih =>
      intro k τ hk hm hF
      have hVt := key τ hF
      have e8 : τ 1 8 = A 10 0 := hVt.1.1.1
      have t1 := hVt.1.2.1 (k : Int) (by omega) (by omega)
      have n1 := hVt.2.1.2.1 (k : Int) (by omega) (by omega)
      have s2 : τ 2 (k : Int) = A 11 (k : Int) := t1.1
      have s3 : τ 3 (k : Int) = A 12 (k : Int) := t1.2.1
      have s4 : τ 4 (k : Int) = A 13 (k : Int) := t1.2.2.1
      have k1 := hI.2.1 (k : Int) (by omega) (by omega)
      have hok := okF_rndC (th := x2) (wo := x3) (okF_sprC (th := x2) (wo := x3) (a := x1) hI j) hI k (by omega)
      generalize hmm : rndC A x2 x3 (sprC A x2 x3 x1 j) k = m at *
      have hsucc : rndC A x2 x3 (sprC A x2 x3 x1 j) (k + 1) = if okR A x2 x3 (k : Int) = true then relC A m (k : Int) else m := by
        show (if _ then _ else _) = _; rw [hmm]
      have b1 := hok (A 11 (k : Int))
      have b2 := hok (A 12 (k : Int))
      have no : okR A x2 x3 (k : Int) = false → R32 ((k : Int) + 1) ∧ P29 x2 x3 ((j : Int) + 1) ((k : Int) + 1) τ := fun h =>
        ⟨by unfold R32; omega, ih (k + 1) τ (by omega) (by rw [hsucc, h]; exact hm) hF⟩
      refine h29 _ _ _ _ _ (fun _ _ _ _ _ => ⟨fun h => absurd h (by omega), fun _ => ⟨fun h => no (decide_eq_false (fun q => q.1 h)), fun h => ?_⟩⟩)
      rw [n1, s2, s3, s4, hm _ (by omega) (by omega), hm _ (by omega) (by omega)]
      refine ⟨by omega, fun h2 => no (decide_eq_false (fun q => by omega)), fun h2 => ⟨by omega, by omega, by omega, by omega, by omega, by unfold R32; omega, by omega, fun σ25 e25 => ?_⟩⟩
      have hm25 : inF σ25 41 (fup m (A 11 (k : Int)) (min (m (A 11 (k : Int))) (m (A 12 (k : Int)) + A 13 (k : Int)))) := by rw [e25]; exact inF_fup hm
      have hok25 : okF (fup m (A 11 (k : Int)) (min (m (A 11 (k : Int))) (m (A 12 (k : Int)) + A 13 (k : Int)))) := okF_fup hok (by omega)
      have b3 := hok25 (A 11 (k : Int))
      have f4 : σ25 4 (k : Int) = A 13 (k : Int) := by rw [e25, mset_off (by omega)]; exact s4
      rw [f4, hm25 _ (by omega) (by omega), hm25 _ (by omega) (by omega)]
      refine ⟨by omega, by omega, by omega, by unfold R32; omega, by omega, fun σ33 e33 => ⟨by unfold R32; omega, ih (k + 1) σ33 (by omega) ?_ ?_⟩⟩
      · rw [hsucc, if_pos (show okR A x2 x3 (k : Int) = true from decide_eq_true ⟨h, h2⟩), e33]
        exact inF_fup hm25
      · rw [e33, e25]; exact (hF.set (by simp)).set (by simp)
  have H19 : ∀ (n j : Nat) (τ : Mem), j + n = 7 → inF τ 41 (sprC A x2 x3 x1 j) → Fr [41] σ τ → P19 x2 x3 ((j : Int) + 1) τ := by
    intro n
    induction n with
    | zero =>
      intro j τ hj hm hF
      have hj2 : j = 7 := by omega
      subst hj2
      exact h19 _ _ _ _ (fun _ _ _ _ => ⟨fun _ => ⟨hm, hF⟩, fun h => absurd h (by omega)⟩)
    | succ n ih =>
      intro j τ hj hm hF
      refine h19 _ _ _ _ (fun _ _ _ _ => ⟨fun h => absurd h (by omega), fun _ => ?_⟩)
      exact H29 j (fun τ' hm' hF' => ⟨by unfold R32; omega, by have := ih (j + 1) τ' (by omega) hm' hF'; rw [show ((j + 1 : Nat) : Int) = (j : Int) + 1 by omega] at this; exact this⟩) _ 0 τ (Nat.zero_add _) hm hF
  intro σ3 o3 ⟨q3, f3⟩
  refine ⟨by omega, fun σ7 e7 => ?_⟩
  refine H19 7 0 σ7 (by omega) (fun t h1 h2 => ?_) (by rw [e7]; exact f3.set (by simp))
  show σ7 41 t = initF x1 t
  unfold initF
  rw [e7, mset_same]
  split
  · rfl
  · exact q3 t h1 h2)

def wp_X12_layFar (x1 : Int) (x2 : Int) (x3 : Int) (σ : Mem) (Q : Mem → Prop) : Prop :=
 ∀ P3 : Int → Int → Int → Int → Mem → Prop,
 ∀ P39 : Int → Int → Int → Mem → Prop,
 ∀ P49 : Int → Int → Int → Int → Mem → Prop,
 ∀ P148 : Int → Int → Int → Int → Int → Int → Mem → Prop,
 (∀ (v1 : Int) (v2 : Int) (v3 : Int) (v4 : Int) (σ : Mem), (R32 v1 → R32 v2 → R32 v3 → R32 v4 → OKm σ →
   ((8 ≤ v4) →
     P39 v2 v3 0 σ) ∧
    ((v4 < 8) →
     ((v4 ≠ v1) →
      (0 ≤ v4 ∧ v4 < 8) ∧
      ∀ σ4 : Mem, σ4 = mset σ 84 v4 1000000 →
      R32 (v4 + 1) ∧ P3 v1 v2 v3 (v4 + 1) σ4) ∧
     ((v4 = v1) →
      (0 ≤ v4 ∧ v4 < 8) ∧
      ∀ σ9 : Mem, σ9 = mset σ 84 v4 0 →
      R32 (v4 + 1) ∧ P3 v1 v2 v3 (v4 + 1) σ9))) → P3 v1 v2 v3 v4 σ) →
 (∀ (v2 : Int) (v3 : Int) (v4 : Int) (σ : Mem), (R32 v2 → R32 v3 → R32 v4 → OKm σ →
   ((8 ≤ v4) →
     Q σ) ∧
    ((v4 < 8) →
     P49 v2 v3 v4 0 σ)) → P39 v2 v3 v4 σ) →
 (∀ (v2 : Int) (v3 : Int) (v4 : Int) (v5 : Int) (σ : Mem), (R32 v2 → R32 v3 → R32 v4 → R32 v5 → OKm σ →
   (((σ 75 0) ≤ v5) →
     R32 (v4 + 1) ∧ P39 v2 v3 (v4 + 1) σ) ∧
    ((v5 < (σ 75 0)) →
     ((v5 = v3) →
      R32 (v5 + 1) ∧ P49 v2 v3 v4 (v5 + 1) σ) ∧
     ((v5 ≠ v3) →
      (0 ≤ (11 + v5) ∧ (11 + v5) < 2119) ∧
      ((v2 ≤ (σ 75 (11 + v5))) →
       (0 ≤ v5 ∧ v5 < 16 ∧ 0 ≤ (0 : Int) ∧ (0 : Int) < 4) ∧
       ∀ y23 : Int, y23 = (σ 75 (39 + 4 * v5 + (0 : Int))) →
       (0 ≤ v5 ∧ v5 < 16 ∧ 0 ≤ (1 : Int) ∧ (1 : Int) < 4) ∧
       ∀ y27 : Int, y27 = (σ 75 (39 + 4 * v5 + (1 : Int))) →
       (0 ≤ y23 ∧ y23 < 8) ∧
       (0 ≤ v5 ∧ v5 < 16 ∧ 0 ≤ (2 : Int) ∧ (2 : Int) < 4) ∧
       (0 ≤ y27 ∧ y27 < 8) ∧
       R32 ((σ 84 y23) + (σ 75 (39 + 4 * v5 + (2 : Int)))) ∧
       (((σ 84 y27) ≤ ((σ 84 y23) + (σ 75 (39 + 4 * v5 + (2 : Int))))) →
        P148 v2 v3 v4 v5 y23 y27 σ) ∧
       ((((σ 84 y23) + (σ 75 (39 + 4 * v5 + (2 : Int)))) < (σ 84 y27)) →
        (0 ≤ y23 ∧ y23 < 8) ∧
        (0 ≤ v5 ∧ v5 < 16 ∧ 0 ≤ (2 : Int) ∧ (2 : Int) < 4) ∧
        (0 ≤ y27 ∧ y27 < 8) ∧
        R32 ((σ 84 y23) + (σ 75 (39 + 4 * v5 + (2 : Int)))) ∧
        ∀ σ41 : Mem, σ41 = mset σ 84 y27 ((σ 84 y23) + (σ 75 (39 + 4 * v5 + (2 : Int)))) →
        P148 v2 v3 v4 v5 y23 y27 σ41)) ∧
      (((σ 75 (11 + v5)) < v2) →
       R32 (v5 + 1) ∧ P49 v2 v3 v4 (v5 + 1) σ)))) → P49 v2 v3 v4 v5 σ) →
 (∀ (v2 : Int) (v3 : Int) (v4 : Int) (v5 : Int) (v6 : Int) (v7 : Int) (σ : Mem), (R32 v2 → R32 v3 → R32 v4 → R32 v5 → R32 v6 → R32 v7 → OKm σ →
   (0 ≤ v7 ∧ v7 < 8) ∧
    (0 ≤ v5 ∧ v5 < 16 ∧ 0 ≤ (2 : Int) ∧ (2 : Int) < 4) ∧
    (0 ≤ v6 ∧ v6 < 8) ∧
    R32 ((σ 84 v7) + (σ 75 (39 + 4 * v5 + (2 : Int)))) ∧
    (((σ 84 v6) ≤ ((σ 84 v7) + (σ 75 (39 + 4 * v5 + (2 : Int))))) →
     R32 (v5 + 1) ∧ P49 v2 v3 v4 (v5 + 1) σ) ∧
    ((((σ 84 v7) + (σ 75 (39 + 4 * v5 + (2 : Int)))) < (σ 84 v6)) →
     (0 ≤ v7 ∧ v7 < 8) ∧
     (0 ≤ v5 ∧ v5 < 16 ∧ 0 ≤ (2 : Int) ∧ (2 : Int) < 4) ∧
     (0 ≤ v6 ∧ v6 < 8) ∧
     R32 ((σ 84 v7) + (σ 75 (39 + 4 * v5 + (2 : Int)))) ∧
     ∀ σ59 : Mem, σ59 = mset σ 84 v6 ((σ 84 v7) + (σ 75 (39 + 4 * v5 + (2 : Int)))) →
     R32 (v5 + 1) ∧ P49 v2 v3 v4 (v5 + 1) σ59)) → P148 v2 v3 v4 v5 v6 v7 σ) →
  P3 x1 x2 x3 0 σ
theorem mt_X12_layFar {d : Nat} (hd : 1 ≤ d) {x1 : Int} {x2 : Int} {x3 : Int} {σ : Mem} {Q : Mem → Prop} (hx1 : R32 x1) (hx2 : R32 x2) (hx3 : R32 x3) (hO : OKm σ) (h : wp_X12_layFar x1 x2 x3 σ Q) : Mt yX12_layFar cX12_layFar 8 none d [aR (74), aI (x1), aI (x2), aI (x3)] σ (QV Q) := by
  refine Mt.intro (by decide +kernel) (Nat.le_of_ble_eq_true rfl) [(0, aR (74)), (1, aI (x1)), (2, aI (x2)), (3, aI (x3))] rfl ?_
  unfold wp_X12_layFar at h
  have h := h (fun (v1 : Int) (v2 : Int) (v3 : Int) (v4 : Int) (σ : Mem) => R32 v1 → R32 v2 → R32 v3 → R32 v4 → OKm σ → G yX12_layFar cX12_layFar 8 none d (QV Q) 3 [(0, aR (74)), (1, aI (v1)), (2, aI (v2)), (3, aI (v3)), (4, aI (v4))] [] σ)
    (fun (v2 : Int) (v3 : Int) (v4 : Int) (σ : Mem) => R32 v2 → R32 v3 → R32 v4 → OKm σ → G yX12_layFar cX12_layFar 8 none d (QV Q) 39 [(0, aR (74)), (2, aI (v2)), (3, aI (v3)), (4, aI (v4))] [] σ)
    (fun (v2 : Int) (v3 : Int) (v4 : Int) (v5 : Int) (σ : Mem) => R32 v2 → R32 v3 → R32 v4 → R32 v5 → OKm σ → G yX12_layFar cX12_layFar 8 none d (QV Q) 49 [(0, aR (74)), (2, aI (v2)), (3, aI (v3)), (4, aI (v4)), (5, aI (v5))] [] σ)
    (fun (v2 : Int) (v3 : Int) (v4 : Int) (v5 : Int) (v6 : Int) (v7 : Int) (σ : Mem) => R32 v2 → R32 v3 → R32 v4 → R32 v5 → R32 v6 → R32 v7 → OKm σ → G yX12_layFar cX12_layFar 8 none d (QV Q) 148 [(0, aR (74)), (2, aI (v2)), (3, aI (v3)), (4, aI (v4)), (5, aI (v5)), (6, aI (v6)), (7, aI (v7))] [] σ) ?_ ?_ ?_ ?_
  · refine G_iconst dX12_layFar_0 ?_
    refine G_istore (lv' := [(4, aI (0)), (0, aR (74)), (1, aI (x1)), (2, aI (x2)), (3, aI (x3))]) rfl (by decide) dX12_layFar_1 ?_
    exact G_pick [1, 2, 3, 4, 0] rfl (h hx1 hx2 hx3 (rL 0 rfl) hO)
  · intro v1 v2 v3 v4 σ h hv1 hv2 hv3 hv4 hO
    have h := h hv1 hv2 hv3 hv4 hO
    refine G_iload 4 rfl dX12_layFar_3 ?_
    refine G_bipush (by decide) dX12_layFar_5 ?_
    refine G_icmp_ge hv4 (rL 8 rfl) dX12_layFar_7 (tgt := 36) (by decide) (fun c1 => ?_) (fun c1 => ?_)
    · have h := h.1 c1
      refine G_iconst dX12_layFar_36 ?_
      refine G_istore (lv' := [(4, aI (0)), (0, aR (74)), (1, aI (v1)), (2, aI (v2)), (3, aI (v3))]) rfl (by decide) dX12_layFar_37 ?_
      exact G_pick [1, 3, 4, 0] rfl (h hv2 hv3 (rL 0 rfl) hO)
    · have h := h.2 c1
      refine G_aload_n 0 rfl rfl dX12_layFar_10 ?_
      refine G_get (k := 26) (kd := (2, 84)) (v := aR 84) gf_X12_50 rfl rfl rfl rfl dX12_layFar_11 ?_
      refine G_iload 4 rfl dX12_layFar_14 ?_
      refine G_iload 4 rfl dX12_layFar_16 ?_
      refine G_iload_n 1 rfl rfl dX12_layFar_18 ?_
      refine G_icmp_ne hv4 hv1 dX12_layFar_19 (tgt := 26) (by decide) (fun c2 => ?_) (fun c2 => ?_)
      · have h := h.1 c2
        refine G_ldcw (n := 1000000) rfl (by decide) kc_X12_412 dX12_layFar_26 ?_
        obtain ⟨c3, h⟩ := h
        obtain ⟨σ4, e6⟩ : ∃ τ : Mem, τ = mset σ 84 v4 1000000 := ⟨_, rfl⟩
        have h := h σ4 e6
        have o5 : OKm σ4 := by rw [e6]; exact OKm.seti hO _ _ _ (rL 1000000 rfl) (isLg_row (show shp 84 = (1, 8, []) from rfl) _)
        refine G_iast (n := 8) rfl c3.1 c3.2 dX12_layFar_29 ?_
        rw [← e6]
        refine G_iinc (lv' := [(4, aI ((v4 + 1))), (0, aR (74)), (1, aI (v1)), (2, aI (v2)), (3, aI (v3))]) (k := 4) rfl rfl (by decide) dX12_layFar_30 ?_
        refine G_goto (tgt := 3) dX12_layFar_33 (by decide) ?_
        obtain ⟨c7, h⟩ := h
        exact G_pick [1, 2, 3, 4, 0] rfl (h hv1 hv2 hv3 c7 o5)
      · have h := h.2 c2
        refine G_iconst dX12_layFar_22 ?_
        refine G_goto (tgt := 29) dX12_layFar_23 (by decide) ?_
        obtain ⟨c8, h⟩ := h
        obtain ⟨σ9, e11⟩ : ∃ τ : Mem, τ = mset σ 84 v4 0 := ⟨_, rfl⟩
        have h := h σ9 e11
        have o10 : OKm σ9 := by rw [e11]; exact OKm.seti hO _ _ _ (rL 0 rfl) (isLg_row (show shp 84 = (1, 8, []) from rfl) _)
        refine G_iast (n := 8) rfl c8.1 c8.2 dX12_layFar_29 ?_
        rw [← e11]
        refine G_iinc (lv' := [(4, aI ((v4 + 1))), (0, aR (74)), (1, aI (v1)), (2, aI (v2)), (3, aI (v3))]) (k := 4) rfl rfl (by decide) dX12_layFar_30 ?_
        refine G_goto (tgt := 3) dX12_layFar_33 (by decide) ?_
        obtain ⟨c12, h⟩ := h
        exact G_pick [1, 2, 3, 4, 0] rfl (h hv1 hv2 hv3 c12 o10)
  · intro v2 v3 v4 σ h hv2 hv3 hv4 hO
    have h := h hv2 hv3 hv4 hO
    refine G_iload 3 rfl dX12_layFar_39 ?_
    refine G_bipush (by decide) dX12_layFar_41 ?_
    refine G_icmp_ge hv4 (rL 8 rfl) dX12_layFar_43 (tgt := 207) (by decide) (fun c13 => ?_) (fun c13 => ?_)
    · have h := h.1 c13
      exact G_vret rfl dX12_layFar_207 ⟨rfl, h⟩ hO
    · have h := h.2 c13
      refine G_iconst dX12_layFar_46 ?_
      refine G_istore (lv' := [(5, aI (0)), (0, aR (74)), (2, aI (v2)), (3, aI (v3)), (4, aI (v4))]) rfl (by decide) dX12_layFar_47 ?_
      exact G_pick [1, 2, 3, 4, 0] rfl (h hv2 hv3 hv4 (rL 0 rfl) hO)
  · intro v2 v3 v4 v5 σ h hv2 hv3 hv4 hv5 hO
    have h := h hv2 hv3 hv4 hv5 hO
    refine G_iload 4 rfl dX12_layFar_49 ?_
    refine G_aload_n 0 rfl rfl dX12_layFar_51 ?_
    refine G_get (k := 0) (kd := (2, 75)) (v := aR 75) gf_X12_7 rfl rfl rfl rfl dX12_layFar_52 ?_
    refine G_iconst dX12_layFar_55 ?_
    refine G_iald (n := 2119) rfl (by decide) (by decide) dX12_layFar_56 ?_
    refine G_icmp_ge hv5 (OKm.i hO 75 0 (isLg_row (show shp 75 = (1, 2119, []) from rfl) _)) dX12_layFar_57 (tgt := 201) (by decide) (fun c14 => ?_) (fun c14 => ?_)
    · have h := h.1 c14
      refine G_iinc (lv' := [(4, aI ((v4 + 1))), (0, aR (74)), (2, aI (v2)), (3, aI (v3)), (5, aI (v5))]) (k := 3) rfl rfl (by decide) dX12_layFar_201 ?_
      refine G_goto (tgt := 39) dX12_layFar_204 (by decide) ?_
      obtain ⟨c15, h⟩ := h
      exact G_pick [1, 2, 3, 0] rfl (h hv2 hv3 c15 hO)
    · have h := h.2 c14
      refine G_iload 4 rfl dX12_layFar_60 ?_
      refine G_iload_n 2 rfl rfl dX12_layFar_62 ?_
      refine G_icmp_eq hv5 hv3 dX12_layFar_63 (tgt := 195) (by decide) (fun c16 => ?_) (fun c16 => ?_)
      · have h := h.1 c16
        refine G_iinc (lv' := [(5, aI ((v5 + 1))), (0, aR (74)), (2, aI (v2)), (3, aI (v3)), (4, aI (v4))]) (k := 4) rfl rfl (by decide) dX12_layFar_195 ?_
        refine G_goto (tgt := 49) dX12_layFar_198 (by decide) ?_
        obtain ⟨c17, h⟩ := h
        exact G_pick [1, 2, 3, 4, 0] rfl (h hv2 hv3 hv4 c17 hO)
      · have h := h.2 c16
        refine G_aload_n 0 rfl rfl dX12_layFar_66 ?_
        refine G_get (k := 0) (kd := (2, 75)) (v := aR 75) gf_X12_7 rfl rfl rfl rfl dX12_layFar_67 ?_
        refine G_bipush (by decide) dX12_layFar_70 ?_
        refine G_iload 4 rfl dX12_layFar_72 ?_
        refine G_iadd dX12_layFar_74 ?_
        obtain ⟨c18, h⟩ := h
        refine G_iald (n := 2119) rfl c18.1 c18.2 dX12_layFar_75 ?_
        refine G_iload_n 1 rfl rfl dX12_layFar_76 ?_
        refine G_icmp_ge (OKm.i hO 75 (11 + v5) (isLg_row (show shp 75 = (1, 2119, []) from rfl) _)) hv2 dX12_layFar_77 (tgt := 83) (by decide) (fun c19 => ?_) (fun c19 => ?_)
        · have h := h.1 c19
          refine G_aload_n 0 rfl rfl dX12_layFar_83 ?_
          refine G_iload 4 rfl dX12_layFar_84 ?_
          refine G_iconst dX12_layFar_86 ?_
          obtain ⟨c20, h⟩ := h
          refine G_callV (as := [_, _]) cf_X12_85 rfl rfl rfl (sp_X12_told (d - 1) (by omega) _ hO _ hv5 _ (rL 0 rfl) c20) (by omega) rfl rfl (Nat.le_of_ble_eq_true rfl) dX12_layFar_87 ?_
          rintro _ _ ⟨_, rfl, rfl, rfl⟩ o22 r21
          have h := h _ rfl
          refine G_istore (lv' := [(6, aI (((σ 75 (39 + 4 * v5 + (0 : Int)))))), (0, aR (74)), (2, aI (v2)), (3, aI (v3)), (4, aI (v4)), (5, aI (v5))]) rfl (by decide) dX12_layFar_90 ?_
          refine G_aload_n 1 rfl rfl dX12_layFar_92 ?_
          refine G_iload 5 rfl dX12_layFar_93 ?_
          refine G_iconst dX12_layFar_95 ?_
          obtain ⟨c24, h⟩ := h
          refine G_callV (as := [_, _]) cf_X12_85 rfl rfl rfl (sp_X12_told (d - 1) (by omega) _ hO _ hv5 _ (rL 1 rfl) c24) (by omega) rfl rfl (Nat.le_of_ble_eq_true rfl) dX12_layFar_96 ?_
          rintro _ _ ⟨_, rfl, rfl, rfl⟩ o26 r25
          have h := h _ rfl
          refine G_istore (lv' := [(7, aI (((σ 75 (39 + 4 * v5 + (1 : Int)))))), (6, aI (((σ 75 (39 + 4 * v5 + (0 : Int)))))), (0, aR (74)), (2, aI (v2)), (3, aI (v3)), (4, aI (v4)), (5, aI (v5))]) rfl (by decide) dX12_layFar_99 ?_
          refine G_aload_n 2 rfl rfl dX12_layFar_101 ?_
          refine G_get (k := 26) (kd := (2, 84)) (v := aR 84) gf_X12_50 rfl rfl rfl rfl dX12_layFar_102 ?_
          refine G_iload 1 rfl dX12_layFar_105 ?_
          obtain ⟨c28, h⟩ := h
          refine G_iald (n := 8) rfl c28.1 c28.2 dX12_layFar_107 ?_
          refine G_aload_n 2 rfl rfl dX12_layFar_108 ?_
          refine G_iload 6 rfl dX12_layFar_109 ?_
          refine G_iconst dX12_layFar_111 ?_
          obtain ⟨c29, h⟩ := h
          refine G_callV (as := [_, _]) cf_X12_85 rfl rfl rfl (sp_X12_told (d - 1) (by omega) _ hO _ hv5 _ (rL 2 rfl) c29) (by omega) rfl rfl (Nat.le_of_ble_eq_true rfl) dX12_layFar_112 ?_
          rintro _ _ ⟨_, rfl, rfl, rfl⟩ o31 r30
          refine G_iadd dX12_layFar_115 ?_
          refine G_aload_n 2 rfl rfl dX12_layFar_116 ?_
          refine G_get (k := 26) (kd := (2, 84)) (v := aR 84) gf_X12_50 rfl rfl rfl rfl dX12_layFar_117 ?_
          refine G_iload 0 rfl dX12_layFar_120 ?_
          obtain ⟨c32, h⟩ := h
          refine G_iald (n := 8) rfl c32.1 c32.2 dX12_layFar_122 ?_
          obtain ⟨c33, h⟩ := h
          refine G_icmp_ge c33 (OKm.i hO 84 ((σ 75 (39 + 4 * v5 + (1 : Int)))) (isLg_row (show shp 84 = (1, 8, []) from rfl) _)) dX12_layFar_123 (tgt := 148) (by decide) (fun c34 => ?_) (fun c34 => ?_)
          · have h := h.1 c34
            exact G_pick [2, 3, 4, 5, 6, 1, 0] rfl (h hv2 hv3 hv4 hv5 (r21 _ rfl) (r25 _ rfl) hO)
          · have h := h.2 c34
            refine G_aload_n 2 rfl rfl dX12_layFar_126 ?_
            refine G_get (k := 26) (kd := (2, 84)) (v := aR 84) gf_X12_50 rfl rfl rfl rfl dX12_layFar_127 ?_
            refine G_iload 0 rfl dX12_layFar_130 ?_
            refine G_aload_n 2 rfl rfl dX12_layFar_132 ?_
            refine G_get (k := 26) (kd := (2, 84)) (v := aR 84) gf_X12_50 rfl rfl rfl rfl dX12_layFar_133 ?_
            refine G_iload 1 rfl dX12_layFar_136 ?_
            obtain ⟨c35, h⟩ := h
            refine G_iald (n := 8) rfl c35.1 c35.2 dX12_layFar_138 ?_
            refine G_aload_n 2 rfl rfl dX12_layFar_139 ?_
            refine G_iload 6 rfl dX12_layFar_140 ?_
            refine G_iconst dX12_layFar_142 ?_
            obtain ⟨c36, h⟩ := h
            refine G_callV (as := [_, _]) cf_X12_85 rfl rfl rfl (sp_X12_told (d - 1) (by omega) _ hO _ hv5 _ (rL 2 rfl) c36) (by omega) rfl rfl (Nat.le_of_ble_eq_true rfl) dX12_layFar_143 ?_
            rintro _ _ ⟨_, rfl, rfl, rfl⟩ o38 r37
            refine G_iadd dX12_layFar_146 ?_
            obtain ⟨c39, h⟩ := h
            obtain ⟨c40, h⟩ := h
            obtain ⟨σ41, e43⟩ : ∃ τ : Mem, τ = mset σ 84 ((σ 75 (39 + 4 * v5 + (1 : Int)))) ((σ 84 ((σ 75 (39 + 4 * v5 + (0 : Int))))) + (σ 75 (39 + 4 * v5 + (2 : Int)))) := ⟨_, rfl⟩
            have h := h σ41 e43
            have o42 : OKm σ41 := by rw [e43]; exact OKm.seti hO _ _ _ c40 (isLg_row (show shp 84 = (1, 8, []) from rfl) _)
            refine G_iast (n := 8) rfl c39.1 c39.2 dX12_layFar_147 ?_
            rw [← e43]
            exact G_pick [2, 3, 4, 5, 6, 1, 0] rfl (h hv2 hv3 hv4 hv5 (r21 _ rfl) (r25 _ rfl) o42)
        · have h := h.2 c19
          refine G_goto (tgt := 195) dX12_layFar_80 (by decide) ?_
          refine G_iinc (lv' := [(5, aI ((v5 + 1))), (0, aR (74)), (2, aI (v2)), (3, aI (v3)), (4, aI (v4))]) (k := 4) rfl rfl (by decide) dX12_layFar_195 ?_
          refine G_goto (tgt := 49) dX12_layFar_198 (by decide) ?_
          obtain ⟨c44, h⟩ := h
          exact G_pick [1, 2, 3, 4, 0] rfl (h hv2 hv3 hv4 c44 hO)
  · intro v2 v3 v4 v5 v6 v7 σ h hv2 hv3 hv4 hv5 hv6 hv7 hO
    have h := h hv2 hv3 hv4 hv5 hv6 hv7 hO
    refine G_aload_n 0 rfl rfl dX12_layFar_148 ?_
    refine G_get (k := 26) (kd := (2, 84)) (v := aR 84) gf_X12_50 rfl rfl rfl rfl dX12_layFar_149 ?_
    refine G_iload 6 rfl dX12_layFar_152 ?_
    obtain ⟨c45, h⟩ := h
    refine G_iald (n := 8) rfl c45.1 c45.2 dX12_layFar_154 ?_
    refine G_aload_n 0 rfl rfl dX12_layFar_155 ?_
    refine G_iload 4 rfl dX12_layFar_156 ?_
    refine G_iconst dX12_layFar_158 ?_
    obtain ⟨c46, h⟩ := h
    refine G_callV (as := [_, _]) cf_X12_85 rfl rfl rfl (sp_X12_told (d - 1) (by omega) _ hO _ hv5 _ (rL 2 rfl) c46) (by omega) rfl rfl (Nat.le_of_ble_eq_true rfl) dX12_layFar_159 ?_
    rintro _ _ ⟨_, rfl, rfl, rfl⟩ o48 r47
    refine G_iadd dX12_layFar_162 ?_
    refine G_aload_n 0 rfl rfl dX12_layFar_163 ?_
    refine G_get (k := 26) (kd := (2, 84)) (v := aR 84) gf_X12_50 rfl rfl rfl rfl dX12_layFar_164 ?_
    refine G_iload 5 rfl dX12_layFar_167 ?_
    obtain ⟨c49, h⟩ := h
    refine G_iald (n := 8) rfl c49.1 c49.2 dX12_layFar_169 ?_
    obtain ⟨c50, h⟩ := h
    refine G_icmp_ge c50 (OKm.i hO 84 v6 (isLg_row (show shp 84 = (1, 8, []) from rfl) _)) dX12_layFar_170 (tgt := 195) (by decide) (fun c51 => ?_) (fun c51 => ?_)
    · have h := h.1 c51
      refine G_iinc (lv' := [(5, aI ((v5 + 1))), (0, aR (74)), (2, aI (v2)), (3, aI (v3)), (4, aI (v4)), (6, aI (v6)), (7, aI (v7))]) (k := 4) rfl rfl (by decide) dX12_layFar_195 ?_
      refine G_goto (tgt := 49) dX12_layFar_198 (by decide) ?_
      obtain ⟨c52, h⟩ := h
      exact G_pick [1, 2, 3, 4, 0] rfl (h hv2 hv3 hv4 c52 hO)
    · have h := h.2 c51
      refine G_aload_n 0 rfl rfl dX12_layFar_173 ?_
      refine G_get (k := 26) (kd := (2, 84)) (v := aR 84) gf_X12_50 rfl rfl rfl rfl dX12_layFar_174 ?_
      refine G_iload 5 rfl dX12_layFar_177 ?_
      refine G_aload_n 0 rfl rfl dX12_layFar_179 ?_
      refine G_get (k := 26) (kd := (2, 84)) (v := aR 84) gf_X12_50 rfl rfl rfl rfl dX12_layFar_180 ?_
      refine G_iload 6 rfl dX12_layFar_183 ?_
      obtain ⟨c53, h⟩ := h
      refine G_iald (n := 8) rfl c53.1 c53.2 dX12_layFar_185 ?_
      refine G_aload_n 0 rfl rfl dX12_layFar_186 ?_
      refine G_iload 4 rfl dX12_layFar_187 ?_
      refine G_iconst dX12_layFar_189 ?_
      obtain ⟨c54, h⟩ := h
      refine G_callV (as := [_, _]) cf_X12_85 rfl rfl rfl (sp_X12_told (d - 1) (by omega) _ hO _ hv5 _ (rL 2 rfl) c54) (by omega) rfl rfl (Nat.le_of_ble_eq_true rfl) dX12_layFar_190 ?_
      rintro _ _ ⟨_, rfl, rfl, rfl⟩ o56 r55
      refine G_iadd dX12_layFar_193 ?_
      obtain ⟨c57, h⟩ := h
      obtain ⟨c58, h⟩ := h
      obtain ⟨σ59, e61⟩ : ∃ τ : Mem, τ = mset σ 84 v6 ((σ 84 v7) + (σ 75 (39 + 4 * v5 + (2 : Int)))) := ⟨_, rfl⟩
      have h := h σ59 e61
      have o60 : OKm σ59 := by rw [e61]; exact OKm.seti hO _ _ _ c58 (isLg_row (show shp 84 = (1, 8, []) from rfl) _)
      refine G_iast (n := 8) rfl c57.1 c57.2 dX12_layFar_194 ?_
      rw [← e61]
      refine G_iinc (lv' := [(5, aI ((v5 + 1))), (0, aR (74)), (2, aI (v2)), (3, aI (v3)), (4, aI (v4)), (6, aI (v6)), (7, aI (v7))]) (k := 4) rfl rfl (by decide) dX12_layFar_195 ?_
      refine G_goto (tgt := 49) dX12_layFar_198 (by decide) ?_
      obtain ⟨c62, h⟩ := h
      exact G_pick [1, 2, 3, 4, 0] rfl (h hv2 hv3 hv4 c62 o60)

theorem sp_X12_layFar (d : Nat) (hd : 1 ≤ d) (σ : Mem) (hO : OKm σ) (x1 : Int) (hx1 : R32 x1) (x2 : Int) (hx2 : R32 x2) (x3 : Int) (hx3 : R32 x3) (A : Mem) (tx : Nat → Txt) (hpre : vwM σ A tx ∧ (0 ≤ x1 ∧ x1 ≤ 7)) : Mt yX12_layFar cX12_layFar 8 none d [aR (74), aI (x1), aI (x2), aI (x3)] σ (QV (fun σ' => inF σ' 84 (sprM A x2 x3 x1 8) ∧ vwM σ' A tx ∧ Fr [84] σ σ')) := mt_X12_layFar hd hx1 hx2 hx3 hO (by
  unfold wp_X12_layFar
  intro P3 P39 P49 P148 h3 h39 h49 h148
  obtain ⟨hV, hx⟩ := hpre
  have hI := hV.2.2.1
  have hc := hI.1
  have key : ∀ τ : Mem, Fr [84] σ τ → vwM τ A tx := fun τ hf => hV.fr (hf.wk (by simp))
  have H49 : ∀ (j : Nat) (hnext : ∀ τ : Mem, inF τ 84 (sprM A x2 x3 x1 (j + 1)) → Fr [84] σ τ → R32 ((j : Int) + 1) ∧ P39 x2 x3 ((j : Int) + 1) τ) (hj : j < 8) (n k : Nat) (τ : Mem), k + n = (A 10 0).toNat → inF τ 84 (rndM A x2 x3 (sprM A x2 x3 x1 j) k) → Fr [84] σ τ → P49 x2 x3 (j : Int) (k : Int) τ := by
    intro j hnext hj n
    induction n with
    | zero =>
      intro k τ hk hm hF
      have hk2 : k = (A 10 0).toNat := by omega
      subst hk2
      have e8 : τ 75 0 = A 10 0 := (key τ hF).1.1.1
      exact h49 _ _ _ _ _ (fun _ _ _ _ _ => ⟨fun _ => hnext τ hm hF, fun h => absurd h (by omega)⟩)
    | succ n ih =>
      intro k τ hk hm hF
      have hVt := key τ hF
      have e8 : τ 75 0 = A 10 0 := hVt.1.1.1
      have t1 := hVt.1.2.1 (k : Int) (by omega) (by omega)
      have n1 := hVt.2.1.2.1 (k : Int) (by omega) (by omega)
      have s2 : τ 75 (39 + 4 * (k : Int) + 0) = A 11 (k : Int) := by rw [Int.add_zero]; exact t1.1
      have s3 : τ 75 (39 + 4 * (k : Int) + 1) = A 12 (k : Int) := t1.2.1
      have s4 : τ 75 (39 + 4 * (k : Int) + 2) = A 13 (k : Int) := t1.2.2.1
      have k1 := hI.2.1 (k : Int) (by omega) (by omega)
      have hok := okF_rndM (th := x2) (wo := x3) (okF_sprM (th := x2) (wo := x3) (a := x1) hI j) hI k (by omega)
      generalize hmm : rndM A x2 x3 (sprM A x2 x3 x1 j) k = m at *
      have hsucc : rndM A x2 x3 (sprM A x2 x3 x1 j) (k + 1) = if okR A x2 x3 (k : Int) = true then relM2 A (relM1 A m (k : Int)) (k : Int) else m := by
        show (if _ then _ else _) = _; rw [hmm]
      have b1 := hok (A 11 (k : Int))
      have b2 := hok (A 12 (k : Int))
      have no : okR A x2 x3 (k : Int) = false → R32 ((k : Int) + 1) ∧ P49 x2 x3 (j : Int) ((k : Int) + 1) τ := fun h =>
        ⟨by unfold R32; omega, ih (k + 1) τ (by omega) (by rw [hsucc, h]; exact hm) hF⟩
      have H148 : ∀ ρ : Mem, okR A x2 x3 (k : Int) = true → inF ρ 84 (relM1 A m (k : Int)) → Fr [84] σ ρ → P148 x2 x3 (j : Int) (k : Int) (A 11 (k : Int)) (A 12 (k : Int)) ρ := by
        intro ρ hokr hm1 hF1
        have hVr := key ρ hF1
        have u1 := hVr.1.2.1 (k : Int) (by omega) (by omega)
        have u4 : ρ 75 (39 + 4 * (k : Int) + 2) = A 13 (k : Int) := u1.2.2.1
        have hok1 := okF_relM1 (A := A) (r := (k : Int)) hok (by omega)
        have c1 := hok1 (A 11 (k : Int))
        have c2 := hok1 (A 12 (k : Int))
        refine h148 _ _ _ _ _ _ _ (fun _ _ _ _ _ _ _ => ?_)
        rw [u4, hm1 _ (by omega) (by omega), hm1 _ (by omega) (by omega)]
        refine ⟨by omega, by omega, by omega, by unfold R32; omega, fun h2 => ⟨by unfold R32; omega, ih (k + 1) ρ (by omega) ?_ hF1⟩, fun h2 => ⟨by omega, by omega, by omega, by unfold R32; omega, fun σ59 e59 => ⟨by unfold R32; omega, ih (k + 1) σ59 (by omega) ?_ (by rw [e59]; exact hF1.set (by simp))⟩⟩⟩
        · rw [hsucc, if_pos hokr]
          unfold relM2
          rw [if_neg (by omega)]; exact hm1
        · rw [hsucc, if_pos hokr]
          unfold relM2
          rw [if_pos h2, e59]; exact inF_fup hm1
      refine h49 _ _ _ _ _ (fun _ _ _ _ _ => ⟨fun h => absurd h (by omega), fun _ => ⟨fun h => no (decide_eq_false (fun q => q.1 h)), fun h => ?_⟩⟩)
      rw [n1, s2, s3, s4]
      refine ⟨by omega, fun h2 => ⟨by omega, fun y23 e23 => ⟨by omega, fun y27 e27 => ?_⟩⟩, fun h2 => no (decide_eq_false (fun q => by omega))⟩
      have hokr : okR A x2 x3 (k : Int) = true := decide_eq_true ⟨h, h2⟩
      subst e23
      subst e27
      rw [hm _ (by omega) (by omega), hm _ (by omega) (by omega)]
      refine ⟨by omega, by omega, by omega, by unfold R32; omega, fun h3 => H148 τ hokr ?_ hF, fun h3 => ⟨by omega, by omega, by omega, by unfold R32; omega, fun σ41 e41 => H148 σ41 hokr ?_ (by rw [e41]; exact hF.set (by simp))⟩⟩
      · unfold relM1; rw [if_neg (by omega)]; exact hm
      · unfold relM1; rw [if_pos h3, e41]; exact inF_fup hm
  have H39 : ∀ (n j : Nat) (τ : Mem), j + n = 8 → inF τ 84 (sprM A x2 x3 x1 j) → Fr [84] σ τ → P39 x2 x3 (j : Int) τ := by
    intro n
    induction n with
    | zero =>
      intro j τ hj hm hF
      have hj2 : j = 8 := by omega
      subst hj2
      exact h39 _ _ _ _ (fun _ _ _ _ => ⟨fun _ => ⟨hm, key τ hF, hF⟩, fun h => absurd h (by omega)⟩)
    | succ n ih =>
      intro j τ hj hm hF
      refine h39 _ _ _ _ (fun _ _ _ _ => ⟨fun h => absurd h (by omega), fun _ => ?_⟩)
      exact H49 j (fun τ' hm' hF' => ⟨by unfold R32; omega, ih (j + 1) τ' (by omega) hm' hF'⟩) (by omega) _ 0 τ (Nat.zero_add _) hm hF
  have H3 : ∀ (n j : Nat) (τ : Mem), j + n = 8 → (∀ t : Int, 0 ≤ t → t < j → τ 84 t = initF x1 t) → Fr [84] σ τ → P3 x1 x2 x3 (j : Int) τ := by
    intro n
    induction n with
    | zero =>
      intro j τ hj hm hF
      exact h3 _ _ _ _ _ (fun _ _ _ _ _ => ⟨fun _ => H39 8 0 τ (by omega) (fun t h1 h2 => hm t h1 (by omega)) hF, fun h => absurd h (by omega)⟩)
    | succ n ih =>
      intro j τ hj hm hF
      refine h3 _ _ _ _ _ (fun _ _ _ _ _ => ⟨fun h => absurd h (by omega), fun _ => ⟨fun h => ⟨by omega, fun σ4 e4 => ⟨by unfold R32; omega, ih (j + 1) σ4 (by omega) (fun t h1 h2 => ?_) (by rw [e4]; exact hF.set (by simp))⟩⟩, fun h => ⟨by omega, fun σ4 e4 => ⟨by unfold R32; omega, ih (j + 1) σ4 (by omega) (fun t h1 h2 => ?_) (by rw [e4]; exact hF.set (by simp))⟩⟩⟩⟩)
      · rw [e4, mset_same]
        split
        · rename_i e; unfold initF; rw [e, if_neg h]
        · exact hm t h1 (by omega)
      · rw [e4, mset_same]
        split
        · rename_i e; unfold initF; rw [e, if_pos h]
        · exact hm t h1 (by omega)
  exact H3 8 0 σ (by omega) (fun t h1 h2 => by omega) (Fr.rf _ _))
