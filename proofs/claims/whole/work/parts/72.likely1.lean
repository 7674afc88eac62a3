def wp_J7_fill_d0a16_r (t : Nat) (x2 : Int) (σ : Mem) (Q : Mem → Prop) : Prop :=
 ∀ P6 : Int → Int → Int → Mem → Prop,
 (∀ (v1 : Int) (v3 : Int) (v4 : Int) (σ : Mem), (R64 v1 → R32 v3 → R32 v4 → OKm σ →
   ((v4 ≤ v3) →
     Q σ) ∧
    ((v3 < v4) →
     (0 ≤ v3 ∧ v3 < 8) ∧
     ∀ σ3 : Mem, σ3 = mset σ t v3 v1 →
     R32 (v3 + 1) ∧ P6 v1 (v3 + 1) v4 σ3)) → P6 v1 v3 v4 σ) →
  P6 x2 0 8 σ
theorem mt_J7_fill_d0a16_r {d : Nat} (hd : 0 ≤ d) {t : Nat} {x2 : Int} {σ : Mem} {Q : Mem → Prop} (ht : isRow t) (hx2 : R64 x2) (hO : OKm σ) (h : wp_J7_fill_d0a16_r t x2 σ Q) : Mt yJ7_fill_d0a16 cJ7_fill_d0a16 5 none d [aR (t), aL (x2)] σ (QV Q) := by
  refine Mt.introF (by decide +kernel) (Nat.le_of_ble_eq_true rfl) [(0, aR (t)), (1, aL (x2))] rfl ?_
  unfold wp_J7_fill_d0a16_r at h
  have h := h (fun (v1 : Int) (v3 : Int) (v4 : Int) (σ : Mem) => R64 v1 → R32 v3 → R32 v4 → OKm σ → G yJ7_fill_d0a16 cJ7_fill_d0a16 5 none d (QV Q) 6 [(0, aR (t)), (1, aL (v1)), (3, aI (v3)), (4, aI (v4))] [] σ) ?_
  · refine G_iconst dJ7_fill_d0a16_0 ?_
    refine G_istore_n (lv' := [(3, aI (0)), (0, aR (t)), (1, aL (x2))]) rfl rfl (by decide) dJ7_fill_d0a16_1 ?_
    refine G_aload_n 1 rfl rfl dJ7_fill_d0a16_2 ?_
    refine G_alen (v := 8) (n := 8) (shRow ht) (by decide) (ltRow ht) rfl dJ7_fill_d0a16_3 ?_
    refine G_istore (lv' := [(4, aI (8)), (3, aI (0)), (0, aR (t)), (1, aL (x2))]) rfl (by decide) dJ7_fill_d0a16_4 ?_
    exact G_pick [2, 3, 1, 0] rfl (h hx2 (rL 0 rfl) (rL 8 rfl) hO)
  · intro v1 v3 v4 σ h hv1 hv3 hv4 hO
    have h := h hv1 hv3 hv4 hO
    refine G_iload_n 2 rfl rfl dJ7_fill_d0a16_6 ?_
    refine G_iload 3 rfl dJ7_fill_d0a16_7 ?_
    refine G_icmp_ge hv3 hv4 dJ7_fill_d0a16_9 (tgt := 22) (by decide) (fun c1 => ?_) (fun c1 => ?_)
    · have h := h.1 c1
      exact G_vret rfl dJ7_fill_d0a16_22 ⟨rfl, h⟩ hO
    · have h := h.2 c1
      refine G_aload_n 0 rfl rfl dJ7_fill_d0a16_12 ?_
      refine G_iload_n 2 rfl rfl dJ7_fill_d0a16_13 ?_
      refine G_lload_n 1 rfl rfl dJ7_fill_d0a16_14 ?_
      obtain ⟨c2, h⟩ := h
      obtain ⟨σ3, e5⟩ : ∃ τ : Mem, τ = mset σ t v3 v1 := ⟨_, rfl⟩
      have h := h σ3 e5
      have o4 : OKm σ3 := by rw [e5]; exact OKm.setl hO _ _ _ hv1 (isLg_rowL (shRow ht) _)
      refine G_last (n := 8) (shRow ht) c2.1 c2.2 dJ7_fill_d0a16_15 ?_
      rw [← e5]
      refine G_iinc (lv' := [(3, aI ((v3 + 1))), (0, aR (t)), (1, aL (v1)), (4, aI (v4))]) (k := 2) rfl rfl (by decide) dJ7_fill_d0a16_16 ?_
      refine G_goto (tgt := 6) dJ7_fill_d0a16_19 (by decide) ?_
      obtain ⟨c6, h⟩ := h
      exact G_pick [1, 2, 0, 3] rfl (h hv1 c6 hv4 o4)

theorem sp_J7_fill_d0a16_r (d : Nat) (hd : 0 ≤ d) (σ : Mem) (hO : OKm σ) (t : Nat) (ht : isRow t) (x2 : Int) (hx2 : R64 x2) : Mt yJ7_fill_d0a16 cJ7_fill_d0a16 5 none d [aR (t), aL (x2)] σ (QV (fun σ' => (∀ i : Int, 0 ≤ i → i < 8 → σ' t i = x2) ∧ Fr [t] σ σ')) := mt_J7_fill_d0a16_r hd ht hx2 hO (by
  unfold wp_J7_fill_d0a16_r
  intro P5 h5
  have H : ∀ (n : Nat) (k : Int) (τ : Mem), k + n = 8 → (0 ≤ k ∧ (∀ i : Int, 0 ≤ i → i < k → τ t i = x2) ∧ Fr [t] σ τ) → P5 x2 k 8 τ := by
    intro n
    induction n with
    | zero =>
      intro k τ hk hI
      refine h5 _ _ _ _ (fun _ _ _ hOt => ?_)
      refine ⟨fun hh => ?_, fun hh => absurd hh (by omega)⟩
      exact ⟨fun i h1 h2 => hI.2.1 i h1 (by omega), hI.2.2⟩
    | succ n ih =>
      intro k τ hk hI
      refine h5 _ _ _ _ (fun _ _ _ hOt => ?_)
      refine ⟨fun hh => absurd hh (by omega), fun hh => ?_⟩
      refine ⟨by omega, ?_⟩
      intro _ e; subst e
      refine ⟨by unfold R32; omega, ih _ _ (by omega) ⟨by omega, fun i h1 h2 => ?_, hI.2.2.set (by simp)⟩⟩
      by_cases e : i = k
      · subst e; rw [mset_hit rfl]
      · rw [mset_miss e]; exact hI.2.1 i h1 (by omega)
  exact H 8 0 σ (by omega) ⟨by omega, fun i h1 h2 => by omega, Fr.rf _ _⟩)
