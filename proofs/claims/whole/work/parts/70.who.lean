def wp_J7_fill_d0a16_w (x2 : Int) (σ : Mem) (Q : Mem → Prop) : Prop :=
 ∀ P6 : Int → Int → Int → Mem → Prop,
 (∀ (v1 : Int) (v3 : Int) (v4 : Int) (σ : Mem), (R64 v1 → R32 v3 → R32 v4 → OKm σ →
   ((v4 ≤ v3) →
     Q σ) ∧
    ((v3 < v4) →
     (0 ≤ v3 ∧ v3 < 100) ∧
     ∀ σ3 : Mem, σ3 = mset σ 53 v3 v1 →
     R32 (v3 + 1) ∧ P6 v1 (v3 + 1) v4 σ3)) → P6 v1 v3 v4 σ) →
  P6 x2 0 100 σ
theorem mt_J7_fill_d0a16_w {d : Nat} (hd : 0 ≤ d) {x2 : Int} {σ : Mem} {Q : Mem → Prop} (hx2 : R64 x2) (hO : OKm σ) (h : wp_J7_fill_d0a16_w x2 σ Q) : Mt yJ7_fill_d0a16 cJ7_fill_d0a16 5 none d [aR (53), aL (x2)] σ (QV Q) := by
  refine Mt.introF (by decide +kernel) (Nat.le_of_ble_eq_true rfl) [(0, aR (53)), (1, aL (x2))] rfl ?_
  unfold wp_J7_fill_d0a16_w at h
  have h := h (fun (v1 : Int) (v3 : Int) (v4 : Int) (σ : Mem) => R64 v1 → R32 v3 → R32 v4 → OKm σ → G yJ7_fill_d0a16 cJ7_fill_d0a16 5 none d (QV Q) 6 [(0, aR (53)), (1, aL (v1)), (3, aI (v3)), (4, aI (v4))] [] σ) ?_
  · refine G_iconst dJ7_fill_d0a16_0 ?_
    refine G_istore_n (lv' := [(3, aI (0)), (0, aR (53)), (1, aL (x2))]) rfl rfl (by decide) dJ7_fill_d0a16_1 ?_
    refine G_aload_n 1 rfl rfl dJ7_fill_d0a16_2 ?_
    refine G_alen (v := 100) (n := 100) rfl (by decide) (by decide) rfl dJ7_fill_d0a16_3 ?_
    refine G_istore (lv' := [(4, aI (100)), (3, aI (0)), (0, aR (53)), (1, aL (x2))]) rfl (by decide) dJ7_fill_d0a16_4 ?_
    exact G_pick [2, 3, 1, 0] rfl (h hx2 (rL 0 rfl) (rL 100 rfl) hO)
  · intro v1 v3 v4 σ h hv1 hv3 hv4 hO
    have h := h hv1 hv3 hv4 hO
    refine G_iload_n 2 rfl rfl dJ7_fill_d0a16_6 ?_
    refine G_iload 3 rfl dJ7_fill_d0a16_7 ?_
    refine G_icmp_ge hv3 hv4 dJ7_fill_d0a16_9 (tgt := 22) (by decide) (fun c1 => ?_) (fun c1 => ?_)
    · have h := h.1 c1
      exact G_vret rfl dJ7_fill_d0a16_22 ⟨rfl, h⟩ hO
    · have h := h.2 c1
      refine G_aload_n 0 rfl rfl dJ7_fill_d0a16_12 ?_
      refine G_iload_n 2 rfl rfl dJ7_fill_d0a16_13 ?_
      refine G_lload_n 1 rfl rfl dJ7_fill_d0a16_14 ?_
      obtain ⟨c2, h⟩ := h
      obtain ⟨σ3, e5⟩ : ∃ τ : Mem, τ = mset σ 53 v3 v1 := ⟨_, rfl⟩
      have h := h σ3 e5
      have o4 : OKm σ3 := by rw [e5]; exact OKm.setl hO _ _ _ hv1 (isLg_rowL (show shp 53 = (2, 100, []) from rfl) _)
      refine G_last (n := 100) rfl c2.1 c2.2 dJ7_fill_d0a16_15 ?_
      rw [← e5]
      refine G_iinc (lv' := [(3, aI ((v3 + 1))), (0, aR (53)), (1, aL (v1)), (4, aI (v4))]) (k := 2) rfl rfl (by decide) dJ7_fill_d0a16_16 ?_
      refine G_goto (tgt := 6) dJ7_fill_d0a16_19 (by decide) ?_
      obtain ⟨c6, h⟩ := h
      exact G_pick [1, 2, 0, 3] rfl (h hv1 c6 hv4 o4)

theorem sp_J7_fill_d0a16_w (d : Nat) (hd : 0 ≤ d) (σ : Mem) (hO : OKm σ) (x2 : Int) (hx2 : R64 x2) : Mt yJ7_fill_d0a16 cJ7_fill_d0a16 5 none d [aR (53), aL (x2)] σ (QV (fun σ' => (∀ i : Int, 0 ≤ i → i < 100 → σ' 53 i = x2) ∧ Fr [53] σ σ')) := mt_J7_fill_d0a16_w hd hx2 hO (by
  unfold wp_J7_fill_d0a16_w
  intro P5 h5
  have H : ∀ (n : Nat) (k : Int) (τ : Mem), k + n = 100 → (0 ≤ k ∧ (∀ i : Int, 0 ≤ i → i < k → τ 53 i = x2) ∧ Fr [53] σ τ) → P5 x2 k 100 τ := by
    intro n
    induction n with
    | zero =>
      intro k τ hk hI
      refine h5 _ _ _ _ (fun _ _ _ hOt => ?_)
      refine ⟨fun hh => ?_, fun hh => absurd hh (by omega)⟩
      exact ⟨fun i h1 h2 => hI.2.1 i h1 (by omega), hI.2.2⟩
    | succ n ih =>
      intro k τ hk hI
      refine h5 _ _ _ _ (fun _ _ _ hOt => ?_)
      refine ⟨fun hh => absurd hh (by omega), fun hh => ?_⟩
      refine ⟨by omega, ?_⟩
      intro _ e; subst e
      refine ⟨by unfold R32; omega, ih _ _ (by omega) ⟨by omega, fun i h1 h2 => ?_, hI.2.2.set (by simp)⟩⟩
      by_cases e : i = k
      · subst e; rw [mset_hit rfl]
      · rw [mset_miss e]; exact hI.2.1 i h1 (by omega)
  exact H 100 0 σ (by omega) ⟨by omega, fun i h1 h2 => by omega, Fr.rf _ _⟩)

/-- in how many ways the first n can have sucked s, each up to three times -/
def wayN (m : Nat → Int) : Nat → Int → Int
  | 0, s => if s = 0 then 1 else 0
  | n + 1, s => wayN m n s + wayN m n (s - m n) + wayN m n (s - 2 * m n) + wayN m n (s - 3 * m n)
theorem wayN_neg {m : Nat → Int} (hm : ∀ g, 0 ≤ m g) : ∀ (n : Nat) (s : Int), s < 0 → wayN m n s = 0
  | 0, s, h => by show (if s = 0 then (1 : Int) else 0) = 0; rw [if_neg (by omega)]
  | n + 1, s, h => by
    have := hm n
    unfold wayN
    rw [wayN_neg hm n s h, wayN_neg hm n _ (by omega), wayN_neg hm n _ (by omega), wayN_neg hm n _ (by omega)]; rfl
theorem wayN_r {m : Nat → Int} : ∀ (n : Nat) (s : Int), 0 ≤ wayN m n s ∧ wayN m n s ≤ ((4 ^ n : Nat) : Int)
  | 0, s => by show 0 ≤ (if s = 0 then (1 : Int) else 0) ∧ (if s = 0 then (1 : Int) else 0) ≤ ((4 ^ 0 : Nat) : Int); split <;> simp
  | n + 1, s => by
    have h1 := wayN_r (m := m) n s
    have h2 := wayN_r (m := m) n (s - m n)
    have h3 := wayN_r (m := m) n (s - 2 * m n)
    have h4 := wayN_r (m := m) n (s - 3 * m n)
    unfold wayN
    rw [Nat.pow_succ]
    omega
theorem pow4_le {n : Nat} (h : n ≤ 6) : 4 ^ n ≤ 4096 := by
  have : 4 ^ n ≤ 4 ^ 6 := Nat.pow_le_pow_right (by omega) h
  omega
def skM (A : Mem) (tx : Nat → Txt) (r th : Int) (g : Nat) : Int := if (g : Int) < A 10 1 then skT A tx (g : Int) r th else 0

def wp_X3_addGoer (x1 : Int) (x2 : Int) (σ : Mem) (Q : Mem → Prop) : Prop :=
 ∀ P2 : Int → Int → Mem → Prop,
 ∀ P12 : Int → Int → Int → Int → Mem → Prop,
 (∀ (v1 : Int) (v3 : Int) (σ : Mem), (R32 v1 → R32 v3 → OKm σ →
   ((v3 < 0) →
     Q σ) ∧
    ((0 ≤ v3) →
     P12 v1 v3 0 0 σ)) → P2 v1 v3 σ) →
 (∀ (v1 : Int) (v3 : Int) (v4 : Int) (v6 : Int) (σ : Mem), (R32 v1 → R32 v3 → R64 v4 → R32 v6 → OKm σ →
   ((3 < v6) →
     (0 ≤ v3 ∧ v3 < 100) ∧
     ∀ σ4 : Mem, σ4 = mset σ 53 v3 v4 →
     R32 (v3 + (-1)) ∧ P2 v1 (v3 + (-1)) σ4) ∧
    ((v6 ≤ 3) →
     R32 (v6 * v1) ∧
     ((v3 < (v6 * v1)) →
      (0 ≤ v3 ∧ v3 < 100) ∧
      ∀ σ11 : Mem, σ11 = mset σ 53 v3 v4 →
      R32 (v3 + (-1)) ∧ P2 v1 (v3 + (-1)) σ11) ∧
     (((v6 * v1) ≤ v3) →
      (0 ≤ (v3 - (v6 * v1)) ∧ (v3 - (v6 * v1)) < 100) ∧
      R64 (v4 + (σ 53 (v3 - (v6 * v1)))) ∧
      ∀ y17 : Int, y17 = (v4 + (σ 53 (v3 - (v6 * v1)))) →
      R32 (v6 + 1) ∧ P12 v1 v3 y17 (v6 + 1) σ))) → P12 v1 v3 v4 v6 σ) →
  P2 x1 x2 σ
theorem mt_X3_addGoer {d : Nat} (hd : 0 ≤ d) {x1 : Int} {x2 : Int} {σ : Mem} {Q : Mem → Prop} (hx1 : R32 x1) (hx2 : R32 x2) (hO : OKm σ) (h : wp_X3_addGoer x1 x2 σ Q) : Mt yX3_addGoer cX3_addGoer 7 none d [aR (49), aI (x1), aI (x2)] σ (QV Q) := by
  refine Mt.intro (by decide +kernel) (Nat.le_of_ble_eq_true rfl) [(0, aR (49)), (1, aI (x1)), (2, aI (x2))] rfl ?_
  unfold wp_X3_addGoer at h
  have h := h (fun (v1 : Int) (v3 : Int) (σ : Mem) => R32 v1 → R32 v3 → OKm σ → G yX3_addGoer cX3_addGoer 7 none d (QV Q) 2 [(0, aR (49)), (1, aI (v1)), (3, aI (v3))] [] σ)
    (fun (v1 : Int) (v3 : Int) (v4 : Int) (v6 : Int) (σ : Mem) => R32 v1 → R32 v3 → R64 v4 → R32 v6 → OKm σ → G yX3_addGoer cX3_addGoer 7 none d (QV Q) 12 [(0, aR (49)), (1, aI (v1)), (3, aI (v3)), (4, aL (v4)), (6, aI (v6))] [] σ) ?_ ?_
  · refine G_iload_n 2 rfl rfl dX3_addGoer_0 ?_
    refine G_istore_n (lv' := [(3, aI (x2)), (0, aR (49)), (1, aI (x1)), (2, aI (x2))]) rfl rfl (by decide) dX3_addGoer_1 ?_
    exact G_pick [1, 2, 0] rfl (h hx1 hx2 hO)
  · intro v1 v3 σ h hv1 hv3 hO
    have h := h hv1 hv3 hO
    refine G_iload_n 2 rfl rfl dX3_addGoer_2 ?_
    refine G_if_lt hv3 dX3_addGoer_3 (tgt := 62) (by decide) (fun c1 => ?_) (fun c1 => ?_)
    · have h := h.1 c1
      exact G_vret rfl dX3_addGoer_62 ⟨rfl, h⟩ hO
    · have h := h.2 c1
      refine G_lconst (n := 0) (by decide) dX3_addGoer_6 ?_
      refine G_lstore (lv' := [(4, aL (0)), (0, aR (49)), (1, aI (v1)), (3, aI (v3))]) rfl (by decide) dX3_addGoer_7 ?_
      refine G_iconst dX3_addGoer_9 ?_
      refine G_istore (lv' := [(6, aI (0)), (4, aL (0)), (0, aR (49)), (1, aI (v1)), (3, aI (v3))]) rfl (by decide) dX3_addGoer_10 ?_
      exact G_pick [2, 3, 4, 1, 0] rfl (h hv1 hv3 (rLL 0 rfl) (rL 0 rfl) hO)
  · intro v1 v3 v4 v6 σ h hv1 hv3 hv4 hv6 hO
    have h := h hv1 hv3 hv4 hv6 hO
    refine G_iload 4 rfl dX3_addGoer_12 ?_
    refine G_iconst dX3_addGoer_14 ?_
    refine G_icmp_gt hv6 (rL 3 rfl) dX3_addGoer_15 (tgt := 48) (by decide) (fun c2 => ?_) (fun c2 => ?_)
    · have h := h.1 c2
      refine G_aload_n 0 rfl rfl dX3_addGoer_48 ?_
      refine G_get (k := 7) (kd := (3, 4)) (v := aR (53)) gf_X3_25 rfl rfl rfl rfl dX3_addGoer_49 ?_
      refine G_iload_n 2 rfl rfl dX3_addGoer_52 ?_
      refine G_lload 3 rfl dX3_addGoer_53 ?_
      obtain ⟨c3, h⟩ := h
      obtain ⟨σ4, e6⟩ : ∃ τ : Mem, τ = mset σ 53 v3 v4 := ⟨_, rfl⟩
      have h := h σ4 e6
      have o5 : OKm σ4 := by rw [e6]; exact OKm.setl hO _ _ _ hv4 (isLg_rowL (show shp 53 = (2, 100, []) from rfl) _)
      refine G_last (n := 100) rfl c3.1 c3.2 dX3_addGoer_55 ?_
      rw [← e6]
      refine G_iinc (lv' := [(3, aI ((v3 + (-1)))), (0, aR (49)), (1, aI (v1)), (4, aL (v4)), (6, aI (v6))]) (k := 2) rfl rfl (by decide) dX3_addGoer_56 ?_
      refine G_goto (tgt := 2) dX3_addGoer_59 (by decide) ?_
      obtain ⟨c7, h⟩ := h
      exact G_pick [1, 2, 0] rfl (h hv1 c7 o5)
    · have h := h.2 c2
      refine G_iload 4 rfl dX3_addGoer_18 ?_
      refine G_iload_n 1 rfl rfl dX3_addGoer_20 ?_
      refine G_imul dX3_addGoer_21 ?_
      refine G_iload_n 2 rfl rfl dX3_addGoer_22 ?_
      obtain ⟨c8, h⟩ := h
      refine G_icmp_gt c8 hv3 dX3_addGoer_23 (tgt := 48) (by decide) (fun c9 => ?_) (fun c9 => ?_)
      · have h := h.1 c9
        refine G_aload_n 0 rfl rfl dX3_addGoer_48 ?_
        refine G_get (k := 7) (kd := (3, 4)) (v := aR (53)) gf_X3_25 rfl rfl rfl rfl dX3_addGoer_49 ?_
        refine G_iload_n 2 rfl rfl dX3_addGoer_52 ?_
        refine G_lload 3 rfl dX3_addGoer_53 ?_
        obtain ⟨c10, h⟩ := h
        obtain ⟨σ11, e13⟩ : ∃ τ : Mem, τ = mset σ 53 v3 v4 := ⟨_, rfl⟩
        have h := h σ11 e13
        have o12 : OKm σ11 := by rw [e13]; exact OKm.setl hO _ _ _ hv4 (isLg_rowL (show shp 53 = (2, 100, []) from rfl) _)
        refine G_last (n := 100) rfl c10.1 c10.2 dX3_addGoer_55 ?_
        rw [← e13]
        refine G_iinc (lv' := [(3, aI ((v3 + (-1)))), (0, aR (49)), (1, aI (v1)), (4, aL (v4)), (6, aI (v6))]) (k := 2) rfl rfl (by decide) dX3_addGoer_56 ?_
        refine G_goto (tgt := 2) dX3_addGoer_59 (by decide) ?_
        obtain ⟨c14, h⟩ := h
        exact G_pick [1, 2, 0] rfl (h hv1 c14 o12)
      · have h := h.2 c9
        refine G_lload 3 rfl dX3_addGoer_26 ?_
        refine G_aload_n 0 rfl rfl dX3_addGoer_28 ?_
        refine G_get (k := 7) (kd := (3, 4)) (v := aR (53)) gf_X3_25 rfl rfl rfl rfl dX3_addGoer_29 ?_
        refine G_iload_n 2 rfl rfl dX3_addGoer_32 ?_
        refine G_iload 4 rfl dX3_addGoer_33 ?_
        refine G_iload_n 1 rfl rfl dX3_addGoer_35 ?_
        refine G_imul dX3_addGoer_36 ?_
        refine G_isub dX3_addGoer_37 ?_
        obtain ⟨c15, h⟩ := h
        refine G_lald (n := 100) rfl c15.1 c15.2 dX3_addGoer_38 ?_
        refine G_ladd dX3_addGoer_39 ?_
        obtain ⟨c16, h⟩ := h
        have h := h _ rfl
        refine G_lstore (lv' := [(4, aL (((v4 + (σ 53 (v3 - (v6 * v1))))))), (0, aR (49)), (1, aI (v1)), (3, aI (v3)), (6, aI (v6))]) rfl (by decide) dX3_addGoer_40 ?_
        refine G_iinc (lv' := [(6, aI ((v6 + 1))), (4, aL (((v4 + (σ 53 (v3 - (v6 * v1))))))), (0, aR (49)), (1, aI (v1)), (3, aI (v3))]) (k := 4) rfl rfl (by decide) dX3_addGoer_42 ?_
        refine G_goto (tgt := 12) dX3_addGoer_45 (by decide) ?_
        obtain ⟨c18, h⟩ := h
        exact G_pick [2, 3, 4, 1, 0] rfl (h hv1 hv3 c16 c18 hO)

theorem sp_X3_addGoer (d : Nat) (hd : 0 ≤ d) (σ : Mem) (hO : OKm σ) (x1 : Int) (hx1 : R32 x1) (x2 : Int) (hx2 : R32 x2) (m : Nat → Int) (n : Nat) (hpre : (∀ s : Int, 0 ≤ s → s ≤ x2 → σ 53 s = wayN m n s) ∧ (∀ g, 0 ≤ m g) ∧ (0 ≤ x1 ∧ x1 ≤ 99 ∧ x1 = m n) ∧ (0 ≤ x2 ∧ x2 ≤ 99) ∧ n ≤ 6) : Mt yX3_addGoer cX3_addGoer 7 none d [aR (49), aI (x1), aI (x2)] σ (QV (fun σ' => (∀ s : Int, 0 ≤ s → s ≤ x2 → σ' 53 s = wayN m (n + 1) s) ∧ Fr [53] σ σ')) := mt_X3_addGoer hd hx1 hx2 hO (by
  unfold wp_X3_addGoer
  intro P2 P12 h2 h12
  obtain ⟨hw, hm, hx1, hx2, hn⟩ := hpre
  have h4 := pow4_le hn
  have hneg := fun s (h : s < 0) => wayN_neg hm n s h
  have H2 : ∀ (q : Nat) (sm : Int) (τ : Mem), sm = (q : Int) - 1 → sm ≤ x2 → (∀ s : Int, 0 ≤ s → s ≤ sm → τ 53 s = wayN m n s) → (∀ s : Int, sm < s → s ≤ x2 → τ 53 s = wayN m (n + 1) s) → Fr [53] σ τ → P2 x1 sm τ := by
    intro q
    induction q with
    | zero =>
      intro sm τ hq hle hlo hhi hF
      exact h2 _ _ _ (fun _ _ _ => ⟨fun _ => ⟨fun s s0 s1 => hhi s (by omega) s1, hF⟩, fun h => absurd h (by omega)⟩)
    | succ q ih =>
      intro sm τ hq hle hlo hhi hF
      have hsm : 0 ≤ sm := by omega
      have fin : ∀ v4 : Int, v4 = wayN m (n + 1) sm → (0 ≤ sm ∧ sm < 100) ∧ ∀ σ4 : Mem, σ4 = mset τ 53 sm v4 → R32 (sm + (-1)) ∧ P2 x1 (sm + (-1)) σ4 := fun v4 hv => by
        refine ⟨by omega, fun σ4 e4 => ⟨by unfold R32; omega, ih (sm + (-1)) σ4 (by omega) (by omega) (fun s s0 s1 => ?_) (fun s s0 s1 => ?_) (by rw [e4]; exact hF.set (by simp))⟩⟩
        · rw [e4, mset_miss (by omega)]; exact hlo s s0 (by omega)
        · by_cases e : s = sm
          · subst e; rw [e4, mset_hit rfl, hv]
          · rw [e4, mset_miss e]; exact hhi s (by omega) s1
      have val : ∀ c : Int, 0 ≤ c → c * x1 ≤ sm → τ 53 (sm - c * x1) = wayN m n (sm - c * x1) := fun c hc hcs => hlo _ (by omega) (by have : 0 ≤ c * x1 := Int.mul_nonneg hc hx1.1; omega)
      have ex : wayN m (n + 1) sm = wayN m n sm + wayN m n (sm - x1) + wayN m n (sm - 2 * x1) + wayN m n (sm - 3 * x1) := by
        show wayN m n sm + wayN m n (sm - m n) + wayN m n (sm - 2 * m n) + wayN m n (sm - 3 * m n) = _
        rw [← hx1.2.2]
      have b0 := wayN_r (m := m) n sm
      have b1 := wayN_r (m := m) n (sm - x1)
      have b2 := wayN_r (m := m) n (sm - 2 * x1)
      have b3 := wayN_r (m := m) n (sm - 3 * x1)
      have hx1r := hx1.2.1
      have hx10 := hx1.1
      refine h2 _ _ _ (fun _ _ _ => ⟨fun h => absurd h (by omega), fun _ => ?_⟩)
      -- times 0
      refine h12 _ _ _ _ _ (fun _ _ _ _ _ => ⟨fun h => absurd h (by omega), fun _ => ⟨by unfold R32; omega, fun h => absurd h (by omega), fun c0 => ?_⟩⟩)
      rw [val 0 (by omega) c0, show sm - 0 * x1 = sm by omega]
      refine ⟨by omega, by unfold R64; omega, fun y0 e0 => ⟨by unfold R32; omega, ?_⟩⟩
      refine h12 _ _ _ _ _ (fun _ _ _ _ _ => ⟨fun h => absurd h (by omega), fun _ => ⟨by unfold R32; omega, fun h => fin _ ?_, fun c1 => ?_⟩⟩)
      · rw [ex, hneg (sm - x1) (by omega), hneg (sm - 2 * x1) (by omega), hneg (sm - 3 * x1) (by omega)]; omega
      rw [val (0 + 1) (by omega) c1, show sm - (0 + 1) * x1 = sm - x1 by omega]
      refine ⟨by omega, by unfold R64; omega, fun y1 e1 => ⟨by unfold R32; omega, ?_⟩⟩
      refine h12 _ _ _ _ _ (fun _ _ _ _ _ => ⟨fun h => absurd h (by omega), fun _ => ⟨by unfold R32; omega, fun h => fin _ ?_, fun c2 => ?_⟩⟩)
      · rw [ex, hneg (sm - 2 * x1) (by omega), hneg (sm - 3 * x1) (by omega)]; omega
      rw [val (0 + 1 + 1) (by omega) c2, show sm - (0 + 1 + 1) * x1 = sm - 2 * x1 by omega]
      refine ⟨by omega, by unfold R64; omega, fun y2 e2 => ⟨by unfold R32; omega, ?_⟩⟩
      refine h12 _ _ _ _ _ (fun _ _ _ _ _ => ⟨fun h => absurd h (by omega), fun _ => ⟨by unfold R32; omega, fun h => fin _ ?_, fun c3 => ?_⟩⟩)
      · rw [ex, hneg (sm - 3 * x1) (by omega)]; omega
      rw [val (0 + 1 + 1 + 1) (by omega) c3, show sm - (0 + 1 + 1 + 1) * x1 = sm - 3 * x1 by omega]
      refine ⟨by omega, by unfold R64; omega, fun y3 e3 => ⟨by unfold R32; omega, ?_⟩⟩
      refine h12 _ _ _ _ _ (fun _ _ _ _ _ => ⟨fun _ => fin _ ?_, fun h => absurd h (by omega)⟩)
      rw [ex]; omega
  exact H2 (x2 + 1).toNat x2 σ (by omega) (Int.le_refl _) (fun s s0 s1 => hw s s0 s1) (fun s s0 s1 => by omega) (Fr.rf _ _))
