def thinN (A : Mem) : Nat → Int
  | 0 => -1
  | n + 1 => if thinN A n = -1 then (n : Int) else if A 1 (n : Int) < A 1 (thinN A n) then (n : Int) else thinN A n
theorem thinN_r (A : Mem) : ∀ n : Nat, -1 ≤ thinN A n ∧ thinN A n < n
  | 0 => by simp [thinN]
  | n + 1 => by have := thinN_r A n; unfold thinN; (repeat' split) <;> omega
def busyN (A : Mem) : Nat → Int
  | 0 => -1
  | n + 1 => if A 3 (n : Int) > (if busyN A n = -1 then 0 else A 3 (busyN A n)) then (n : Int) else busyN A n
theorem busyN_r (A : Mem) : ∀ n : Nat, -1 ≤ busyN A n ∧ busyN A n < n
  | 0 => by simp [busyN]
  | n + 1 => by have := busyN_r A n; unfold busyN; split <;> omega
def bmost (A : Mem) (n : Nat) : Int := if busyN A n = -1 then 0 else A 3 (busyN A n)
def strS (A : Mem) (tx : Nat → Txt) : Int := bitsN (fun g => decide (opS A tx (g : Int) = 0)) (A 10 1).toNat
def whoseS (A : Mem) (tx : Nat → Txt) : Int := bitsN (fun t => agS A tx (t : Int)) (A 10 2).toNat
def ledN (A : Mem) (g : Int) : Nat → Int
  | 0 => 0
  | n + 1 => ledN A g n + (if g = -1 ∨ A 5 (n : Int) = g then A 7 (n : Int) else 0)
def ledS (A : Mem) (g : Int) : Int := if g ≠ -1 ∧ ¬ (0 ≤ g ∧ g < A 10 1) then -2 else ledN A g (A 0 4).toNat
theorem ledN_r {A : Mem} {g : Int} (h : InvA A) : ∀ n : Nat, (n : Int) ≤ A 0 4 → 0 ≤ ledN A g n ∧ ledN A g n ≤ 99 * n
  | 0, _ => by simp [ledN]
  | n + 1, hn => by
    have := ledN_r (g := g) h n (by omega)
    have := h.2.2.2.2.1 (n : Int) (by omega) (by omega)
    unfold ledN; split <;> omega

def wp_X11_thinnest  (σ : Mem) (Q : Int → Mem → Prop) : Prop :=
 ∀ P4 : Int → Int → Mem → Prop,
 (∀ (v1 : Int) (v2 : Int) (σ : Mem), (R32 v1 → R32 v2 → OKm σ →
   (((σ 1 8) ≤ v2) →
     Q v1 σ) ∧
    ((v2 < (σ 1 8)) →
     ((v1 = (-1)) →
      R32 (v2 + 1) ∧ P4 v2 (v2 + 1) σ) ∧
     ((v1 ≠ (-1)) →
      (0 ≤ v2 ∧ v2 < 16) ∧
      (0 ≤ v1 ∧ v1 < 16) ∧
      (((σ 11 v1) ≤ (σ 11 v2)) →
       R32 (v2 + 1) ∧ P4 v1 (v2 + 1) σ) ∧
      (((σ 11 v2) < (σ 11 v1)) →
       R32 (v2 + 1) ∧ P4 v2 (v2 + 1) σ)))) → P4 v1 v2 σ) →
  P4 (-1) 0 σ
theorem mt_X11_thinnest {d : Nat} (hd : 0 ≤ d)  {σ : Mem} {Q : Int → Mem → Prop}  (hO : OKm σ) (h : wp_X11_thinnest  σ Q) : Mt yX11_thinnest cX11_thinnest 3 (some .int) d [aR (0)] σ (QI Q) := by
  refine Mt.intro (by decide +kernel) (Nat.le_of_ble_eq_true rfl) [(0, aR (0))] rfl ?_
  unfold wp_X11_thinnest at h
  have h := h (fun (v1 : Int) (v2 : Int) (σ : Mem) => R32 v1 → R32 v2 → OKm σ → G yX11_thinnest cX11_thinnest 3 (some .int) d (QI Q) 4 [(0, aR (0)), (1, aI (v1)), (2, aI (v2))] [] σ) ?_
  · refine G_iconst dX11_thinnest_0 ?_
    refine G_istore_n (lv' := [(1, aI ((-1))), (0, aR (0))]) rfl rfl (by decide) dX11_thinnest_1 ?_
    refine G_iconst dX11_thinnest_2 ?_
    refine G_istore_n (lv' := [(2, aI (0)), (1, aI ((-1))), (0, aR (0))]) rfl rfl (by decide) dX11_thinnest_3 ?_
    exact G_pick [2, 1, 0] rfl (h (rL (-1) rfl) (rL 0 rfl) hO)
  · intro v1 v2 σ h hv1 hv2 hO
    have h := h hv1 hv2 hO
    refine G_iload_n 2 rfl rfl dX11_thinnest_4 ?_
    refine G_aload_n 0 rfl rfl dX11_thinnest_5 ?_
    refine G_get (k := 0) (kd := (2, 1)) (v := aR 1) gf_X11_10 rfl rfl rfl rfl dX11_thinnest_6 ?_
    refine G_get (k := 8) (kd := (0, 0)) (v := aI (σ 1 8)) gf_X11_338 rfl rfl rfl rfl dX11_thinnest_9 ?_
    refine G_icmp_ge hv2 (OKm.i hO 1 8 rfl) dX11_thinnest_12 (tgt := 49) (by decide) (fun c1 => ?_) (fun c1 => ?_)
    · have h := h.1 c1
      refine G_iload_n 1 rfl rfl dX11_thinnest_49 ?_
      exact G_iret rfl hv1 dX11_thinnest_50 ⟨_, rfl, h⟩ hO
    · have h := h.2 c1
      refine G_iload_n 1 rfl rfl dX11_thinnest_15 ?_
      refine G_iconst dX11_thinnest_16 ?_
      refine G_icmp_eq hv1 (rL (-1) rfl) dX11_thinnest_17 (tgt := 41) (by decide) (fun c2 => ?_) (fun c2 => ?_)
      · have h := h.1 c2
        refine G_iload_n 2 rfl rfl dX11_thinnest_41 ?_
        refine G_istore_n (lv' := [(1, aI (v2)), (0, aR (0)), (2, aI (v2))]) rfl rfl (by decide) dX11_thinnest_42 ?_
        refine G_iinc (lv' := [(2, aI ((v2 + 1))), (1, aI (v2)), (0, aR (0))]) (k := 2) rfl rfl (by decide) dX11_thinnest_43 ?_
        refine G_goto (tgt := 4) dX11_thinnest_46 (by decide) ?_
        obtain ⟨c3, h⟩ := h
        exact G_pick [2, 1, 0] rfl (h hv2 c3 hO)
      · have h := h.2 c2
        refine G_aload_n 0 rfl rfl dX11_thinnest_20 ?_
        refine G_get (k := 1) (kd := (2, 10)) (v := aR 10) gf_X11_19 rfl rfl rfl rfl dX11_thinnest_21 ?_
        refine G_get (k := 0) (kd := (3, 1)) (v := aR (11)) gf_X11_199 rfl rfl rfl rfl dX11_thinnest_24 ?_
        refine G_iload_n 2 rfl rfl dX11_thinnest_27 ?_
        obtain ⟨c4, h⟩ := h
        refine G_iald (n := 16) rfl c4.1 c4.2 dX11_thinnest_28 ?_
        refine G_aload_n 0 rfl rfl dX11_thinnest_29 ?_
        refine G_get (k := 1) (kd := (2, 10)) (v := aR 10) gf_X11_19 rfl rfl rfl rfl dX11_thinnest_30 ?_
        refine G_get (k := 0) (kd := (3, 1)) (v := aR (11)) gf_X11_199 rfl rfl rfl rfl dX11_thinnest_33 ?_
        refine G_iload_n 1 rfl rfl dX11_thinnest_36 ?_
        obtain ⟨c5, h⟩ := h
        refine G_iald (n := 16) rfl c5.1 c5.2 dX11_thinnest_37 ?_
        refine G_icmp_ge (OKm.i hO 11 v2 (isLg_row (show shp 11 = (1, 16, []) from rfl) _)) (OKm.i hO 11 v1 (isLg_row (show shp 11 = (1, 16, []) from rfl) _)) dX11_thinnest_38 (tgt := 43) (by decide) (fun c6 => ?_) (fun c6 => ?_)
        · have h := h.1 c6
          refine G_iinc (lv' := [(2, aI ((v2 + 1))), (0, aR (0)), (1, aI (v1))]) (k := 2) rfl rfl (by decide) dX11_thinnest_43 ?_
          refine G_goto (tgt := 4) dX11_thinnest_46 (by decide) ?_
          obtain ⟨c7, h⟩ := h
          exact G_pick [1, 2, 0] rfl (h hv1 c7 hO)
        · have h := h.2 c6
          refine G_iload_n 2 rfl rfl dX11_thinnest_41 ?_
          refine G_istore_n (lv' := [(1, aI (v2)), (0, aR (0)), (2, aI (v2))]) rfl rfl (by decide) dX11_thinnest_42 ?_
          refine G_iinc (lv' := [(2, aI ((v2 + 1))), (1, aI (v2)), (0, aR (0))]) (k := 2) rfl rfl (by decide) dX11_thinnest_43 ?_
          refine G_goto (tgt := 4) dX11_thinnest_46 (by decide) ?_
          obtain ⟨c8, h⟩ := h
          exact G_pick [2, 1, 0] rfl (h hv2 c8 hO)

theorem sp_X11_thinnest (d : Nat) (hd : 0 ≤ d) (σ : Mem) (hO : OKm σ) (A : Mem) (tx : Nat → Txt) (hpre : vwC σ A tx) : Mt yX11_thinnest cX11_thinnest 3 (some .int) d [aR (0)] σ (QI (fun v σ' => v = thinN A (A 10 0).toNat ∧ Fr ScrC σ σ')) := mt_X11_thinnest hd  hO (by
  unfold wp_X11_thinnest
  intro P4 h4
  have hV := hpre
  have hI := hV.2.2.1
  have hc := hI.1
  have e8 : σ 1 8 = A 10 0 := hV.1.1.1
  have e9 : σ 1 9 = A 10 1 := hV.1.1.2.1
  have H : ∀ (n k : Nat), k + n = (A 10 0).toNat → P4 (thinN A k) (k : Int) σ := by
    intro n
    induction n with
    | zero =>
      intro k hk
      have hk2 : k = (A 10 0).toNat := by omega
      subst hk2
      exact h4 _ _ _ (fun _ _ _ => ⟨fun _ => ⟨rfl, Fr.rf _ _⟩, fun h => absurd h (by omega)⟩)
    | succ n ih =>
      intro k hk
      have hr := thinN_r A k
      have ih1 := ih (k + 1) (by omega)
      refine h4 _ _ _ (fun _ _ _ => ⟨fun h => absurd h (by omega), fun _ => ⟨fun h => ⟨by unfold R32; omega, ?_⟩, fun h => ?_⟩⟩)
      · have : thinN A (k + 1) = k := by show (if _ then _ else _) = _; rw [if_pos h]
        rw [this] at ih1
        exact ih1
      · have n1 := hV.2.1.2.1 (k : Int) (by omega) (by omega)
        have n2 := hV.2.1.2.1 (thinN A k) (by omega) (by omega)
        rw [n1, n2]
        refine ⟨by omega, by omega, fun h2 => ⟨by unfold R32; omega, ?_⟩, fun h2 => ⟨by unfold R32; omega, ?_⟩⟩
        · have : thinN A (k + 1) = thinN A k := by show (if _ then _ else _) = _; rw [if_neg h, if_neg (by omega)]
          rw [this] at ih1
          exact ih1
        · have : thinN A (k + 1) = k := by show (if _ then _ else _) = _; rw [if_neg h, if_pos h2]
          rw [this] at ih1
          exact ih1
  exact H _ 0 (Nat.zero_add _))

def wp_X12_thinnest  (σ : Mem) (Q : Int → Mem → Prop) : Prop :=
 ∀ P4 : Int → Int → Mem → Prop,
 (∀ (v1 : Int) (v2 : Int) (σ : Mem), (R32 v1 → R32 v2 → OKm σ →
   (((σ 75 0) ≤ v2) →
     Q v1 σ) ∧
    ((v2 < (σ 75 0)) →
     ((v1 = (-1)) →
      R32 (v2 + 1) ∧ P4 v2 (v2 + 1) σ) ∧
     ((v1 ≠ (-1)) →
      (0 ≤ (11 + v2) ∧ (11 + v2) < 2119) ∧
      (0 ≤ (11 + v1) ∧ (11 + v1) < 2119) ∧
      (((σ 75 (11 + v1)) ≤ (σ 75 (11 + v2))) →
       R32 (v2 + 1) ∧ P4 v1 (v2 + 1) σ) ∧
      (((σ 75 (11 + v2)) < (σ 75 (11 + v1))) →
       R32 (v2 + 1) ∧ P4 v2 (v2 + 1) σ)))) → P4 v1 v2 σ) →
  P4 (-1) 0 σ
theorem mt_X12_thinnest {d : Nat} (hd : 0 ≤ d)  {σ : Mem} {Q : Int → Mem → Prop}  (hO : OKm σ) (h : wp_X12_thinnest  σ Q) : Mt yX12_thinnest cX12_thinnest 3 (some .int) d [aR (74)] σ (QI Q) := by
  refine Mt.intro (by decide +kernel) (Nat.le_of_ble_eq_true rfl) [(0, aR (74))] rfl ?_
  unfold wp_X12_thinnest at h
  have h := h (fun (v1 : Int) (v2 : Int) (σ : Mem) => R32 v1 → R32 v2 → OKm σ → G yX12_thinnest cX12_thinnest 3 (some .int) d (QI Q) 4 [(0, aR (74)), (1, aI (v1)), (2, aI (v2))] [] σ) ?_
  · refine G_iconst dX12_thinnest_0 ?_
    refine G_istore_n (lv' := [(1, aI ((-1))), (0, aR (74))]) rfl rfl (by decide) dX12_thinnest_1 ?_
    refine G_iconst dX12_thinnest_2 ?_
    refine G_istore_n (lv' := [(2, aI (0)), (1, aI ((-1))), (0, aR (74))]) rfl rfl (by decide) dX12_thinnest_3 ?_
    exact G_pick [2, 1, 0] rfl (h (rL (-1) rfl) (rL 0 rfl) hO)
  · intro v1 v2 σ h hv1 hv2 hO
    have h := h hv1 hv2 hO
    refine G_iload_n 2 rfl rfl dX12_thinnest_4 ?_
    refine G_aload_n 0 rfl rfl dX12_thinnest_5 ?_
    refine G_get (k := 0) (kd := (2, 75)) (v := aR 75) gf_X12_7 rfl rfl rfl rfl dX12_thinnest_6 ?_
    refine G_iconst dX12_thinnest_9 ?_
    refine G_iald (n := 2119) rfl (by decide) (by decide) dX12_thinnest_10 ?_
    refine G_icmp_ge hv2 (OKm.i hO 75 0 (isLg_row (show shp 75 = (1, 2119, []) from rfl) _)) dX12_thinnest_11 (tgt := 48) (by decide) (fun c1 => ?_) (fun c1 => ?_)
    · have h := h.1 c1
      refine G_iload_n 1 rfl rfl dX12_thinnest_48 ?_
      exact G_iret rfl hv1 dX12_thinnest_49 ⟨_, rfl, h⟩ hO
    · have h := h.2 c1
      refine G_iload_n 1 rfl rfl dX12_thinnest_14 ?_
      refine G_iconst dX12_thinnest_15 ?_
      refine G_icmp_eq hv1 (rL (-1) rfl) dX12_thinnest_16 (tgt := 40) (by decide) (fun c2 => ?_) (fun c2 => ?_)
      · have h := h.1 c2
        refine G_iload_n 2 rfl rfl dX12_thinnest_40 ?_
        refine G_istore_n (lv' := [(1, aI (v2)), (0, aR (74)), (2, aI (v2))]) rfl rfl (by decide) dX12_thinnest_41 ?_
        refine G_iinc (lv' := [(2, aI ((v2 + 1))), (1, aI (v2)), (0, aR (74))]) (k := 2) rfl rfl (by decide) dX12_thinnest_42 ?_
        refine G_goto (tgt := 4) dX12_thinnest_45 (by decide) ?_
        obtain ⟨c3, h⟩ := h
        exact G_pick [2, 1, 0] rfl (h hv2 c3 hO)
      · have h := h.2 c2
        refine G_aload_n 0 rfl rfl dX12_thinnest_19 ?_
        refine G_get (k := 0) (kd := (2, 75)) (v := aR 75) gf_X12_7 rfl rfl rfl rfl dX12_thinnest_20 ?_
        refine G_bipush (by decide) dX12_thinnest_23 ?_
        refine G_iload_n 2 rfl rfl dX12_thinnest_25 ?_
        refine G_iadd dX12_thinnest_26 ?_
        obtain ⟨c4, h⟩ := h
        refine G_iald (n := 2119) rfl c4.1 c4.2 dX12_thinnest_27 ?_
        refine G_aload_n 0 rfl rfl dX12_thinnest_28 ?_
        refine G_get (k := 0) (kd := (2, 75)) (v := aR 75) gf_X12_7 rfl rfl rfl rfl dX12_thinnest_29 ?_
        refine G_bipush (by decide) dX12_thinnest_32 ?_
        refine G_iload_n 1 rfl rfl dX12_thinnest_34 ?_
        refine G_iadd dX12_thinnest_35 ?_
        obtain ⟨c5, h⟩ := h
        refine G_iald (n := 2119) rfl c5.1 c5.2 dX12_thinnest_36 ?_
        refine G_icmp_ge (OKm.i hO 75 (11 + v2) (isLg_row (show shp 75 = (1, 2119, []) from rfl) _)) (OKm.i hO 75 (11 + v1) (isLg_row (show shp 75 = (1, 2119, []) from rfl) _)) dX12_thinnest_37 (tgt := 42) (by decide) (fun c6 => ?_) (fun c6 => ?_)
        · have h := h.1 c6
          refine G_iinc (lv' := [(2, aI ((v2 + 1))), (0, aR (74)), (1, aI (v1))]) (k := 2) rfl rfl (by decide) dX12_thinnest_42 ?_
          refine G_goto (tgt := 4) dX12_thinnest_45 (by decide) ?_
          obtain ⟨c7, h⟩ := h
          exact G_pick [1, 2, 0] rfl (h hv1 c7 hO)
        · have h := h.2 c6
          refine G_iload_n 2 rfl rfl dX12_thinnest_40 ?_
          refine G_istore_n (lv' := [(1, aI (v2)), (0, aR (74)), (2, aI (v2))]) rfl rfl (by decide) dX12_thinnest_41 ?_
          refine G_iinc (lv' := [(2, aI ((v2 + 1))), (1, aI (v2)), (0, aR (74))]) (k := 2) rfl rfl (by decide) dX12_thinnest_42 ?_
          refine G_goto (tgt := 4) dX12_thinnest_45 (by decide) ?_
          obtain ⟨c8, h⟩ := h
          exact G_pick [2, 1, 0] rfl (h hv2 c8 hO)

theorem sp_X12_thinnest (d : Nat) (hd : 0 ≤ d) (σ : Mem) (hO : OKm σ) (A : Mem) (tx : Nat → Txt) (hpre : vwM σ A tx) : Mt yX12_thinnest cX12_thinnest 3 (some .int) d [aR (74)] σ (QI (fun v σ' => v = thinN A (A 10 0).toNat ∧ vwM σ' A tx ∧ Fr F80 σ σ')) := mt_X12_thinnest hd  hO (by
  unfold wp_X12_thinnest
  intro P4 h4
  have hV := hpre
  have hI := hV.2.2.1
  have hc := hI.1
  have e0 : σ 75 0 = A 10 0 := hV.1.1.1
  have e1 : σ 75 1 = A 10 1 := hV.1.1.2.1
  have H : ∀ (n k : Nat), k + n = (A 10 0).toNat → P4 (thinN A k) (k : Int) σ := by
    intro n
    induction n with
    | zero =>
      intro k hk
      have hk2 : k = (A 10 0).toNat := by omega
      subst hk2
      exact h4 _ _ _ (fun _ _ _ => ⟨fun _ => ⟨rfl, hV, Fr.rf _ _⟩, fun h => absurd h (by omega)⟩)
    | succ n ih =>
      intro k hk
      have hr := thinN_r A k
      have ih1 := ih (k + 1) (by omega)
      refine h4 _ _ _ (fun _ _ _ => ⟨fun h => absurd h (by omega), fun _ => ⟨fun h => ⟨by unfold R32; omega, ?_⟩, fun h => ?_⟩⟩)
      · have : thinN A (k + 1) = k := by show (if _ then _ else _) = _; rw [if_pos h]
        rw [this] at ih1
        exact ih1
      · have n1 := hV.2.1.2.1 (k : Int) (by omega) (by omega)
        have n2 := hV.2.1.2.1 (thinN A k) (by omega) (by omega)
        rw [n1, n2]
        refine ⟨by omega, by omega, fun h2 => ⟨by unfold R32; omega, ?_⟩, fun h2 => ⟨by unfold R32; omega, ?_⟩⟩
        · have : thinN A (k + 1) = thinN A k := by show (if _ then _ else _) = _; rw [if_neg h, if_neg (by omega)]
          rw [this] at ih1
          exact ih1
        · have : thinN A (k + 1) = k := by show (if _ then _ else _) = _; rw [if_neg h, if_pos h2]
          rw [this] at ih1
          exact ih1
  exact H _ 0 (Nat.zero_add _))

def wp_X11_busiest  (σ : Mem) (Q : Int → Mem → Prop) : Prop :=
 ∀ P6 : Int → Int → Int → Mem → Prop,
 (∀ (v1 : Int) (v2 : Int) (v3 : Int) (σ : Mem), (R32 v1 → R32 v2 → R32 v3 → OKm σ →
   (((σ 1 9) ≤ v3) →
     Q v1 σ) ∧
    ((v3 < (σ 1 9)) →
     (0 ≤ v3 ∧ v3 < 6) ∧
     (((σ 13 v3) ≤ v2) →
      R32 (v3 + 1) ∧ P6 v1 v2 (v3 + 1) σ) ∧
     ((v2 < (σ 13 v3)) →
      (0 ≤ v3 ∧ v3 < 6) ∧
      R32 (v3 + 1) ∧ P6 v3 (σ 13 v3) (v3 + 1) σ))) → P6 v1 v2 v3 σ) →
  P6 (-1) 0 0 σ
theorem mt_X11_busiest {d : Nat} (hd : 0 ≤ d)  {σ : Mem} {Q : Int → Mem → Prop}  (hO : OKm σ) (h : wp_X11_busiest  σ Q) : Mt yX11_busiest cX11_busiest 4 (some .int) d [aR (0)] σ (QI Q) := by
  refine Mt.intro (by decide +kernel) (Nat.le_of_ble_eq_true rfl) [(0, aR (0))] rfl ?_
  unfold wp_X11_busiest at h
  have h := h (fun (v1 : Int) (v2 : Int) (v3 : Int) (σ : Mem) => R32 v1 → R32 v2 → R32 v3 → OKm σ → G yX11_busiest cX11_busiest 4 (some .int) d (QI Q) 6 [(0, aR (0)), (1, aI (v1)), (2, aI (v2)), (3, aI (v3))] [] σ) ?_
  · refine G_iconst dX11_busiest_0 ?_
    refine G_istore_n (lv' := [(1, aI ((-1))), (0, aR (0))]) rfl rfl (by decide) dX11_busiest_1 ?_
    refine G_iconst dX11_busiest_2 ?_
    refine G_istore_n (lv' := [(2, aI (0)), (1, aI ((-1))), (0, aR (0))]) rfl rfl (by decide) dX11_busiest_3 ?_
    refine G_iconst dX11_busiest_4 ?_
    refine G_istore_n (lv' := [(3, aI (0)), (2, aI (0)), (1, aI ((-1))), (0, aR (0))]) rfl rfl (by decide) dX11_busiest_5 ?_
    exact G_pick [3, 2, 1, 0] rfl (h (rL (-1) rfl) (rL 0 rfl) (rL 0 rfl) hO)
  · intro v1 v2 v3 σ h hv1 hv2 hv3 hO
    have h := h hv1 hv2 hv3 hO
    refine G_iload_n 3 rfl rfl dX11_busiest_6 ?_
    refine G_aload_n 0 rfl rfl dX11_busiest_7 ?_
    refine G_get (k := 0) (kd := (2, 1)) (v := aR 1) gf_X11_10 rfl rfl rfl rfl dX11_busiest_8 ?_
    refine G_get (k := 9) (kd := (0, 0)) (v := aI (σ 1 9)) gf_X11_325 rfl rfl rfl rfl dX11_busiest_11 ?_
    refine G_icmp_ge hv3 (OKm.i hO 1 9 rfl) dX11_busiest_14 (tgt := 48) (by decide) (fun c1 => ?_) (fun c1 => ?_)
    · have h := h.1 c1
      refine G_iload_n 1 rfl rfl dX11_busiest_48 ?_
      exact G_iret rfl hv1 dX11_busiest_49 ⟨_, rfl, h⟩ hO
    · have h := h.2 c1
      refine G_aload_n 0 rfl rfl dX11_busiest_17 ?_
      refine G_get (k := 1) (kd := (2, 10)) (v := aR 10) gf_X11_19 rfl rfl rfl rfl dX11_busiest_18 ?_
      refine G_get (k := 2) (kd := (3, 3)) (v := aR (13)) gf_X11_215 rfl rfl rfl rfl dX11_busiest_21 ?_
      refine G_iload_n 3 rfl rfl dX11_busiest_24 ?_
      obtain ⟨c2, h⟩ := h
      refine G_iald (n := 6) rfl c2.1 c2.2 dX11_busiest_25 ?_
      refine G_iload_n 2 rfl rfl dX11_busiest_26 ?_
      refine G_icmp_le (OKm.i hO 13 v3 (isLg_row (show shp 13 = (1, 6, []) from rfl) _)) hv2 dX11_busiest_27 (tgt := 42) (by decide) (fun c3 => ?_) (fun c3 => ?_)
      · have h := h.1 c3
        refine G_iinc (lv' := [(3, aI ((v3 + 1))), (0, aR (0)), (1, aI (v1)), (2, aI (v2))]) (k := 3) rfl rfl (by decide) dX11_busiest_42 ?_
        refine G_goto (tgt := 6) dX11_busiest_45 (by decide) ?_
        obtain ⟨c4, h⟩ := h
        exact G_pick [1, 2, 3, 0] rfl (h hv1 hv2 c4 hO)
      · have h := h.2 c3
        refine G_iload_n 3 rfl rfl dX11_busiest_30 ?_
        refine G_istore_n (lv' := [(1, aI (v3)), (0, aR (0)), (2, aI (v2)), (3, aI (v3))]) rfl rfl (by decide) dX11_busiest_31 ?_
        refine G_aload_n 1 rfl rfl dX11_busiest_32 ?_
        refine G_get (k := 1) (kd := (2, 10)) (v := aR 10) gf_X11_19 rfl rfl rfl rfl dX11_busiest_33 ?_
        refine G_get (k := 2) (kd := (3, 3)) (v := aR (13)) gf_X11_215 rfl rfl rfl rfl dX11_busiest_36 ?_
        refine G_iload_n 3 rfl rfl dX11_busiest_39 ?_
        obtain ⟨c5, h⟩ := h
        refine G_iald (n := 6) rfl c5.1 c5.2 dX11_busiest_40 ?_
        refine G_istore_n (lv' := [(2, aI ((σ 13 v3))), (1, aI (v3)), (0, aR (0)), (3, aI (v3))]) rfl rfl (by decide) dX11_busiest_41 ?_
        refine G_iinc (lv' := [(3, aI ((v3 + 1))), (2, aI ((σ 13 v3))), (1, aI (v3)), (0, aR (0))]) (k := 3) rfl rfl (by decide) dX11_busiest_42 ?_
        refine G_goto (tgt := 6) dX11_busiest_45 (by decide) ?_
        obtain ⟨c6, h⟩ := h
        exact G_pick [3, 2, 1, 0] rfl (h hv3 (OKm.i hO 13 v3 (isLg_row (show shp 13 = (1, 6, []) from rfl) _)) c6 hO)

theorem sp_X11_busiest (d : Nat) (hd : 0 ≤ d) (σ : Mem) (hO : OKm σ) (A : Mem) (tx : Nat → Txt) (hpre : vwC σ A tx) : Mt yX11_busiest cX11_busiest 4 (some .int) d [aR (0)] σ (QI (fun v σ' => v = busyN A (A 10 1).toNat ∧ Fr ScrC σ σ')) := mt_X11_busiest hd  hO (by
  unfold wp_X11_busiest
  intro P6 h6
  have hV := hpre
  have hI := hV.2.2.1
  have hc := hI.1
  have e8 : σ 1 8 = A 10 0 := hV.1.1.1
  have e9 : σ 1 9 = A 10 1 := hV.1.1.2.1
  have H : ∀ (n k : Nat), k + n = (A 10 1).toNat → P6 (busyN A k) (bmost A k) (k : Int) σ := by
    intro n
    induction n with
    | zero =>
      intro k hk
      have hk2 : k = (A 10 1).toNat := by omega
      subst hk2
      exact h6 _ _ _ _ (fun _ _ _ _ => ⟨fun _ => ⟨rfl, Fr.rf _ _⟩, fun h => absurd h (by omega)⟩)
    | succ n ih =>
      intro k hk
      have hr := busyN_r A k
      have ih1 := ih (k + 1) (by omega)
      have n1 := (hV.2.1.2.2.1 (k : Int) (by omega) (by omega)).2
      refine h6 _ _ _ _ (fun _ _ _ _ => ⟨fun h => absurd h (by omega), fun _ => ?_⟩)
      rw [n1]
      refine ⟨by omega, fun h => ⟨by unfold R32; omega, ?_⟩, fun h => ⟨by omega, by unfold R32; omega, ?_⟩⟩
      · have : busyN A (k + 1) = busyN A k := by show (if A 3 (k : Int) > bmost A k then _ else _) = _; rw [if_neg (by omega)]
        have e2 : bmost A (k + 1) = bmost A k := by unfold bmost; rw [this]
        rw [this, e2] at ih1
        exact ih1
      · have : busyN A (k + 1) = k := by show (if A 3 (k : Int) > bmost A k then _ else _) = _; rw [if_pos (by omega)]
        have e2 : bmost A (k + 1) = A 3 (k : Int) := by unfold bmost; rw [this, if_neg (by omega)]
        rw [this, e2] at ih1
        exact ih1
  exact H _ 0 (Nat.zero_add _))

def wp_X12_busiest  (σ : Mem) (Q : Int → Mem → Prop) : Prop :=
 ∀ P4 : Int → Int → Mem → Prop,
 (∀ (v1 : Int) (v2 : Int) (σ : Mem), (R32 v1 → R32 v2 → OKm σ →
   (((σ 75 1) ≤ v2) →
     Q v1 σ) ∧
    ((v2 < (σ 75 1)) →
     (0 ≤ v2 ∧ v2 < 6) ∧
     ((v1 ≠ (-1)) →
      (0 ≤ v1 ∧ v1 < 6) ∧
      (((σ 75 (27 + 2 * v2 + 1)) ≤ (σ 75 (27 + 2 * v1 + 1))) →
       R32 (v2 + 1) ∧ P4 v1 (v2 + 1) σ) ∧
      (((σ 75 (27 + 2 * v1 + 1)) < (σ 75 (27 + 2 * v2 + 1))) →
       R32 (v2 + 1) ∧ P4 v2 (v2 + 1) σ)) ∧
     ((v1 = (-1)) →
      (((σ 75 (27 + 2 * v2 + 1)) ≤ 0) →
       R32 (v2 + 1) ∧ P4 v1 (v2 + 1) σ) ∧
      ((0 < (σ 75 (27 + 2 * v2 + 1))) →
       R32 (v2 + 1) ∧ P4 v2 (v2 + 1) σ)))) → P4 v1 v2 σ) →
  P4 (-1) 0 σ
theorem mt_X12_busiest {d : Nat} (hd : 1 ≤ d)  {σ : Mem} {Q : Int → Mem → Prop}  (hO : OKm σ) (h : wp_X12_busiest  σ Q) : Mt yX12_busiest cX12_busiest 3 (some .int) d [aR (74)] σ (QI Q) := by
  refine Mt.intro (by decide +kernel) (Nat.le_of_ble_eq_true rfl) [(0, aR (74))] rfl ?_
  unfold wp_X12_busiest at h
  have h := h (fun (v1 : Int) (v2 : Int) (σ : Mem) => R32 v1 → R32 v2 → OKm σ → G yX12_busiest cX12_busiest 3 (some .int) d (QI Q) 4 [(0, aR (74)), (1, aI (v1)), (2, aI (v2))] [] σ) ?_
  · refine G_iconst dX12_busiest_0 ?_
    refine G_istore_n (lv' := [(1, aI ((-1))), (0, aR (74))]) rfl rfl (by decide) dX12_busiest_1 ?_
    refine G_iconst dX12_busiest_2 ?_
    refine G_istore_n (lv' := [(2, aI (0)), (1, aI ((-1))), (0, aR (74))]) rfl rfl (by decide) dX12_busiest_3 ?_
    exact G_pick [2, 1, 0] rfl (h (rL (-1) rfl) (rL 0 rfl) hO)
  · intro v1 v2 σ h hv1 hv2 hO
    have h := h hv1 hv2 hO
    refine G_iload_n 2 rfl rfl dX12_busiest_4 ?_
    refine G_aload_n 0 rfl rfl dX12_busiest_5 ?_
    refine G_get (k := 0) (kd := (2, 75)) (v := aR 75) gf_X12_7 rfl rfl rfl rfl dX12_busiest_6 ?_
    refine G_iconst dX12_busiest_9 ?_
    refine G_iald (n := 2119) rfl (by decide) (by decide) dX12_busiest_10 ?_
    refine G_icmp_ge hv2 (OKm.i hO 75 1 (isLg_row (show shp 75 = (1, 2119, []) from rfl) _)) dX12_busiest_11 (tgt := 44) (by decide) (fun c1 => ?_) (fun c1 => ?_)
    · have h := h.1 c1
      refine G_iload_n 1 rfl rfl dX12_busiest_44 ?_
      exact G_iret rfl hv1 dX12_busiest_45 ⟨_, rfl, h⟩ hO
    · have h := h.2 c1
      refine G_aload_n 0 rfl rfl dX12_busiest_14 ?_
      refine G_iload_n 2 rfl rfl dX12_busiest_15 ?_
      obtain ⟨c2, h⟩ := h
      refine G_callV (as := [_]) cf_X12_311 rfl rfl rfl (sp_X12_went (d - 1) (by omega) _ hO _ hv2 c2) (by omega) rfl rfl (Nat.le_of_ble_eq_true rfl) dX12_busiest_16 ?_
      rintro _ _ ⟨_, rfl, rfl, rfl⟩ o4 r3
      refine G_iload_n 1 rfl rfl dX12_busiest_19 ?_
      refine G_iconst dX12_busiest_20 ?_
      refine G_icmp_ne hv1 (rL (-1) rfl) dX12_busiest_21 (tgt := 28) (by decide) (fun c5 => ?_) (fun c5 => ?_)
      · have h := h.1 c5
        refine G_aload_n 0 rfl rfl dX12_busiest_28 ?_
        refine G_iload_n 1 rfl rfl dX12_busiest_29 ?_
        obtain ⟨c6, h⟩ := h
        refine G_callV (as := [_]) cf_X12_311 rfl rfl rfl (sp_X12_went (d - 1) (by omega) _ hO _ hv1 c6) (by omega) rfl rfl (Nat.le_of_ble_eq_true rfl) dX12_busiest_30 ?_
        rintro _ _ ⟨_, rfl, rfl, rfl⟩ o8 r7
        refine G_icmp_le (r3 _ rfl) (r7 _ rfl) dX12_busiest_33 (tgt := 38) (by decide) (fun c9 => ?_) (fun c9 => ?_)
        · have h := h.1 c9
          refine G_iinc (lv' := [(2, aI ((v2 + 1))), (0, aR (74)), (1, aI (v1))]) (k := 2) rfl rfl (by decide) dX12_busiest_38 ?_
          refine G_goto (tgt := 4) dX12_busiest_41 (by decide) ?_
          obtain ⟨c10, h⟩ := h
          exact G_pick [1, 2, 0] rfl (h hv1 c10 hO)
        · have h := h.2 c9
          refine G_iload_n 2 rfl rfl dX12_busiest_36 ?_
          refine G_istore_n (lv' := [(1, aI (v2)), (0, aR (74)), (2, aI (v2))]) rfl rfl (by decide) dX12_busiest_37 ?_
          refine G_iinc (lv' := [(2, aI ((v2 + 1))), (1, aI (v2)), (0, aR (74))]) (k := 2) rfl rfl (by decide) dX12_busiest_38 ?_
          refine G_goto (tgt := 4) dX12_busiest_41 (by decide) ?_
          obtain ⟨c11, h⟩ := h
          exact G_pick [2, 1, 0] rfl (h hv2 c11 hO)
      · have h := h.2 c5
        refine G_iconst dX12_busiest_24 ?_
        refine G_goto (tgt := 33) dX12_busiest_25 (by decide) ?_
        refine G_icmp_le (r3 _ rfl) (rL 0 rfl) dX12_busiest_33 (tgt := 38) (by decide) (fun c12 => ?_) (fun c12 => ?_)
        · have h := h.1 c12
          refine G_iinc (lv' := [(2, aI ((v2 + 1))), (0, aR (74)), (1, aI (v1))]) (k := 2) rfl rfl (by decide) dX12_busiest_38 ?_
          refine G_goto (tgt := 4) dX12_busiest_41 (by decide) ?_
          obtain ⟨c13, h⟩ := h
          exact G_pick [1, 2, 0] rfl (h hv1 c13 hO)
        · have h := h.2 c12
          refine G_iload_n 2 rfl rfl dX12_busiest_36 ?_
          refine G_istore_n (lv' := [(1, aI (v2)), (0, aR (74)), (2, aI (v2))]) rfl rfl (by decide) dX12_busiest_37 ?_
          refine G_iinc (lv' := [(2, aI ((v2 + 1))), (1, aI (v2)), (0, aR (74))]) (k := 2) rfl rfl (by decide) dX12_busiest_38 ?_
          refine G_goto (tgt := 4) dX12_busiest_41 (by decide) ?_
          obtain ⟨c14, h⟩ := h
          exact G_pick [2, 1, 0] rfl (h hv2 c14 hO)

theorem sp_X12_busiest (d : Nat) (hd : 1 ≤ d) (σ : Mem) (hO : OKm σ) (A : Mem) (tx : Nat → Txt) (hpre : vwM σ A tx) : Mt yX12_busiest cX12_busiest 3 (some .int) d [aR (74)] σ (QI (fun v σ' => v = busyN A (A 10 1).toNat ∧ vwM σ' A tx ∧ Fr F80 σ σ')) := mt_X12_busiest hd  hO (by
  unfold wp_X12_busiest
  intro P4 h4
  have hV := hpre
  have hI := hV.2.2.1
  have hc := hI.1
  have e0 : σ 75 0 = A 10 0 := hV.1.1.1
  have e1 : σ 75 1 = A 10 1 := hV.1.1.2.1
  have H : ∀ (n k : Nat), k + n = (A 10 1).toNat → P4 (busyN A k) (k : Int) σ := by
    intro n
    induction n with
    | zero =>
      intro k hk
      have hk2 : k = (A 10 1).toNat := by omega
      subst hk2
      exact h4 _ _ _ (fun _ _ _ => ⟨fun _ => ⟨rfl, hV, Fr.rf _ _⟩, fun h => absurd h (by omega)⟩)
    | succ n ih =>
      intro k hk
      have hr := busyN_r A k
      have ih1 := ih (k + 1) (by omega)
      have n1 := (hV.2.1.2.2.1 (k : Int) (by omega) (by omega)).2
      have hno : A 3 (k : Int) ≤ bmost A k → P4 (busyN A k) ((k : Int) + 1) σ := fun h => by
        have : busyN A (k + 1) = busyN A k := by show (if A 3 (k : Int) > bmost A k then _ else _) = _; rw [if_neg (by omega)]
        rw [this] at ih1; exact ih1
      have hyes : bmost A k < A 3 (k : Int) → P4 (k : Int) ((k : Int) + 1) σ := fun h => by
        have : busyN A (k + 1) = k := by show (if A 3 (k : Int) > bmost A k then _ else _) = _; rw [if_pos (by omega)]
        rw [this] at ih1; exact ih1
      refine h4 _ _ _ (fun _ _ _ => ⟨fun h => absurd h (by omega), fun _ => ?_⟩)
      rw [n1]
      refine ⟨by omega, fun hb => ?_, fun hb => ?_⟩
      · have n2 := (hV.2.1.2.2.1 (busyN A k) (by omega) (by omega)).2
        have eb : bmost A k = A 3 (busyN A k) := by unfold bmost; rw [if_neg hb]
        rw [n2]
        exact ⟨by omega, fun h => ⟨by unfold R32; omega, hno (by omega)⟩, fun h => ⟨by unfold R32; omega, hyes (by omega)⟩⟩
      · have eb : bmost A k = 0 := by unfold bmost; rw [if_pos hb]
        exact ⟨fun h => ⟨by unfold R32; omega, hno (by omega)⟩, fun h => ⟨by unfold R32; omega, hyes (by omega)⟩⟩
  exact H _ 0 (Nat.zero_add _))

def wp_X11_stranded  (σ : Mem) (Q : Int → Mem → Prop) : Prop :=
 ∀ P4 : Int → Int → Mem → Prop,
 (∀ (v1 : Int) (v2 : Int) (σ : Mem), (R32 v1 → R32 v2 → OKm σ →
   (((σ 1 9) ≤ v2) →
     Q v1 σ) ∧
    ((v2 < (σ 1 9)) →
     ∃ g2 : Mem, ∃ g3 : Nat → Txt, (vwC σ g2 g3 ∧ (0 ≤ v2 ∧ v2 < g2 10 1)) ∧
     ∀ (u8 : Int) (σ7 : Mem), R32 u8 → OKm σ7 → (u8 = opS g2 g3 v2 ∧ Fr [37] σ σ7) →
     ((u8 ≠ 0) →
      R32 (v2 + 1) ∧ P4 v1 (v2 + 1) σ7) ∧
     ((u8 = 0) →
      R32 (v2 + 1) ∧ P4 (bOr v1 (bShl 1 v2)) (v2 + 1) σ7))) → P4 v1 v2 σ) →
  P4 0 0 σ
theorem mt_X11_stranded {d : Nat} (hd : 5 ≤ d)  {σ : Mem} {Q : Int → Mem → Prop}  (hO : OKm σ) (h : wp_X11_stranded  σ Q) : Mt yX11_stranded cX11_stranded 3 (some .int) d [aR (0)] σ (QI Q) := by
  refine Mt.intro (by decide +kernel) (Nat.le_of_ble_eq_true rfl) [(0, aR (0))] rfl ?_
  unfold wp_X11_stranded at h
  have h := h (fun (v1 : Int) (v2 : Int) (σ : Mem) => R32 v1 → R32 v2 → OKm σ → G yX11_stranded cX11_stranded 3 (some .int) d (QI Q) 4 [(0, aR (0)), (1, aI (v1)), (2, aI (v2))] [] σ) ?_
  · refine G_iconst dX11_stranded_0 ?_
    refine G_istore_n (lv' := [(1, aI (0)), (0, aR (0))]) rfl rfl (by decide) dX11_stranded_1 ?_
    refine G_iconst dX11_stranded_2 ?_
    refine G_istore_n (lv' := [(2, aI (0)), (1, aI (0)), (0, aR (0))]) rfl rfl (by decide) dX11_stranded_3 ?_
    exact G_pick [2, 1, 0] rfl (h (rL 0 rfl) (rL 0 rfl) hO)
  · intro v1 v2 σ h hv1 hv2 hO
    have h := h hv1 hv2 hO
    refine G_iload_n 2 rfl rfl dX11_stranded_4 ?_
    refine G_aload_n 0 rfl rfl dX11_stranded_5 ?_
    refine G_get (k := 0) (kd := (2, 1)) (v := aR 1) gf_X11_10 rfl rfl rfl rfl dX11_stranded_6 ?_
    refine G_get (k := 9) (kd := (0, 0)) (v := aI (σ 1 9)) gf_X11_325 rfl rfl rfl rfl dX11_stranded_9 ?_
    refine G_icmp_ge hv2 (OKm.i hO 1 9 rfl) dX11_stranded_12 (tgt := 38) (by decide) (fun c1 => ?_) (fun c1 => ?_)
    · have h := h.1 c1
      refine G_iload_n 1 rfl rfl dX11_stranded_38 ?_
      exact G_iret rfl hv1 dX11_stranded_39 ⟨_, rfl, h⟩ hO
    · have h := h.2 c1
      refine G_aload_n 0 rfl rfl dX11_stranded_15 ?_
      refine G_get (k := 10) (kd := (2, 38)) (v := aR 38) gf_X11_76 rfl rfl rfl rfl dX11_stranded_16 ?_
      refine G_iload_n 2 rfl rfl dX11_stranded_19 ?_
      obtain ⟨g2, g3, c4, h⟩ := h
      refine G_callV (as := [_]) cf_X11_218 rfl rfl rfl (sp_X0_openRoads (d - 1) (by omega) _ hO _ hv2 g2 g3 c4) (by omega) rfl rfl (Nat.le_of_ble_eq_true rfl) dX11_stranded_20 ?_
      rintro _ σ7 ⟨u8, rfl, z9⟩ o6 r5
      have h := h _ _ (r5 _ rfl) o6 z9
      refine G_if_ne (r5 _ rfl) dX11_stranded_23 (tgt := 32) (by decide) (fun c10 => ?_) (fun c10 => ?_)
      · have h := h.1 c10
        refine G_iinc (lv' := [(2, aI ((v2 + 1))), (0, aR (0)), (1, aI (v1))]) (k := 2) rfl rfl (by decide) dX11_stranded_32 ?_
        refine G_goto (tgt := 4) dX11_stranded_35 (by decide) ?_
        obtain ⟨c11, h⟩ := h
        exact G_pick [1, 2, 0] rfl (h hv1 c11 o6)
      · have h := h.2 c10
        refine G_iload_n 1 rfl rfl dX11_stranded_26 ?_
        refine G_iconst dX11_stranded_27 ?_
        refine G_iload_n 2 rfl rfl dX11_stranded_28 ?_
        refine G_ishl dX11_stranded_29 ?_
        refine G_ior dX11_stranded_30 ?_
        refine G_istore_n (lv' := [(1, aI ((bOr v1 (bShl 1 v2)))), (0, aR (0)), (2, aI (v2))]) rfl rfl (by decide) dX11_stranded_31 ?_
        refine G_iinc (lv' := [(2, aI ((v2 + 1))), (1, aI ((bOr v1 (bShl 1 v2)))), (0, aR (0))]) (k := 2) rfl rfl (by decide) dX11_stranded_32 ?_
        refine G_goto (tgt := 4) dX11_stranded_35 (by decide) ?_
        obtain ⟨c12, h⟩ := h
        exact G_pick [2, 1, 0] rfl (h (r32_of _) c12 o6)

theorem sp_X11_stranded (d : Nat) (hd : 5 ≤ d) (σ : Mem) (hO : OKm σ) (A : Mem) (tx : Nat → Txt) (hpre : vwC σ A tx) : Mt yX11_stranded cX11_stranded 3 (some .int) d [aR (0)] σ (QI (fun v σ' => v = strS A tx ∧ Fr ScrC σ σ')) := mt_X11_stranded hd  hO (by
  unfold wp_X11_stranded
  intro P4 h4
  have hV := hpre
  have hI := hV.2.2.1
  have hc := hI.1
  have e8 : σ 1 8 = A 10 0 := hV.1.1.1
  have e9 : σ 1 9 = A 10 1 := hV.1.1.2.1
  have H : ∀ (n k : Nat) (τ : Mem), k + n = (A 10 1).toNat → (Fr [37] σ τ) → P4 (bitsN (fun g => decide (opS A tx (g : Int) = 0)) k) (k : Int) τ := by
    intro n
    induction n with
    | zero =>
      intro k τ hk hF
      have hk2 : k = (A 10 1).toNat := by omega
      subst hk2
      have f9 : τ 1 9 = A 10 1 := by rw [hF 1 (by simp)]; exact e9
      exact h4 _ _ _ (fun _ _ _ => ⟨fun _ => ⟨rfl, fr37 hF⟩, fun h => absurd h (by omega)⟩)
    | succ n ih =>
      intro k τ hk hF
      have f9 : τ 1 9 = A 10 1 := by rw [hF 1 (by simp)]; exact e9
      refine h4 _ _ _ (fun _ _ _ => ⟨fun h => absurd h (by omega), fun _ => ⟨A, tx, ⟨hV.fr (fr37 hF), by omega⟩, ?_⟩⟩)
      intro u σ1 hu hO1 ⟨eu, hF1⟩
      have ih1 := ih (k + 1) σ1 (by omega) (hF.tr hF1)
      refine ⟨fun h => ⟨by unfold R32; omega, ?_⟩, fun h => ⟨by unfold R32; omega, ?_⟩⟩
      · rw [bitsN_f (decide_eq_false (by rw [← eu]; exact h))] at ih1; exact ih1
      · rw [bitsN_or (f := fun g => decide (opS A tx (g : Int) = 0)) (by omega) (decide_eq_true (by rw [← eu]; exact h))]; exact ih1
  exact H _ 0 σ (Nat.zero_add _) (Fr.rf _ _))

def wp_X12_stranded  (σ : Mem) (Q : Int → Mem → Prop) : Prop :=
 ∀ P4 : Int → Int → Mem → Prop,
 (∀ (v1 : Int) (v2 : Int) (σ : Mem), (R32 v1 → R32 v2 → OKm σ →
   (((σ 75 1) ≤ v2) →
     Q v1 σ) ∧
    ((v2 < (σ 75 1)) →
     ∃ g2 : Mem, ∃ g3 : Nat → Txt, (vwM σ g2 g3 ∧ (0 ≤ v2 ∧ v2 < g2 10 1)) ∧
     ∀ (u8 : Int) (σ7 : Mem), R32 u8 → OKm σ7 → (u8 = opS g2 g3 v2 ∧ vwM σ7 g2 g3 ∧ Fr F80 σ σ7) →
     ((u8 ≠ 0) →
      R32 (v2 + 1) ∧ P4 (bOr v1 0) (v2 + 1) σ7) ∧
     ((u8 = 0) →
      R32 (v2 + 1) ∧ P4 (bOr v1 (bShl 1 v2)) (v2 + 1) σ7))) → P4 v1 v2 σ) →
  P4 0 0 σ
theorem mt_X12_stranded {d : Nat} (hd : 8 ≤ d)  {σ : Mem} {Q : Int → Mem → Prop}  (hO : OKm σ) (h : wp_X12_stranded  σ Q) : Mt yX12_stranded cX12_stranded 3 (some .int) d [aR (74)] σ (QI Q) := by
  refine Mt.intro (by decide +kernel) (Nat.le_of_ble_eq_true rfl) [(0, aR (74))] rfl ?_
  unfold wp_X12_stranded at h
  have h := h (fun (v1 : Int) (v2 : Int) (σ : Mem) => R32 v1 → R32 v2 → OKm σ → G yX12_stranded cX12_stranded 3 (some .int) d (QI Q) 4 [(0, aR (74)), (1, aI (v1)), (2, aI (v2))] [] σ) ?_
  · refine G_iconst dX12_stranded_0 ?_
    refine G_istore_n (lv' := [(1, aI (0)), (0, aR (74))]) rfl rfl (by decide) dX12_stranded_1 ?_
    refine G_iconst dX12_stranded_2 ?_
    refine G_istore_n (lv' := [(2, aI (0)), (1, aI (0)), (0, aR (74))]) rfl rfl (by decide) dX12_stranded_3 ?_
    exact G_pick [2, 1, 0] rfl (h (rL 0 rfl) (rL 0 rfl) hO)
  · intro v1 v2 σ h hv1 hv2 hO
    have h := h hv1 hv2 hO
    refine G_iload_n 2 rfl rfl dX12_stranded_4 ?_
    refine G_aload_n 0 rfl rfl dX12_stranded_5 ?_
    refine G_get (k := 0) (kd := (2, 75)) (v := aR 75) gf_X12_7 rfl rfl rfl rfl dX12_stranded_6 ?_
    refine G_iconst dX12_stranded_9 ?_
    refine G_iald (n := 2119) rfl (by decide) (by decide) dX12_stranded_10 ?_
    refine G_icmp_ge hv2 (OKm.i hO 75 1 (isLg_row (show shp 75 = (1, 2119, []) from rfl) _)) dX12_stranded_11 (tgt := 38) (by decide) (fun c1 => ?_) (fun c1 => ?_)
    · have h := h.1 c1
      refine G_iload_n 1 rfl rfl dX12_stranded_38 ?_
      exact G_iret rfl hv1 dX12_stranded_39 ⟨_, rfl, h⟩ hO
    · have h := h.2 c1
      refine G_iload_n 1 rfl rfl dX12_stranded_14 ?_
      refine G_aload_n 0 rfl rfl dX12_stranded_15 ?_
      refine G_iload_n 2 rfl rfl dX12_stranded_16 ?_
      obtain ⟨g2, g3, c4, h⟩ := h
      refine G_callV (as := [_]) cf_X12_358 rfl rfl rfl (sp_X12_roadsFor (d - 1) (by omega) _ hO _ hv2 g2 g3 c4) (by omega) rfl rfl (Nat.le_of_ble_eq_true rfl) dX12_stranded_17 ?_
      rintro _ σ7 ⟨u8, rfl, z9⟩ o6 r5
      have h := h _ _ (r5 _ rfl) o6 z9
      refine G_if_ne (r5 _ rfl) dX12_stranded_20 (tgt := 29) (by decide) (fun c10 => ?_) (fun c10 => ?_)
      · have h := h.1 c10
        refine G_iconst dX12_stranded_29 ?_
        refine G_ior dX12_stranded_30 ?_
        refine G_istore_n (lv' := [(1, aI ((bOr v1 0))), (0, aR (74)), (2, aI (v2))]) rfl rfl (by decide) dX12_stranded_31 ?_
        refine G_iinc (lv' := [(2, aI ((v2 + 1))), (1, aI ((bOr v1 0))), (0, aR (74))]) (k := 2) rfl rfl (by decide) dX12_stranded_32 ?_
        refine G_goto (tgt := 4) dX12_stranded_35 (by decide) ?_
        obtain ⟨c11, h⟩ := h
        exact G_pick [2, 1, 0] rfl (h (r32_of _) c11 o6)
      · have h := h.2 c10
        refine G_iconst dX12_stranded_23 ?_
        refine G_iload_n 2 rfl rfl dX12_stranded_24 ?_
        refine G_ishl dX12_stranded_25 ?_
        refine G_goto (tgt := 30) dX12_stranded_26 (by decide) ?_
        refine G_ior dX12_stranded_30 ?_
        refine G_istore_n (lv' := [(1, aI ((bOr v1 (bShl 1 v2)))), (0, aR (74)), (2, aI (v2))]) rfl rfl (by decide) dX12_stranded_31 ?_
        refine G_iinc (lv' := [(2, aI ((v2 + 1))), (1, aI ((bOr v1 (bShl 1 v2)))), (0, aR (74))]) (k := 2) rfl rfl (by decide) dX12_stranded_32 ?_
        refine G_goto (tgt := 4) dX12_stranded_35 (by decide) ?_
        obtain ⟨c12, h⟩ := h
        exact G_pick [2, 1, 0] rfl (h (r32_of _) c12 o6)

theorem sp_X12_stranded (d : Nat) (hd : 8 ≤ d) (σ : Mem) (hO : OKm σ) (A : Mem) (tx : Nat → Txt) (hpre : vwM σ A tx) : Mt yX12_stranded cX12_stranded 3 (some .int) d [aR (74)] σ (QI (fun v σ' => v = strS A tx ∧ vwM σ' A tx ∧ Fr F80 σ σ')) := mt_X12_stranded hd  hO (by
  unfold wp_X12_stranded
  intro P4 h4
  have hV := hpre
  have hI := hV.2.2.1
  have hc := hI.1
  have e0 : σ 75 0 = A 10 0 := hV.1.1.1
  have e1 : σ 75 1 = A 10 1 := hV.1.1.2.1
  have H : ∀ (n k : Nat) (τ : Mem), k + n = (A 10 1).toNat → (vwM τ A tx) → (Fr F80 σ τ) → P4 (bitsN (fun g => decide (opS A tx (g : Int) = 0)) k) (k : Int) τ := by
    intro n
    induction n with
    | zero =>
      intro k τ hk hVt hF
      have hk2 : k = (A 10 1).toNat := by omega
      subst hk2
      have f9 : τ 75 1 = A 10 1 := hVt.1.1.2.1
      exact h4 _ _ _ (fun _ _ _ => ⟨fun _ => ⟨rfl, hVt, hF⟩, fun h => absurd h (by omega)⟩)
    | succ n ih =>
      intro k τ hk hVt hF
      have f9 : τ 75 1 = A 10 1 := hVt.1.1.2.1
      refine h4 _ _ _ (fun _ _ _ => ⟨fun h => absurd h (by omega), fun _ => ⟨A, tx, ⟨hVt, by omega⟩, ?_⟩⟩)
      intro u σ1 hu hO1 ⟨eu, hV1, hF1⟩
      have ih1 := ih (k + 1) σ1 (by omega) hV1 (hF.tr hF1)
      refine ⟨fun h => ⟨by unfold R32; omega, ?_⟩, fun h => ⟨by unfold R32; omega, ?_⟩⟩
      · rw [bitsN_or0 (f := fun g => decide (opS A tx (g : Int) = 0)) (by omega) (decide_eq_false (by rw [← eu]; exact h))]; exact ih1
      · rw [bitsN_or (f := fun g => decide (opS A tx (g : Int) = 0)) (by omega) (decide_eq_true (by rw [← eu]; exact h))]; exact ih1
  exact H _ 0 σ (Nat.zero_add _) hV (Fr.rf _ _))

def wp_X11_whose  (σ : Mem) (Q : Int → Mem → Prop) : Prop :=
 ∀ P4 : Int → Int → Mem → Prop,
 (∀ (v1 : Int) (v2 : Int) (σ : Mem), (R32 v1 → R32 v2 → OKm σ →
   (((σ 1 10) ≤ v2) →
     Q v1 σ) ∧
    ((v2 < (σ 1 10)) →
     ∃ g2 : Mem, ∃ g3 : Nat → Txt, (vwC σ g2 g3 ∧ (-1 ≤ v2 ∧ v2 < g2 10 2)) ∧
     ∀ (u8 : Int) (σ7 : Mem), R32 u8 → OKm σ7 → (u8 = (if agS g2 g3 v2 then 1 else 0) ∧ Fr [37] σ σ7) →
     ((u8 = 0) →
      R32 (v2 + 1) ∧ P4 v1 (v2 + 1) σ7) ∧
     ((u8 ≠ 0) →
      R32 (v2 + 1) ∧ P4 (bOr v1 (bShl 1 v2)) (v2 + 1) σ7))) → P4 v1 v2 σ) →
  P4 0 0 σ
theorem mt_X11_whose {d : Nat} (hd : 5 ≤ d)  {σ : Mem} {Q : Int → Mem → Prop}  (hO : OKm σ) (h : wp_X11_whose  σ Q) : Mt yX11_whose cX11_whose 3 (some .int) d [aR (0)] σ (QI Q) := by
  refine Mt.intro (by decide +kernel) (Nat.le_of_ble_eq_true rfl) [(0, aR (0))] rfl ?_
  unfold wp_X11_whose at h
  have h := h (fun (v1 : Int) (v2 : Int) (σ : Mem) => R32 v1 → R32 v2 → OKm σ → G yX11_whose cX11_whose 3 (some .int) d (QI Q) 4 [(0, aR (0)), (1, aI (v1)), (2, aI (v2))] [] σ) ?_
  · refine G_iconst dX11_whose_0 ?_
    refine G_istore_n (lv' := [(1, aI (0)), (0, aR (0))]) rfl rfl (by decide) dX11_whose_1 ?_
    refine G_iconst dX11_whose_2 ?_
    refine G_istore_n (lv' := [(2, aI (0)), (1, aI (0)), (0, aR (0))]) rfl rfl (by decide) dX11_whose_3 ?_
    exact G_pick [2, 1, 0] rfl (h (rL 0 rfl) (rL 0 rfl) hO)
  · intro v1 v2 σ h hv1 hv2 hO
    have h := h hv1 hv2 hO
    refine G_iload_n 2 rfl rfl dX11_whose_4 ?_
    refine G_aload_n 0 rfl rfl dX11_whose_5 ?_
    refine G_get (k := 0) (kd := (2, 1)) (v := aR 1) gf_X11_10 rfl rfl rfl rfl dX11_whose_6 ?_
    refine G_get (k := 10) (kd := (0, 0)) (v := aI (σ 1 10)) gf_X11_127 rfl rfl rfl rfl dX11_whose_9 ?_
    refine G_icmp_ge hv2 (OKm.i hO 1 10 rfl) dX11_whose_12 (tgt := 38) (by decide) (fun c1 => ?_) (fun c1 => ?_)
    · have h := h.1 c1
      refine G_iload_n 1 rfl rfl dX11_whose_38 ?_
      exact G_iret rfl hv1 dX11_whose_39 ⟨_, rfl, h⟩ hO
    · have h := h.2 c1
      refine G_aload_n 0 rfl rfl dX11_whose_15 ?_
      refine G_get (k := 9) (kd := (2, 36)) (v := aR 36) gf_X11_67 rfl rfl rfl rfl dX11_whose_16 ?_
      refine G_iload_n 2 rfl rfl dX11_whose_19 ?_
      obtain ⟨g2, g3, c4, h⟩ := h
      refine G_callV (as := [_]) cf_X11_335 rfl rfl rfl (sp_X2_agrees (d - 1) (by omega) _ hO _ hv2 g2 g3 c4) (by omega) rfl rfl (Nat.le_of_ble_eq_true rfl) dX11_whose_20 ?_
      rintro _ σ7 ⟨u8, rfl, z9⟩ o6 r5
      have h := h _ _ (r5 _ rfl) o6 z9
      refine G_if_eq (r5 _ rfl) dX11_whose_23 (tgt := 32) (by decide) (fun c10 => ?_) (fun c10 => ?_)
      · have h := h.1 c10
        refine G_iinc (lv' := [(2, aI ((v2 + 1))), (0, aR (0)), (1, aI (v1))]) (k := 2) rfl rfl (by decide) dX11_whose_32 ?_
        refine G_goto (tgt := 4) dX11_whose_35 (by decide) ?_
        obtain ⟨c11, h⟩ := h
        exact G_pick [1, 2, 0] rfl (h hv1 c11 o6)
      · have h := h.2 c10
        refine G_iload_n 1 rfl rfl dX11_whose_26 ?_
        refine G_iconst dX11_whose_27 ?_
        refine G_iload_n 2 rfl rfl dX11_whose_28 ?_
        refine G_ishl dX11_whose_29 ?_
        refine G_ior dX11_whose_30 ?_
        refine G_istore_n (lv' := [(1, aI ((bOr v1 (bShl 1 v2)))), (0, aR (0)), (2, aI (v2))]) rfl rfl (by decide) dX11_whose_31 ?_
        refine G_iinc (lv' := [(2, aI ((v2 + 1))), (1, aI ((bOr v1 (bShl 1 v2)))), (0, aR (0))]) (k := 2) rfl rfl (by decide) dX11_whose_32 ?_
        refine G_goto (tgt := 4) dX11_whose_35 (by decide) ?_
        obtain ⟨c12, h⟩ := h
        exact G_pick [2, 1, 0] rfl (h (r32_of _) c12 o6)

theorem sp_X11_whose (d : Nat) (hd : 5 ≤ d) (σ : Mem) (hO : OKm σ) (A : Mem) (tx : Nat → Txt) (hpre : vwC σ A tx) : Mt yX11_whose cX11_whose 3 (some .int) d [aR (0)] σ (QI (fun v σ' => v = whoseS A tx ∧ Fr ScrC σ σ')) := mt_X11_whose hd  hO (by
  unfold wp_X11_whose
  intro P4 h4
  have hV := hpre
  have hI := hV.2.2.1
  have hc := hI.1
  have e8 : σ 1 8 = A 10 0 := hV.1.1.1
  have e9 : σ 1 9 = A 10 1 := hV.1.1.2.1
  have e10 : σ 1 10 = A 10 2 := hV.1.1.2.2.1
  have H : ∀ (n k : Nat) (τ : Mem), k + n = (A 10 2).toNat → (Fr [37] σ τ) → P4 (bitsN (fun t => agS A tx (t : Int)) k) (k : Int) τ := by
    intro n
    induction n with
    | zero =>
      intro k τ hk hF
      have hk2 : k = (A 10 2).toNat := by omega
      subst hk2
      have f9 : τ 1 10 = A 10 2 := by rw [hF 1 (by simp)]; exact e10
      exact h4 _ _ _ (fun _ _ _ => ⟨fun _ => ⟨rfl, fr37 hF⟩, fun h => absurd h (by omega)⟩)
    | succ n ih =>
      intro k τ hk hF
      have f9 : τ 1 10 = A 10 2 := by rw [hF 1 (by simp)]; exact e10
      refine h4 _ _ _ (fun _ _ _ => ⟨fun h => absurd h (by omega), fun _ => ⟨A, tx, ⟨hV.fr (fr37 hF), by omega⟩, ?_⟩⟩)
      intro u σ1 hu hO1 ⟨eu, hF1⟩
      have ih1 := ih (k + 1) σ1 (by omega) (hF.tr hF1)
      cases hag : agS A tx (k : Int) with
      | false =>
        rw [hag] at eu
        have eu : u = 0 := by simpa using eu
        refine ⟨fun h => ⟨by unfold R32; omega, ?_⟩, fun h => absurd eu h⟩
        rw [bitsN_f hag] at ih1; exact ih1
      | true =>
        rw [hag, if_pos rfl] at eu
        refine ⟨fun h => absurd h (by omega), fun h => ⟨by unfold R32; omega, ?_⟩⟩
        rw [bitsN_or (f := fun t => agS A tx (t : Int)) (by omega) hag]; exact ih1
  exact H _ 0 σ (Nat.zero_add _) (Fr.rf _ _))

def wp_X12_whose  (σ : Mem) (Q : Int → Mem → Prop) : Prop :=
 ∀ P4 : Int → Int → Mem → Prop,
 ∀ P20 : Int → Int → Int → Int → Mem → Prop,
 (∀ (v1 : Int) (v2 : Int) (σ : Mem), (R32 v1 → R32 v2 → OKm σ →
   (((σ 75 2) ≤ v2) →
     Q v1 σ) ∧
    ((v2 < (σ 75 2)) →
     P20 v1 v2 1 115 σ)) → P4 v1 v2 σ) →
 (∀ (v1 : Int) (v2 : Int) (v3 : Int) (v4 : Int) (σ : Mem), (R32 v1 → R32 v2 → R32 v3 → R32 v4 → OKm σ →
   R32 (115 + (3 * (σ 75 5))) ∧
    (((115 + (3 * (σ 75 5))) ≤ v4) →
     ((v3 = 0) →
      R32 (v2 + 1) ∧ P4 (bOr v1 0) (v2 + 1) σ) ∧
     ((v3 ≠ 0) →
      R32 (v2 + 1) ∧ P4 (bOr v1 (bShl 1 v2)) (v2 + 1) σ)) ∧
    ((v4 < (115 + (3 * (σ 75 5)))) →
     ((v3 = 0) →
      R32 (v4 + 3) ∧ P20 v1 v2 0 (v4 + 3) σ) ∧
     ((v3 ≠ 0) →
      (0 ≤ v4 ∧ v4 < 2119) ∧
      (0 ≤ (v4 + 1) ∧ (v4 + 1) < 2119) ∧
      ∃ g11 : Mem, ∃ g12 : Nat → Txt, (vwM σ g11 g12 ∧ (-1 ≤ v2 ∧ v2 < g11 10 2) ∧ (0 ≤ (σ 75 v4) ∧ (σ 75 v4) < g11 10 1) ∧ (0 ≤ (σ 75 (v4 + 1)) ∧ (σ 75 (v4 + 1)) < g11 10 0)) ∧
      ∀ (u17 : Int) (σ16 : Mem), R32 u17 → OKm σ16 → (u17 = skS g11 g12 v2 (σ 75 v4) (σ 75 (v4 + 1)) ∧ vwM σ16 g11 g12 ∧ Fr [80, 81, 82] σ σ16) →
      (0 ≤ (v4 + 2) ∧ (v4 + 2) < 2119) ∧
      ((u17 ≠ (σ16 75 (v4 + 2))) →
       R32 (v4 + 3) ∧ P20 v1 v2 0 (v4 + 3) σ16) ∧
      ((u17 = (σ16 75 (v4 + 2))) →
       R32 (v4 + 3) ∧ P20 v1 v2 1 (v4 + 3) σ16)))) → P20 v1 v2 v3 v4 σ) →
  P4 0 0 σ
theorem mt_X12_whose {d : Nat} (hd : 5 ≤ d)  {σ : Mem} {Q : Int → Mem → Prop}  (hO : OKm σ) (h : wp_X12_whose  σ Q) : Mt yX12_whose cX12_whose 5 (some .int) d [aR (74)] σ (QI Q) := by
  refine Mt.intro (by decide +kernel) (Nat.le_of_ble_eq_true rfl) [(0, aR (74))] rfl ?_
  unfold wp_X12_whose at h
  have h := h (fun (v1 : Int) (v2 : Int) (σ : Mem) => R32 v1 → R32 v2 → OKm σ → G yX12_whose cX12_whose 5 (some .int) d (QI Q) 4 [(0, aR (74)), (1, aI (v1)), (2, aI (v2))] [] σ)
    (fun (v1 : Int) (v2 : Int) (v3 : Int) (v4 : Int) (σ : Mem) => R32 v1 → R32 v2 → R32 v3 → R32 v4 → OKm σ → G yX12_whose cX12_whose 5 (some .int) d (QI Q) 20 [(0, aR (74)), (1, aI (v1)), (2, aI (v2)), (3, aI (v3)), (4, aI (v4))] [] σ) ?_ ?_
  · refine G_iconst dX12_whose_0 ?_
    refine G_istore_n (lv' := [(1, aI (0)), (0, aR (74))]) rfl rfl (by decide) dX12_whose_1 ?_
    refine G_iconst dX12_whose_2 ?_
    refine G_istore_n (lv' := [(2, aI (0)), (1, aI (0)), (0, aR (74))]) rfl rfl (by decide) dX12_whose_3 ?_
    exact G_pick [2, 1, 0] rfl (h (rL 0 rfl) (rL 0 rfl) hO)
  · intro v1 v2 σ h hv1 hv2 hO
    have h := h hv1 hv2 hO
    refine G_iload_n 2 rfl rfl dX12_whose_4 ?_
    refine G_aload_n 0 rfl rfl dX12_whose_5 ?_
    refine G_get (k := 0) (kd := (2, 75)) (v := aR 75) gf_X12_7 rfl rfl rfl rfl dX12_whose_6 ?_
    refine G_iconst dX12_whose_9 ?_
    refine G_iald (n := 2119) rfl (by decide) (by decide) dX12_whose_10 ?_
    refine G_icmp_ge hv2 (OKm.i hO 75 2 (isLg_row (show shp 75 = (1, 2119, []) from rfl) _)) dX12_whose_11 (tgt := 105) (by decide) (fun c1 => ?_) (fun c1 => ?_)
    · have h := h.1 c1
      refine G_iload_n 1 rfl rfl dX12_whose_105 ?_
      exact G_iret rfl hv1 dX12_whose_106 ⟨_, rfl, h⟩ hO
    · have h := h.2 c1
      refine G_iconst dX12_whose_14 ?_
      refine G_istore_n (lv' := [(3, aI (1)), (0, aR (74)), (1, aI (v1)), (2, aI (v2))]) rfl rfl (by decide) dX12_whose_15 ?_
      refine G_bipush (by decide) dX12_whose_16 ?_
      refine G_istore (lv' := [(4, aI (115)), (3, aI (1)), (0, aR (74)), (1, aI (v1)), (2, aI (v2))]) rfl (by decide) dX12_whose_18 ?_
      exact G_pick [2, 3, 4, 1, 0] rfl (h hv1 hv2 (rL 1 rfl) (rL 115 rfl) hO)
  · intro v1 v2 v3 v4 σ h hv1 hv2 hv3 hv4 hO
    have h := h hv1 hv2 hv3 hv4 hO
    refine G_iload 4 rfl dX12_whose_20 ?_
    refine G_bipush (by decide) dX12_whose_22 ?_
    refine G_iconst dX12_whose_24 ?_
    refine G_aload_n 0 rfl rfl dX12_whose_25 ?_
    refine G_get (k := 0) (kd := (2, 75)) (v := aR 75) gf_X12_7 rfl rfl rfl rfl dX12_whose_26 ?_
    refine G_iconst dX12_whose_29 ?_
    refine G_iald (n := 2119) rfl (by decide) (by decide) dX12_whose_30 ?_
    refine G_imul dX12_whose_31 ?_
    refine G_iadd dX12_whose_32 ?_
    obtain ⟨c2, h⟩ := h
    refine G_icmp_ge hv4 c2 dX12_whose_33 (tgt := 85) (by decide) (fun c3 => ?_) (fun c3 => ?_)
    · have h := h.1 c3
      refine G_iload_n 1 rfl rfl dX12_whose_85 ?_
      refine G_iload_n 3 rfl rfl dX12_whose_86 ?_
      refine G_if_eq hv3 dX12_whose_87 (tgt := 96) (by decide) (fun c4 => ?_) (fun c4 => ?_)
      · have h := h.1 c4
        refine G_iconst dX12_whose_96 ?_
        refine G_ior dX12_whose_97 ?_
        refine G_istore_n (lv' := [(1, aI ((bOr v1 0))), (0, aR (74)), (2, aI (v2)), (3, aI (v3)), (4, aI (v4))]) rfl rfl (by decide) dX12_whose_98 ?_
        refine G_iinc (lv' := [(2, aI ((v2 + 1))), (1, aI ((bOr v1 0))), (0, aR (74)), (3, aI (v3)), (4, aI (v4))]) (k := 2) rfl rfl (by decide) dX12_whose_99 ?_
        refine G_goto (tgt := 4) dX12_whose_102 (by decide) ?_
        obtain ⟨c5, h⟩ := h
        exact G_pick [2, 1, 0] rfl (h (r32_of _) c5 hO)
      · have h := h.2 c4
        refine G_iconst dX12_whose_90 ?_
        refine G_iload_n 2 rfl rfl dX12_whose_91 ?_
        refine G_ishl dX12_whose_92 ?_
        refine G_goto (tgt := 97) dX12_whose_93 (by decide) ?_
        refine G_ior dX12_whose_97 ?_
        refine G_istore_n (lv' := [(1, aI ((bOr v1 (bShl 1 v2)))), (0, aR (74)), (2, aI (v2)), (3, aI (v3)), (4, aI (v4))]) rfl rfl (by decide) dX12_whose_98 ?_
        refine G_iinc (lv' := [(2, aI ((v2 + 1))), (1, aI ((bOr v1 (bShl 1 v2)))), (0, aR (74)), (3, aI (v3)), (4, aI (v4))]) (k := 2) rfl rfl (by decide) dX12_whose_99 ?_
        refine G_goto (tgt := 4) dX12_whose_102 (by decide) ?_
        obtain ⟨c6, h⟩ := h
        exact G_pick [2, 1, 0] rfl (h (r32_of _) c6 hO)
    · have h := h.2 c3
      refine G_iload_n 3 rfl rfl dX12_whose_36 ?_
      refine G_if_eq hv3 dX12_whose_37 (tgt := 77) (by decide) (fun c7 => ?_) (fun c7 => ?_)
      · have h := h.1 c7
        refine G_iconst dX12_whose_77 ?_
        refine G_istore_n (lv' := [(3, aI (0)), (0, aR (74)), (1, aI (v1)), (2, aI (v2)), (4, aI (v4))]) rfl rfl (by decide) dX12_whose_78 ?_
        refine G_iinc (lv' := [(4, aI ((v4 + 3))), (3, aI (0)), (0, aR (74)), (1, aI (v1)), (2, aI (v2))]) (k := 4) rfl rfl (by decide) dX12_whose_79 ?_
        refine G_goto (tgt := 20) dX12_whose_82 (by decide) ?_
        obtain ⟨c8, h⟩ := h
        exact G_pick [2, 3, 4, 1, 0] rfl (h hv1 hv2 (rL 0 rfl) c8 hO)
      · have h := h.2 c7
        refine G_aload_n 0 rfl rfl dX12_whose_40 ?_
        refine G_iload_n 2 rfl rfl dX12_whose_41 ?_
        refine G_aload_n 0 rfl rfl dX12_whose_42 ?_
        refine G_get (k := 0) (kd := (2, 75)) (v := aR 75) gf_X12_7 rfl rfl rfl rfl dX12_whose_43 ?_
        refine G_iload 4 rfl dX12_whose_46 ?_
        obtain ⟨c9, h⟩ := h
        refine G_iald (n := 2119) rfl c9.1 c9.2 dX12_whose_48 ?_
        refine G_aload_n 0 rfl rfl dX12_whose_49 ?_
        refine G_get (k := 0) (kd := (2, 75)) (v := aR 75) gf_X12_7 rfl rfl rfl rfl dX12_whose_50 ?_
        refine G_iload 4 rfl dX12_whose_53 ?_
        refine G_iconst dX12_whose_55 ?_
        refine G_iadd dX12_whose_56 ?_
        obtain ⟨c10, h⟩ := h
        refine G_iald (n := 2119) rfl c10.1 c10.2 dX12_whose_57 ?_
        obtain ⟨g11, g12, c13, h⟩ := h
        refine G_callV (as := [_, _, _]) cf_X12_327 rfl rfl rfl (sp_X12_sucksOf (d - 1) (by omega) _ hO _ hv2 _ (OKm.i hO 75 v4 (isLg_row (show shp 75 = (1, 2119, []) from rfl) _)) _ (OKm.i hO 75 (v4 + 1) (isLg_row (show shp 75 = (1, 2119, []) from rfl) _)) g11 g12 c13) (by omega) rfl rfl (Nat.le_of_ble_eq_true rfl) dX12_whose_58 ?_
        rintro _ σ16 ⟨u17, rfl, z18⟩ o15 r14
        have h := h _ _ (r14 _ rfl) o15 z18
        refine G_aload_n 0 rfl rfl dX12_whose_61 ?_
        refine G_get (k := 0) (kd := (2, 75)) (v := aR 75) gf_X12_7 rfl rfl rfl rfl dX12_whose_62 ?_
        refine G_iload 4 rfl dX12_whose_65 ?_
        refine G_iconst dX12_whose_67 ?_
        refine G_iadd dX12_whose_68 ?_
        obtain ⟨c19, h⟩ := h
        refine G_iald (n := 2119) rfl c19.1 c19.2 dX12_whose_69 ?_
        refine G_icmp_ne (r14 _ rfl) (OKm.i o15 75 (v4 + 2) (isLg_row (show shp 75 = (1, 2119, []) from rfl) _)) dX12_whose_70 (tgt := 77) (by decide) (fun c20 => ?_) (fun c20 => ?_)
        · have h := h.1 c20
          refine G_iconst dX12_whose_77 ?_
          refine G_istore_n (lv' := [(3, aI (0)), (0, aR (74)), (1, aI (v1)), (2, aI (v2)), (4, aI (v4))]) rfl rfl (by decide) dX12_whose_78 ?_
          refine G_iinc (lv' := [(4, aI ((v4 + 3))), (3, aI (0)), (0, aR (74)), (1, aI (v1)), (2, aI (v2))]) (k := 4) rfl rfl (by decide) dX12_whose_79 ?_
          refine G_goto (tgt := 20) dX12_whose_82 (by decide) ?_
          obtain ⟨c21, h⟩ := h
          exact G_pick [2, 3, 4, 1, 0] rfl (h hv1 hv2 (rL 0 rfl) c21 o15)
        · have h := h.2 c20
          refine G_iconst dX12_whose_73 ?_
          refine G_goto (tgt := 78) dX12_whose_74 (by decide) ?_
          refine G_istore_n (lv' := [(3, aI (1)), (0, aR (74)), (1, aI (v1)), (2, aI (v2)), (4, aI (v4))]) rfl rfl (by decide) dX12_whose_78 ?_
          refine G_iinc (lv' := [(4, aI ((v4 + 3))), (3, aI (1)), (0, aR (74)), (1, aI (v1)), (2, aI (v2))]) (k := 4) rfl rfl (by decide) dX12_whose_79 ?_
          refine G_goto (tgt := 20) dX12_whose_82 (by decide) ?_
          obtain ⟨c22, h⟩ := h
          exact G_pick [2, 3, 4, 1, 0] rfl (h hv1 hv2 (rL 1 rfl) c22 o15)

theorem sp_X12_whose (d : Nat) (hd : 5 ≤ d) (σ : Mem) (hO : OKm σ) (A : Mem) (tx : Nat → Txt) (hpre : vwM σ A tx) : Mt yX12_whose cX12_whose 5 (some .int) d [aR (74)] σ (QI (fun v σ' => v = whoseS A tx ∧ vwM σ' A tx ∧ Fr F80 σ σ')) := mt_X12_whose hd  hO (by
  unfold wp_X12_whose
  intro P4 P20 h4 h20
  have hV := hpre
  have hI := hV.2.2.1
  have hc := hI.1
  have e0 : σ 75 0 = A 10 0 := hV.1.1.1
  have e1 : σ 75 1 = A 10 1 := hV.1.1.2.1
  have H : ∀ (n k : Nat) (τ : Mem), k + n = (A 10 2).toNat → vwM τ A tx → Fr F80 σ τ → P4 (bitsN (fun t => agS A tx (t : Int)) k) (k : Int) τ := by
    intro n
    induction n with
    | zero =>
      intro k τ hk hVt hF
      have hk2 : k = (A 10 2).toNat := by omega
      subst hk2
      have f2 : τ 75 2 = A 10 2 := hVt.1.1.2.2.1
      exact h4 _ _ _ (fun _ _ _ => ⟨fun _ => ⟨rfl, hVt, hF⟩, fun h => absurd h (by omega)⟩)
    | succ n ih =>
      intro k τ hk hVt hF
      have f2 : τ 75 2 = A 10 2 := hVt.1.1.2.2.1
      refine h4 _ _ _ (fun _ _ _ => ⟨fun h => absurd h (by omega), fun _ => ?_⟩)
      have H2 : ∀ (m j : Nat) (v : Int) (ρ : Mem), j + m = (A 10 3).toNat → vwM ρ A tx → Fr F80 σ ρ → (v = 0 ∨ v = 1) → (v = 1 ↔ ∀ i : Int, 0 ≤ i → i < j → skS A tx (k : Int) (A 17 i) (A 18 i) = A 19 i) → P20 (bitsN (fun t => agS A tx (t : Int)) k) (k : Int) v (115 + 3 * (j : Int)) ρ := by
        intro m
        induction m with
        | zero =>
          intro j v ρ hj hVr hFr hv hiff
          have f5 : ρ 75 5 = A 10 3 := hVr.1.1.2.2.2.1
          have ih1 := ih (k + 1) ρ (by omega) hVr hFr
          refine h20 _ _ _ _ _ (fun _ _ _ _ _ => ?_)
          rw [f5]
          refine ⟨by unfold R32; omega, fun _ => ⟨fun h0 => ⟨by unfold R32; omega, ?_⟩, fun h0 => ⟨by unfold R32; omega, ?_⟩⟩, fun h => absurd h (by omega)⟩
          · have hag : agS A tx (k : Int) = false := by
              cases hc2 : agS A tx (k : Int) with
              | false => rfl
              | true =>
                have : v = 1 := hiff.mpr (fun i h1 h2 => by
                  unfold agS at hc2
                  rw [List.all_eq_true] at hc2
                  have := of_decide_eq_true (hc2 i.toNat (List.mem_range.mpr (by omega)))
                  rw [show ((i.toNat : Nat) : Int) = i by omega] at this
                  exact this)
                omega
            rw [bitsN_or0 (f := fun t => agS A tx (t : Int)) (by omega) hag]; exact ih1
          · have hag : agS A tx (k : Int) = true := agS_t (fun i h1 h2 => hiff.mp (by omega) i h1 (by omega))
            rw [bitsN_or (f := fun t => agS A tx (t : Int)) (by omega) hag]; exact ih1
        | succ m ihm =>
          intro j v ρ hj hVr hFr hv hiff
          have f5 : ρ 75 5 = A 10 3 := hVr.1.1.2.2.2.1
          have hs := hVr.1.2.2.2 (j : Int) (by omega) (by omega)
          have hsr := hI.2.2.2.2.2 (j : Int) (by omega) (by omega)
          have e3 : 115 + 3 * (j : Int) + 3 = 115 + 3 * ((j + 1 : Nat) : Int) := by omega
          refine h20 _ _ _ _ _ (fun _ _ _ _ _ => ?_)
          rw [f5, e3, hs.1, hs.2.1]
          have hRR : R32 (115 + 3 * ((j + 1 : Nat) : Int)) := by unfold R32; omega
          have hfal : ∀ (P : Prop), ¬ P → ((0 : Int) = 1 ↔ P) := fun P hP => ⟨fun h => by omega, fun h => absurd h hP⟩
          refine ⟨by unfold R32; omega, fun h => absurd h (by omega), fun _ => ⟨fun h0 => ⟨hRR, ?_⟩, fun h0 => ⟨by omega, by omega, A, tx, ⟨hVr, by omega, ⟨hsr.1, hsr.2.1⟩, ⟨hsr.2.2.1, hsr.2.2.2.1⟩⟩, ?_⟩⟩⟩
          · refine ihm (j + 1) 0 ρ (by omega) hVr hFr (Or.inl rfl) (hfal _ (fun q => ?_))
            have := hiff.mpr (fun i h1 h2 => q i h1 (by omega))
            omega
          · intro u σ1 hu hO1 ⟨eu, hV1, hF1⟩
            have hs1 := hV1.1.2.2.2 (j : Int) (by omega) (by omega)
            rw [hs1.2.2]
            refine ⟨by omega, fun hne => ⟨hRR, ?_⟩, fun heq => ⟨hRR, ?_⟩⟩
            · refine ihm (j + 1) 0 σ1 (by omega) hV1 (hFr.tr hF1) (Or.inl rfl) (hfal _ (fun q => ?_))
              have := q (j : Int) (by omega) (by omega)
              exact hne (by rw [eu]; exact this)
            · refine ihm (j + 1) 1 σ1 (by omega) hV1 (hFr.tr hF1) (Or.inr rfl) ⟨fun _ i h1 h2 => ?_, fun _ => rfl⟩
              by_cases e : i = j
              · subst e; rw [← eu]; exact heq
              · exact hiff.mp (by omega) i h1 (by omega)
      have := H2 (A 10 3).toNat 0 1 τ (by omega) hVt hF (Or.inr rfl) ⟨fun _ i h1 h2 => by omega, fun _ => rfl⟩
      exact this
  exact H _ 0 σ (Nat.zero_add _) hV (Fr.rf _ _))

def wp_X11_ledger (x1 : Int) (σ : Mem) (Q : Int → Mem → Prop) : Prop :=
 ∀ P23 : Int → Int → Int → Mem → Prop,
 (∀ (v1 : Int) (v2 : Int) (v3 : Int) (σ : Mem), (R32 v1 → R32 v2 → R32 v3 → OKm σ →
   (((σ 10 4) ≤ v3) →
     Q v2 σ) ∧
    ((v3 < (σ 10 4)) →
     ((v1 = (-1)) →
      ((0 ≤ v3 ∧ v3 < 30) ∧ (0 ≤ σ 14 v3 ∧ σ 14 v3 < 2147483648)) ∧
      R32 (v2 + (σ 14 v3 % 2 ^ 7)) ∧ R32 (v3 + 1) ∧ P23 v1 (v2 + (σ 14 v3 % 2 ^ 7)) (v3 + 1) σ) ∧
     ((v1 ≠ (-1)) →
      ((0 ≤ v3 ∧ v3 < 30) ∧ (0 ≤ σ 14 v3 ∧ σ 14 v3 < 2147483648)) ∧
      (((σ 14 v3 / 2 ^ 11 % 2 ^ 3) ≠ v1) →
       R32 (v3 + 1) ∧ P23 v1 v2 (v3 + 1) σ) ∧
      (((σ 14 v3 / 2 ^ 11 % 2 ^ 3) = v1) →
       ((0 ≤ v3 ∧ v3 < 30) ∧ (0 ≤ σ 14 v3 ∧ σ 14 v3 < 2147483648)) ∧
       R32 (v2 + (σ 14 v3 % 2 ^ 7)) ∧ R32 (v3 + 1) ∧ P23 v1 (v2 + (σ 14 v3 % 2 ^ 7)) (v3 + 1) σ)))) → P23 v1 v2 v3 σ) →
  ((x1 = (-1)) →
    P23 x1 0 0 σ) ∧
   ((x1 ≠ (-1)) →
    ((0 ≤ x1 ∧ x1 < σ 1 9) →
     P23 x1 0 0 σ) ∧
    ((¬ (0 ≤ x1 ∧ x1 < σ 1 9)) →
     Q (-2) σ))
theorem mt_X11_ledger {d : Nat} (hd : 1 ≤ d) {x1 : Int} {σ : Mem} {Q : Int → Mem → Prop} (hx1 : R32 x1) (hO : OKm σ) (h : wp_X11_ledger x1 σ Q) : Mt yX11_ledger cX11_ledger 4 (some .int) d [aR (0), aI (x1)] σ (QI Q) := by
  refine Mt.intro (by decide +kernel) (Nat.le_of_ble_eq_true rfl) [(0, aR (0)), (1, aI (x1))] rfl ?_
  unfold wp_X11_ledger at h
  have h := h (fun (v1 : Int) (v2 : Int) (v3 : Int) (σ : Mem) => R32 v1 → R32 v2 → R32 v3 → OKm σ → G yX11_ledger cX11_ledger 4 (some .int) d (QI Q) 23 [(0, aR (0)), (1, aI (v1)), (2, aI (v2)), (3, aI (v3))] [] σ) ?_
  · refine G_iload_n 1 rfl rfl dX11_ledger_0 ?_
    refine G_iconst dX11_ledger_1 ?_
    refine G_icmp_eq hx1 (rL (-1) rfl) dX11_ledger_2 (tgt := 19) (by decide) (fun c1 => ?_) (fun c1 => ?_)
    · have h := h.1 c1
      refine G_iconst dX11_ledger_19 ?_
      refine G_istore_n (lv' := [(2, aI (0)), (0, aR (0)), (1, aI (x1))]) rfl rfl (by decide) dX11_ledger_20 ?_
      refine G_iconst dX11_ledger_21 ?_
      refine G_istore_n (lv' := [(3, aI (0)), (2, aI (0)), (0, aR (0)), (1, aI (x1))]) rfl rfl (by decide) dX11_ledger_22 ?_
      exact G_pick [2, 3, 1, 0] rfl (h hx1 (rL 0 rfl) (rL 0 rfl) hO)
    · have h := h.2 c1
      refine G_aload_n 0 rfl rfl dX11_ledger_5 ?_
      refine G_get (k := 0) (kd := (2, 1)) (v := aR 1) gf_X11_10 rfl rfl rfl rfl dX11_ledger_6 ?_
      refine G_iload_n 1 rfl rfl dX11_ledger_9 ?_
      refine G_callV (as := [_]) cf_X11_209 rfl rfl rfl (sp_X10_hasGoer (d - 1) (by omega) _ hO _ hx1) (by omega) rfl rfl (Nat.le_of_ble_eq_true rfl) dX11_ledger_10 ?_
      rintro _ _ ⟨_, rfl, rfl, rfl⟩ o3 r2
      refine G_if_ne (bI_R _) dX11_ledger_13 (tgt := 19) (by decide) (fun c4 => ?_) (fun c4 => ?_)
      · have h := h.1 (bI_ne c4)
        refine G_iconst dX11_ledger_19 ?_
        refine G_istore_n (lv' := [(2, aI (0)), (0, aR (0)), (1, aI (x1))]) rfl rfl (by decide) dX11_ledger_20 ?_
        refine G_iconst dX11_ledger_21 ?_
        refine G_istore_n (lv' := [(3, aI (0)), (2, aI (0)), (0, aR (0)), (1, aI (x1))]) rfl rfl (by decide) dX11_ledger_22 ?_
        exact G_pick [2, 3, 1, 0] rfl (h hx1 (rL 0 rfl) (rL 0 rfl) hO)
      · have h := h.2 ((bI_0 _).mp c4)
        refine G_bipush (by decide) dX11_ledger_16 ?_
        exact G_iret rfl (rL (-2) rfl) dX11_ledger_18 ⟨_, rfl, h⟩ hO
  · intro v1 v2 v3 σ h hv1 hv2 hv3 hO
    have h := h hv1 hv2 hv3 hO
    refine G_iload_n 3 rfl rfl dX11_ledger_23 ?_
    refine G_aload_n 0 rfl rfl dX11_ledger_24 ?_
    refine G_get (k := 1) (kd := (2, 10)) (v := aR 10) gf_X11_19 rfl rfl rfl rfl dX11_ledger_25 ?_
    refine G_get (k := 4) (kd := (0, 0)) (v := aI (σ 10 4)) gf_X11_234 rfl rfl rfl rfl dX11_ledger_28 ?_
    refine G_icmp_ge hv3 (OKm.i hO 10 4 rfl) dX11_ledger_31 (tgt := 68) (by decide) (fun c5 => ?_) (fun c5 => ?_)
    · have h := h.1 c5
      refine G_iload_n 2 rfl rfl dX11_ledger_68 ?_
      exact G_iret rfl hv2 dX11_ledger_69 ⟨_, rfl, h⟩ hO
    · have h := h.2 c5
      refine G_iload_n 1 rfl rfl dX11_ledger_34 ?_
      refine G_iconst dX11_ledger_35 ?_
      refine G_icmp_eq hv1 (rL (-1) rfl) dX11_ledger_36 (tgt := 51) (by decide) (fun c6 => ?_) (fun c6 => ?_)
      · have h := h.1 c6
        refine G_iload_n 2 rfl rfl dX11_ledger_51 ?_
        refine G_aload_n 0 rfl rfl dX11_ledger_52 ?_
        refine G_get (k := 1) (kd := (2, 10)) (v := aR 10) gf_X11_19 rfl rfl rfl rfl dX11_ledger_53 ?_
        refine G_iload_n 3 rfl rfl dX11_ledger_56 ?_
        obtain ⟨c7, h⟩ := h
        refine G_callV (as := [_]) cf_X11_246 rfl rfl rfl (sp_X6_suckedInGoing (d - 1) (by omega) _ hO _ hv3 c7) (by omega) rfl rfl (Nat.le_of_ble_eq_true rfl) dX11_ledger_57 ?_
        rintro _ _ ⟨_, rfl, rfl, rfl⟩ o9 r8
        refine G_iadd dX11_ledger_60 ?_
        refine G_istore_n (lv' := [(2, aI ((v2 + (σ 14 v3 % 2 ^ 7)))), (0, aR (0)), (1, aI (v1)), (3, aI (v3))]) rfl rfl (by decide) dX11_ledger_61 ?_
        refine G_iinc (lv' := [(3, aI ((v3 + 1))), (2, aI ((v2 + (σ 14 v3 % 2 ^ 7)))), (0, aR (0)), (1, aI (v1))]) (k := 3) rfl rfl (by decide) dX11_ledger_62 ?_
        refine G_goto (tgt := 23) dX11_ledger_65 (by decide) ?_
        obtain ⟨c10, h⟩ := h
        obtain ⟨c11, h⟩ := h
        exact G_pick [2, 3, 1, 0] rfl (h hv1 c10 c11 hO)
      · have h := h.2 c6
        refine G_aload_n 0 rfl rfl dX11_ledger_39 ?_
        refine G_get (k := 1) (kd := (2, 10)) (v := aR 10) gf_X11_19 rfl rfl rfl rfl dX11_ledger_40 ?_
        refine G_iload_n 3 rfl rfl dX11_ledger_43 ?_
        obtain ⟨c12, h⟩ := h
        refine G_callV (as := [_]) cf_X11_240 rfl rfl rfl (sp_X6_goerOfGoing (d - 1) (by omega) _ hO _ hv3 c12) (by omega) rfl rfl (Nat.le_of_ble_eq_true rfl) dX11_ledger_44 ?_
        rintro _ _ ⟨_, rfl, rfl, rfl⟩ o14 r13
        refine G_iload_n 1 rfl rfl dX11_ledger_47 ?_
        refine G_icmp_ne (r13 _ rfl) hv1 dX11_ledger_48 (tgt := 62) (by decide) (fun c15 => ?_) (fun c15 => ?_)
        · have h := h.1 c15
          refine G_iinc (lv' := [(3, aI ((v3 + 1))), (0, aR (0)), (1, aI (v1)), (2, aI (v2))]) (k := 3) rfl rfl (by decide) dX11_ledger_62 ?_
          refine G_goto (tgt := 23) dX11_ledger_65 (by decide) ?_
          obtain ⟨c16, h⟩ := h
          exact G_pick [1, 2, 3, 0] rfl (h hv1 hv2 c16 hO)
        · have h := h.2 c15
          refine G_iload_n 2 rfl rfl dX11_ledger_51 ?_
          refine G_aload_n 0 rfl rfl dX11_ledger_52 ?_
          refine G_get (k := 1) (kd := (2, 10)) (v := aR 10) gf_X11_19 rfl rfl rfl rfl dX11_ledger_53 ?_
          refine G_iload_n 3 rfl rfl dX11_ledger_56 ?_
          obtain ⟨c17, h⟩ := h
          refine G_callV (as := [_]) cf_X11_246 rfl rfl rfl (sp_X6_suckedInGoing (d - 1) (by omega) _ hO _ hv3 c17) (by omega) rfl rfl (Nat.le_of_ble_eq_true rfl) dX11_ledger_57 ?_
          rintro _ _ ⟨_, rfl, rfl, rfl⟩ o19 r18
          refine G_iadd dX11_ledger_60 ?_
          refine G_istore_n (lv' := [(2, aI ((v2 + (σ 14 v3 % 2 ^ 7)))), (0, aR (0)), (1, aI (v1)), (3, aI (v3))]) rfl rfl (by decide) dX11_ledger_61 ?_
          refine G_iinc (lv' := [(3, aI ((v3 + 1))), (2, aI ((v2 + (σ 14 v3 % 2 ^ 7)))), (0, aR (0)), (1, aI (v1))]) (k := 3) rfl rfl (by decide) dX11_ledger_62 ?_
          refine G_goto (tgt := 23) dX11_ledger_65 (by decide) ?_
          obtain ⟨c20, h⟩ := h
          obtain ⟨c21, h⟩ := h
          exact G_pick [2, 3, 1, 0] rfl (h hv1 c20 c21 hO)

theorem sp_X11_ledger (d : Nat) (hd : 1 ≤ d) (σ : Mem) (hO : OKm σ) (x1 : Int) (hx1 : R32 x1) (A : Mem) (tx : Nat → Txt) (hpre : vwC σ A tx) : Mt yX11_ledger cX11_ledger 4 (some .int) d [aR (0), aI (x1)] σ (QI (fun v σ' => v = ledS A x1 ∧ Fr ScrC σ σ')) := mt_X11_ledger hd hx1 hO (by
  unfold wp_X11_ledger
  intro P23 h23
  have hV := hpre
  have hI := hV.2.2.1
  have hc := hI.1
  have e8 : σ 1 8 = A 10 0 := hV.1.1.1
  have e9 : σ 1 9 = A 10 1 := hV.1.1.2.1
  have n0 : σ 10 4 = A 0 4 := hV.2.1.1.2.2.2.2
  have k3 := hI.2.2.2.1
  rw [e9]
  have hgo : (x1 = -1 ∨ 0 ≤ x1 ∧ x1 < A 10 1) → P23 x1 0 0 σ := by
    intro hok
    have H : ∀ (n k : Nat), k + n = (A 0 4).toNat → P23 x1 (ledN A x1 k) (k : Int) σ := by
      intro n
      induction n with
      | zero =>
        intro k hk
        have hk2 : k = (A 0 4).toNat := by omega
        refine h23 _ _ _ _ (fun _ _ _ _ => ⟨fun _ => ⟨?_, Fr.rf _ _⟩, fun h => absurd h (by omega)⟩)
        unfold ledS
        rw [if_neg (by omega), hk2]
      | succ n ih =>
        intro k hk
        have ih1 := ih (k + 1) (by omega)
        have eb := hV.2.1.2.2.2 (k : Int) (by omega) (by omega)
        obtain ⟨d0, d1, d2, d3, d4⟩ := bkC_dec hI (i := (k : Int)) (by omega) (by omega)
        have hl := ledN_r (g := x1) hI k (by omega)
        have b7 := hI.2.2.2.2.1 (k : Int) (by omega) (by omega)
        refine h23 _ _ _ _ (fun _ _ _ _ => ⟨fun h => absurd h (by omega), fun _ => ?_⟩)
        rw [eb, d2, d4]
        have b : (0 ≤ (k : Int) ∧ (k : Int) < 30) ∧ (0 ≤ bkC A (k : Int) ∧ bkC A (k : Int) < 2147483648) := ⟨by omega, d0⟩
        have hyes : (x1 = -1 ∨ A 5 (k : Int) = x1) → R32 (ledN A x1 k + A 7 (k : Int)) ∧ R32 ((k : Int) + 1) ∧ P23 x1 (ledN A x1 k + A 7 (k : Int)) ((k : Int) + 1) σ := fun h => by
          refine ⟨by unfold R32; omega, by unfold R32; omega, ?_⟩
          have : ledN A x1 (k + 1) = ledN A x1 k + A 7 (k : Int) := by unfold ledN; rw [if_pos h]; cases k <;> rfl
          rw [this] at ih1; exact ih1
        refine ⟨fun h => ⟨b, hyes (Or.inl h)⟩, fun h => ⟨b, fun h2 => ⟨by unfold R32; omega, ?_⟩, fun h2 => ⟨b, hyes (Or.inr h2)⟩⟩⟩
        have : ledN A x1 (k + 1) = ledN A x1 k := by
          show ledN A x1 k + (if _ then _ else _) = _
          rw [if_neg (fun q => by rcases q with q | q; exact h q; exact h2 q), Int.add_zero]
        rw [this] at ih1; exact ih1
    exact H _ 0 (Nat.zero_add _)
  refine ⟨fun h => hgo (Or.inl h), fun h => ⟨fun h2 => hgo (Or.inr h2), fun h2 => ⟨?_, Fr.rf _ _⟩⟩⟩
  unfold ledS
  rw [if_pos ⟨h, h2⟩])

def wp_X12_ledger (x1 : Int) (σ : Mem) (Q : Int → Mem → Prop) : Prop :=
 ∀ P20 : Int → Int → Int → Mem → Prop,
 (∀ (v1 : Int) (v2 : Int) (v3 : Int) (σ : Mem), (R32 v1 → R32 v2 → R32 v3 → OKm σ →
   (((σ 75 10) ≤ v3) →
     Q v2 σ) ∧
    ((v3 < (σ 75 10)) →
     ((v1 = (-1)) →
      ((0 ≤ v3 ∧ v3 < 30) ∧ (0 ≤ σ 75 (2089 + v3) ∧ σ 75 (2089 + v3) < 2147483648)) ∧
      R32 (v2 + (if (3 : Int) = 0 then σ 75 (2089 + v3) / 9600 else if (3 : Int) = 1 then σ 75 (2089 + v3) / 1600 % 6 else if (3 : Int) = 2 then σ 75 (2089 + v3) / 100 % 16 else σ 75 (2089 + v3) % 100)) ∧
      ∀ y12 : Int, y12 = (v2 + (if (3 : Int) = 0 then σ 75 (2089 + v3) / 9600 else if (3 : Int) = 1 then σ 75 (2089 + v3) / 1600 % 6 else if (3 : Int) = 2 then σ 75 (2089 + v3) / 100 % 16 else σ 75 (2089 + v3) % 100)) →
      R32 (v3 + 1) ∧ P20 v1 y12 (v3 + 1) σ) ∧
     ((v1 ≠ (-1)) →
      ((0 ≤ v3 ∧ v3 < 30) ∧ (0 ≤ σ 75 (2089 + v3) ∧ σ 75 (2089 + v3) < 2147483648)) ∧
      (((if (1 : Int) = 0 then σ 75 (2089 + v3) / 9600 else if (1 : Int) = 1 then σ 75 (2089 + v3) / 1600 % 6 else if (1 : Int) = 2 then σ 75 (2089 + v3) / 100 % 16 else σ 75 (2089 + v3) % 100) ≠ v1) →
       R32 (v2 + 0) ∧ R32 (v3 + 1) ∧ P20 v1 (v2 + 0) (v3 + 1) σ) ∧
      (((if (1 : Int) = 0 then σ 75 (2089 + v3) / 9600 else if (1 : Int) = 1 then σ 75 (2089 + v3) / 1600 % 6 else if (1 : Int) = 2 then σ 75 (2089 + v3) / 100 % 16 else σ 75 (2089 + v3) % 100) = v1) →
       ((0 ≤ v3 ∧ v3 < 30) ∧ (0 ≤ σ 75 (2089 + v3) ∧ σ 75 (2089 + v3) < 2147483648)) ∧
       R32 (v2 + (if (3 : Int) = 0 then σ 75 (2089 + v3) / 9600 else if (3 : Int) = 1 then σ 75 (2089 + v3) / 1600 % 6 else if (3 : Int) = 2 then σ 75 (2089 + v3) / 100 % 16 else σ 75 (2089 + v3) % 100)) ∧
       ∀ y24 : Int, y24 = (v2 + (if (3 : Int) = 0 then σ 75 (2089 + v3) / 9600 else if (3 : Int) = 1 then σ 75 (2089 + v3) / 1600 % 6 else if (3 : Int) = 2 then σ 75 (2089 + v3) / 100 % 16 else σ 75 (2089 + v3) % 100)) →
       R32 (v3 + 1) ∧ P20 v1 y24 (v3 + 1) σ)))) → P20 v1 v2 v3 σ) →
  ((x1 = (-1)) →
    P20 x1 0 0 σ) ∧
   ((x1 ≠ (-1)) →
    (0 ≤ σ 75 1) ∧
    ((0 ≤ x1 ∧ x1 < σ 75 1) →
     P20 x1 0 0 σ) ∧
    ((¬ (0 ≤ x1 ∧ x1 < σ 75 1)) →
     Q (-2) σ))
theorem mt_X12_ledger {d : Nat} (hd : 2 ≤ d) {x1 : Int} {σ : Mem} {Q : Int → Mem → Prop} (hx1 : R32 x1) (hO : OKm σ) (h : wp_X12_ledger x1 σ Q) : Mt yX12_ledger cX12_ledger 4 (some .int) d [aR (74), aI (x1)] σ (QI Q) := by
  refine Mt.intro (by decide +kernel) (Nat.le_of_ble_eq_true rfl) [(0, aR (74)), (1, aI (x1))] rfl ?_
  unfold wp_X12_ledger at h
  have h := h (fun (v1 : Int) (v2 : Int) (v3 : Int) (σ : Mem) => R32 v1 → R32 v2 → R32 v3 → OKm σ → G yX12_ledger cX12_ledger 4 (some .int) d (QI Q) 20 [(0, aR (74)), (1, aI (v1)), (2, aI (v2)), (3, aI (v3))] [] σ) ?_
  · refine G_iload_n 1 rfl rfl dX12_ledger_0 ?_
    refine G_iconst dX12_ledger_1 ?_
    refine G_icmp_eq hx1 (rL (-1) rfl) dX12_ledger_2 (tgt := 16) (by decide) (fun c1 => ?_) (fun c1 => ?_)
    · have h := h.1 c1
      refine G_iconst dX12_ledger_16 ?_
      refine G_istore_n (lv' := [(2, aI (0)), (0, aR (74)), (1, aI (x1))]) rfl rfl (by decide) dX12_ledger_17 ?_
      refine G_iconst dX12_ledger_18 ?_
      refine G_istore_n (lv' := [(3, aI (0)), (2, aI (0)), (0, aR (74)), (1, aI (x1))]) rfl rfl (by decide) dX12_ledger_19 ?_
      exact G_pick [2, 3, 1, 0] rfl (h hx1 (rL 0 rfl) (rL 0 rfl) hO)
    · have h := h.2 c1
      refine G_aload_n 0 rfl rfl dX12_ledger_5 ?_
      refine G_iload_n 1 rfl rfl dX12_ledger_6 ?_
      obtain ⟨c2, h⟩ := h
      refine G_callV (as := [_]) cf_X12_330 rfl rfl rfl (sp_X12_isGoer (d - 1) (by omega) _ hO _ hx1 c2) (by omega) rfl rfl (Nat.le_of_ble_eq_true rfl) dX12_ledger_7 ?_
      rintro _ _ ⟨_, rfl, rfl, rfl⟩ o4 r3
      refine G_if_ne (bI_R _) dX12_ledger_10 (tgt := 16) (by decide) (fun c5 => ?_) (fun c5 => ?_)
      · have h := h.1 (bI_ne c5)
        refine G_iconst dX12_ledger_16 ?_
        refine G_istore_n (lv' := [(2, aI (0)), (0, aR (74)), (1, aI (x1))]) rfl rfl (by decide) dX12_ledger_17 ?_
        refine G_iconst dX12_ledger_18 ?_
        refine G_istore_n (lv' := [(3, aI (0)), (2, aI (0)), (0, aR (74)), (1, aI (x1))]) rfl rfl (by decide) dX12_ledger_19 ?_
        exact G_pick [2, 3, 1, 0] rfl (h hx1 (rL 0 rfl) (rL 0 rfl) hO)
      · have h := h.2 ((bI_0 _).mp c5)
        refine G_bipush (by decide) dX12_ledger_13 ?_
        exact G_iret rfl (rL (-2) rfl) dX12_ledger_15 ⟨_, rfl, h⟩ hO
  · intro v1 v2 v3 σ h hv1 hv2 hv3 hO
    have h := h hv1 hv2 hv3 hO
    refine G_iload_n 3 rfl rfl dX12_ledger_20 ?_
    refine G_aload_n 0 rfl rfl dX12_ledger_21 ?_
    refine G_get (k := 0) (kd := (2, 75)) (v := aR 75) gf_X12_7 rfl rfl rfl rfl dX12_ledger_22 ?_
    refine G_bipush (by decide) dX12_ledger_25 ?_
    refine G_iald (n := 2119) rfl (by decide) (by decide) dX12_ledger_27 ?_
    refine G_icmp_ge hv3 (OKm.i hO 75 10 (isLg_row (show shp 75 = (1, 2119, []) from rfl) _)) dX12_ledger_28 (tgt := 65) (by decide) (fun c6 => ?_) (fun c6 => ?_)
    · have h := h.1 c6
      refine G_iload_n 2 rfl rfl dX12_ledger_65 ?_
      exact G_iret rfl hv2 dX12_ledger_66 ⟨_, rfl, h⟩ hO
    · have h := h.2 c6
      refine G_iload_n 2 rfl rfl dX12_ledger_31 ?_
      refine G_iload_n 1 rfl rfl dX12_ledger_32 ?_
      refine G_iconst dX12_ledger_33 ?_
      refine G_icmp_eq hv1 (rL (-1) rfl) dX12_ledger_34 (tgt := 47) (by decide) (fun c7 => ?_) (fun c7 => ?_)
      · have h := h.1 c7
        refine G_aload_n 0 rfl rfl dX12_ledger_47 ?_
        refine G_iload_n 3 rfl rfl dX12_ledger_48 ?_
        refine G_iconst dX12_ledger_49 ?_
        obtain ⟨c8, h⟩ := h
        refine G_callV (as := [_, _]) cf_X12_409 rfl rfl rfl (sp_X12_entry (d - 1) (by omega) _ hO _ hv3 _ (rL 3 rfl) c8) (by omega) rfl rfl (Nat.le_of_ble_eq_true rfl) dX12_ledger_50 ?_
        rintro _ _ ⟨_, rfl, rfl, rfl⟩ o10 r9
        refine G_goto (tgt := 57) dX12_ledger_53 (by decide) ?_
        refine G_iadd dX12_ledger_57 ?_
        obtain ⟨c11, h⟩ := h
        have h := h _ rfl
        refine G_istore_n (lv' := [(2, aI (((v2 + (if (3 : Int) = 0 then σ 75 (2089 + v3) / 9600 else if (3 : Int) = 1 then σ 75 (2089 + v3) / 1600 % 6 else if (3 : Int) = 2 then σ 75 (2089 + v3) / 100 % 16 else σ 75 (2089 + v3) % 100))))), (0, aR (74)), (1, aI (v1)), (3, aI (v3))]) rfl rfl (by decide) dX12_ledger_58 ?_
        refine G_iinc (lv' := [(3, aI ((v3 + 1))), (2, aI (((v2 + (if (3 : Int) = 0 then σ 75 (2089 + v3) / 9600 else if (3 : Int) = 1 then σ 75 (2089 + v3) / 1600 % 6 else if (3 : Int) = 2 then σ 75 (2089 + v3) / 100 % 16 else σ 75 (2089 + v3) % 100))))), (0, aR (74)), (1, aI (v1))]) (k := 3) rfl rfl (by decide) dX12_ledger_59 ?_
        refine G_goto (tgt := 20) dX12_ledger_62 (by decide) ?_
        obtain ⟨c13, h⟩ := h
        exact G_pick [2, 3, 1, 0] rfl (h hv1 c11 c13 hO)
      · have h := h.2 c7
        refine G_aload_n 0 rfl rfl dX12_ledger_37 ?_
        refine G_iload_n 3 rfl rfl dX12_ledger_38 ?_
        refine G_iconst dX12_ledger_39 ?_
        obtain ⟨c14, h⟩ := h
        refine G_callV (as := [_, _]) cf_X12_409 rfl rfl rfl (sp_X12_entry (d - 1) (by omega) _ hO _ hv3 _ (rL 1 rfl) c14) (by omega) rfl rfl (Nat.le_of_ble_eq_true rfl) dX12_ledger_40 ?_
        rintro _ _ ⟨_, rfl, rfl, rfl⟩ o16 r15
        refine G_iload_n 1 rfl rfl dX12_ledger_43 ?_
        refine G_icmp_ne (r15 _ rfl) hv1 dX12_ledger_44 (tgt := 56) (by decide) (fun c17 => ?_) (fun c17 => ?_)
        · have h := h.1 c17
          refine G_iconst dX12_ledger_56 ?_
          refine G_iadd dX12_ledger_57 ?_
          refine G_istore_n (lv' := [(2, aI ((v2 + 0))), (0, aR (74)), (1, aI (v1)), (3, aI (v3))]) rfl rfl (by decide) dX12_ledger_58 ?_
          refine G_iinc (lv' := [(3, aI ((v3 + 1))), (2, aI ((v2 + 0))), (0, aR (74)), (1, aI (v1))]) (k := 3) rfl rfl (by decide) dX12_ledger_59 ?_
          refine G_goto (tgt := 20) dX12_ledger_62 (by decide) ?_
          obtain ⟨c18, h⟩ := h
          obtain ⟨c19, h⟩ := h
          exact G_pick [2, 3, 1, 0] rfl (h hv1 c18 c19 hO)
        · have h := h.2 c17
          refine G_aload_n 0 rfl rfl dX12_ledger_47 ?_
          refine G_iload_n 3 rfl rfl dX12_ledger_48 ?_
          refine G_iconst dX12_ledger_49 ?_
          obtain ⟨c20, h⟩ := h
          refine G_callV (as := [_, _]) cf_X12_409 rfl rfl rfl (sp_X12_entry (d - 1) (by omega) _ hO _ hv3 _ (rL 3 rfl) c20) (by omega) rfl rfl (Nat.le_of_ble_eq_true rfl) dX12_ledger_50 ?_
          rintro _ _ ⟨_, rfl, rfl, rfl⟩ o22 r21
          refine G_goto (tgt := 57) dX12_ledger_53 (by decide) ?_
          refine G_iadd dX12_ledger_57 ?_
          obtain ⟨c23, h⟩ := h
          have h := h _ rfl
          refine G_istore_n (lv' := [(2, aI (((v2 + (if (3 : Int) = 0 then σ 75 (2089 + v3) / 9600 else if (3 : Int) = 1 then σ 75 (2089 + v3) / 1600 % 6 else if (3 : Int) = 2 then σ 75 (2089 + v3) / 100 % 16 else σ 75 (2089 + v3) % 100))))), (0, aR (74)), (1, aI (v1)), (3, aI (v3))]) rfl rfl (by decide) dX12_ledger_58 ?_
          refine G_iinc (lv' := [(3, aI ((v3 + 1))), (2, aI (((v2 + (if (3 : Int) = 0 then σ 75 (2089 + v3) / 9600 else if (3 : Int) = 1 then σ 75 (2089 + v3) / 1600 % 6 else if (3 : Int) = 2 then σ 75 (2089 + v3) / 100 % 16 else σ 75 (2089 + v3) % 100))))), (0, aR (74)), (1, aI (v1))]) (k := 3) rfl rfl (by decide) dX12_ledger_59 ?_
          refine G_goto (tgt := 20) dX12_ledger_62 (by decide) ?_
          obtain ⟨c25, h⟩ := h
          exact G_pick [2, 3, 1, 0] rfl (h hv1 c23 c25 hO)

theorem sp_X12_ledger (d : Nat) (hd : 2 ≤ d) (σ : Mem) (hO : OKm σ) (x1 : Int) (hx1 : R32 x1) (A : Mem) (tx : Nat → Txt) (hpre : vwM σ A tx) : Mt yX12_ledger cX12_ledger 4 (some .int) d [aR (74), aI (x1)] σ (QI (fun v σ' => v = ledS A x1 ∧ vwM σ' A tx ∧ Fr F80 σ σ')) := mt_X12_ledger hd hx1 hO (by
  unfold wp_X12_ledger
  intro P20 h20
  have hV := hpre
  have hI := hV.2.2.1
  have hc := hI.1
  have e0 : σ 75 0 = A 10 0 := hV.1.1.1
  have e1 : σ 75 1 = A 10 1 := hV.1.1.2.1
  have n0 : σ 75 10 = A 0 4 := hV.2.1.1.2.2.2.2
  have k3 := hI.2.2.2.1
  rw [e1]
  have hgo : (x1 = -1 ∨ 0 ≤ x1 ∧ x1 < A 10 1) → P20 x1 0 0 σ := by
    intro hok
    have H : ∀ (n k : Nat), k + n = (A 0 4).toNat → P20 x1 (ledN A x1 k) (k : Int) σ := by
      intro n
      induction n with
      | zero =>
        intro k hk
        have hk2 : k = (A 0 4).toNat := by omega
        refine h20 _ _ _ _ (fun _ _ _ _ => ⟨fun _ => ⟨?_, hV, Fr.rf _ _⟩, fun h => absurd h (by omega)⟩)
        unfold ledS
        rw [if_neg (by omega), hk2]
      | succ n ih =>
        intro k hk
        have ih1 := ih (k + 1) (by omega)
        have eb := hV.2.1.2.2.2 (k : Int) (by omega) (by omega)
        obtain ⟨d0, d1, d2, d3, d4⟩ := bkM_dec hI (i := (k : Int)) (by omega) (by omega)
        have hl := ledN_r (g := x1) hI k (by omega)
        have b7 := hI.2.2.2.2.1 (k : Int) (by omega) (by omega)
        refine h20 _ _ _ _ (fun _ _ _ _ => ⟨fun h => absurd h (by omega), fun _ => ?_⟩)
        rw [eb, d2, d4]
        simp only [show ((3 : Int) = 0) = False from by simp, show ((3 : Int) = 1) = False from by simp, show ((3 : Int) = 2) = False from by simp, show ((1 : Int) = 0) = False from by simp, if_false, if_true]
        have b : (0 ≤ (k : Int) ∧ (k : Int) < 30) ∧ (0 ≤ bkM A (k : Int) ∧ bkM A (k : Int) < 2147483648) := ⟨by omega, d0⟩
        have hyes : (x1 = -1 ∨ A 5 (k : Int) = x1) → R32 (ledN A x1 k + A 7 (k : Int)) ∧ ∀ y : Int, y = ledN A x1 k + A 7 (k : Int) → R32 ((k : Int) + 1) ∧ P20 x1 y ((k : Int) + 1) σ := fun h => by
          refine ⟨by unfold R32; omega, fun y hy => ⟨by unfold R32; omega, ?_⟩⟩
          have : ledN A x1 (k + 1) = ledN A x1 k + A 7 (k : Int) := by unfold ledN; rw [if_pos h]; cases k <;> rfl
          rw [this] at ih1; rw [hy]; exact ih1
        refine ⟨fun h => ⟨b, hyes (Or.inl h)⟩, fun h => ⟨b, fun h2 => ⟨by unfold R32; omega, by unfold R32; omega, ?_⟩, fun h2 => ⟨b, hyes (Or.inr h2)⟩⟩⟩
        have : ledN A x1 (k + 1) = ledN A x1 k + 0 := by
          show ledN A x1 k + (if _ then _ else _) = _
          rw [if_neg (fun q => by rcases q with q | q; exact h q; exact h2 q)]
        rw [this] at ih1; exact ih1
    exact H _ 0 (Nat.zero_add _)
  refine ⟨fun h => hgo (Or.inl h), fun h => ⟨by omega, fun h2 => hgo (Or.inr h2), fun h2 => ⟨?_, hV, Fr.rf _ _⟩⟩⟩
  unfold ledS
  rw [if_pos ⟨h, h2⟩])
