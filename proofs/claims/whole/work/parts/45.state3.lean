def frC (σ τ : Mem) : Prop := ∀ q : Nat, 74 ≤ q → τ q = σ q
def frM (σ τ : Mem) : Prop := ∀ q : Nat, q < 74 → τ q = σ q
def byS (A : Mem) (t : Int) : Mem := mset A 10 4 t
def saidS (A : Mem) (g r s : Int) : Mem := mset (mset (mset (mset A 17 (A 10 3) g) 18 (A 10 3) r) 19 (A 10 3) s) 10 3 (A 10 3 + 1)
def unsaidS (A : Mem) : Mem := mset A 10 3 0
def saidOK (A : Mem) (g r s : Int) : Prop := (0 ≤ g ∧ g < A 10 1) ∧ (0 ≤ r ∧ r < A 10 0) ∧ (0 ≤ s ∧ s ≤ 99) ∧ A 10 3 < 8
theorem InvA.by {A : Mem} {t : Int} (h : InvA A) (ht : -1 ≤ t ∧ t < A 10 2) : InvA (byS A t) := by
  obtain ⟨i0, i1, i2, i3, i4, i5⟩ := h
  unfold byS
  refine ⟨by simp (disch := omega) only [mset_off, mset_hit, mset_miss, mcpy_off, mcpy_hit, mcpy_miss, mrow_off, mrow_same]; omega, fun r x y => ?_, fun g x y => ?_, ?_, fun i x y => ?_, fun i x y => ?_⟩
  · simp (disch := omega) only [mset_off, mset_miss] at y ⊢; exact i1 r x y
  · simp (disch := omega) only [mset_off, mset_miss] at y ⊢; exact i2 g x y
  · simp (disch := omega) only [mset_off]; exact i3
  · simp (disch := omega) only [mset_off] at y ⊢; exact i4 i x y
  · simp (disch := omega) only [mset_off, mset_miss] at y ⊢; exact i5 i x y
theorem InvA.unsaid {A : Mem} (h : InvA A) : InvA (unsaidS A) := by
  obtain ⟨i0, i1, i2, i3, i4, i5⟩ := h
  unfold unsaidS
  refine ⟨by simp (disch := omega) only [mset_off, mset_hit, mset_miss, mcpy_off, mcpy_hit, mcpy_miss, mrow_off, mrow_same]; omega, fun r x y => ?_, fun g x y => ?_, ?_, fun i x y => ?_, fun i x y => ?_⟩
  · simp (disch := omega) only [mset_off, mset_miss] at y ⊢; exact i1 r x y
  · simp (disch := omega) only [mset_off, mset_miss] at y ⊢; exact i2 g x y
  · simp (disch := omega) only [mset_off]; exact i3
  · simp (disch := omega) only [mset_off] at y ⊢; exact i4 i x y
  · simp (disch := omega) only [mset_hit] at y; omega
theorem InvA.said {A : Mem} {g r s : Int} (h : InvA A) (hs : saidOK A g r s) : InvA (saidS A g r s) := by
  obtain ⟨i0, i1, i2, i3, i4, i5⟩ := h
  unfold saidOK at hs
  unfold saidS
  refine ⟨by simp (disch := omega) only [mset_off, mset_hit, mset_miss, mcpy_off, mcpy_hit, mcpy_miss, mrow_off, mrow_same]; omega, fun r x y => ?_, fun g x y => ?_, ?_, fun i x y => ?_, fun i x y => ?_⟩
  · simp (disch := omega) only [mset_off, mset_miss] at y ⊢; exact i1 r x y
  · simp (disch := omega) only [mset_off, mset_miss] at y ⊢; exact i2 g x y
  · simp (disch := omega) only [mset_off]; exact i3
  · simp (disch := omega) only [mset_off] at y ⊢; exact i4 i x y
  · simp (disch := omega) only [mset_hit] at y
    by_cases e : i = A 10 3
    · subst e; simp (disch := omega) only [mset_off, mset_hit, mset_miss, mcpy_off, mcpy_hit, mcpy_miss, mrow_off, mrow_same]; omega
    · simp (disch := omega) only [mset_off, mset_hit, mset_miss, mcpy_off, mcpy_hit, mcpy_miss, mrow_off, mrow_same]; exact i5 i x (by omega)
/-- told changes that leave roads, goers and their numbers -/
theorem vsC.told {σ τ A A' : Mem} {L : List Mem} {tx : Nat → Txt} (h : vsC σ A L tx) (hT : toldC τ 1 A') (hN : nowC σ A') (hI : InvA A') (h2 : A' 10 2 = A 10 2) (hF : ∀ q : Nat, 10 ≤ q → τ q = σ q) : vsC τ A' L tx :=
  ⟨⟨hT, hN.congr (fun q h1 _ => hF q h1), hI, txC h.1.2.2.2 h2 (fun q h1 h2 => hF q (by omega)) (by have := h.1.2.2.1.1; omega)⟩, h.2.congr (hF 15 (by omega)) (hF (15 + 1) (by omega))⟩
theorem nowC_told {σ A A' : Mem} (h : nowC σ A) (h0 : A' 10 0 = A 10 0) (h1 : A' 10 1 = A 10 1) (hq : ∀ q, q ≤ 7 → A' q = A q) : nowC σ A' := by
  unfold nowC bkC at *
  rw [h0, h1, hq 0 (by omega), hq 1 (by omega), hq 2 (by omega), hq 3 (by omega), hq 4 (by omega), hq 5 (by omega), hq 6 (by omega), hq 7 (by omega)]
  exact h
theorem nowM_told {σ A A' : Mem} {p : Nat} (h : nowM σ p A) (h0 : A' 10 0 = A 10 0) (h1 : A' 10 1 = A 10 1) (hq : ∀ q, q ≤ 7 → A' q = A q) : nowM σ p A' := by
  unfold nowM bkM at *
  rw [h0, h1, hq 0 (by omega), hq 1 (by omega), hq 2 (by omega), hq 3 (by omega), hq 4 (by omega), hq 5 (by omega), hq 6 (by omega), hq 7 (by omega)]
  exact h
theorem nowM_75 {σ τ A : Mem} (h : nowM σ 75 A) (hc : A 10 0 ≤ 16 ∧ A 10 1 ≤ 6) (he : ∀ i : Int, (6 ≤ i ∧ i < 39 ∨ 2089 ≤ i) → τ 75 i = σ 75 i) : nowM τ 75 A := by
  obtain ⟨m0, m1, m2, m3⟩ := h
  refine ⟨?_, fun r x y => ?_, fun g x y => ?_, fun i x y => ?_⟩
  · rw [he 6 (by omega), he 7 (by omega), he 8 (by omega), he 9 (by omega), he 10 (by omega)]; exact m0
  · rw [he _ (by omega)]; exact m1 r x y
  · rw [he _ (by omega), he _ (by omega)]; exact m2 g x y
  · rw [he _ (by omega)]; exact m3 i x y

def wp_X11_by (x1 : Int) (σ : Mem) (Q : Int → Mem → Prop) : Prop :=
  ((x1 = (-1)) →
    ∀ σ3 : Mem, σ3 = mset σ 1 12 x1 →
    Q 1 σ3) ∧
   ((x1 ≠ (-1)) →
    (0 ≤ σ 1 10) ∧
    ((¬ (0 ≤ x1 ∧ x1 < σ 1 10)) →
     Q 0 σ) ∧
    ((0 ≤ x1 ∧ x1 < σ 1 10) →
     ∀ σ12 : Mem, σ12 = mset σ 1 12 x1 →
     Q 1 σ12))
theorem mt_X11_by {d : Nat} (hd : 2 ≤ d) {x1 : Int} {σ : Mem} {Q : Int → Mem → Prop} (hx1 : R32 x1) (hO : OKm σ) (h : wp_X11_by x1 σ Q) : Mt yX11_by cX11_by 3 (some .boolean) d [aR (0), aI (x1)] σ (QI Q) := by
  refine Mt.intro (by decide +kernel) (Nat.le_of_ble_eq_true rfl) [(0, aR (0)), (1, aI (x1))] rfl ?_
  unfold wp_X11_by at h
  refine G_iload_n 1 rfl rfl dX11_by_0 ?_
  refine G_iconst dX11_by_1 ?_
  refine G_icmp_eq hx1 (rL (-1) rfl) dX11_by_2 (tgt := 13) (by decide) (fun c1 => ?_) (fun c1 => ?_)
  · have h := h.1 c1
    refine G_iconst dX11_by_13 ?_
    refine G_goto (tgt := 18) dX11_by_14 (by decide) ?_
    refine G_istore_n (lv' := [(2, aI (1)), (0, aR (0)), (1, aI (x1))]) rfl rfl (by decide) dX11_by_18 ?_
    refine G_iload_n 0 rfl rfl dX11_by_19 ?_
    refine G_if_eq (rL 1 rfl) dX11_by_20 (tgt := 31) (by decide) (fun c2 => absurd c2 (by decide)) (fun _ => ?_)
    refine G_aload_n 1 rfl rfl dX11_by_23 ?_
    refine G_get (k := 0) (kd := (2, 1)) (v := aR 1) gf_X11_10 rfl rfl rfl rfl dX11_by_24 ?_
    refine G_iload_n 2 rfl rfl dX11_by_27 ?_
    obtain ⟨σ3, e5⟩ : ∃ τ : Mem, τ = mset σ 1 12 x1 := ⟨_, rfl⟩
    have h := h σ3 e5
    have o4 : OKm σ3 := by rw [e5]; exact OKm.seti hO _ _ _ hx1 rfl
    refine G_put (k := 12) (ki := 12) (kd := (0, 0)) (x := _) pf_X11_142 rfl rfl rfl rfl (fa_i (mset_self _ _ _ _)) (fun _ => rfl) (fun _ => rfl) dX11_by_28 ?_
    rw [← e5]
    refine G_iload_n 0 rfl rfl dX11_by_31 ?_
    exact G_zret rfl (by decide) dX11_by_32 ⟨_, rfl, h⟩ o4
  · have h := h.2 c1
    refine G_aload_n 0 rfl rfl dX11_by_5 ?_
    refine G_iload_n 1 rfl rfl dX11_by_6 ?_
    obtain ⟨c6, h⟩ := h
    refine G_callV (as := [_]) cf_X11_139 rfl rfl rfl (sp_X11_isText (d - 1) (by omega) _ hO _ hx1 c6) (by omega) rfl rfl (Nat.le_of_ble_eq_true rfl) dX11_by_7 ?_
    rintro _ _ ⟨_, rfl, rfl, rfl⟩ o8 r7
    refine G_if_eq (bI_R _) dX11_by_10 (tgt := 17) (by decide) (fun c9 => ?_) (fun c9 => ?_)
    · have h := h.1 ((bI_0 _).mp c9)
      refine G_iconst dX11_by_17 ?_
      refine G_istore_n (lv' := [(2, aI (0)), (0, aR (0)), (1, aI (x1))]) rfl rfl (by decide) dX11_by_18 ?_
      refine G_iload_n 0 rfl rfl dX11_by_19 ?_
      refine G_if_eq (rL 0 rfl) dX11_by_20 (tgt := 31) (by decide) (fun _ => ?_) (fun c10 => absurd c10 (by decide))
      refine G_iload_n 0 rfl rfl dX11_by_31 ?_
      exact G_zret rfl (by decide) dX11_by_32 ⟨_, rfl, h⟩ hO
    · have h := h.2 (bI_ne c9)
      refine G_iconst dX11_by_13 ?_
      refine G_goto (tgt := 18) dX11_by_14 (by decide) ?_
      refine G_istore_n (lv' := [(2, aI (1)), (0, aR (0)), (1, aI (x1))]) rfl rfl (by decide) dX11_by_18 ?_
      refine G_iload_n 0 rfl rfl dX11_by_19 ?_
      refine G_if_eq (rL 1 rfl) dX11_by_20 (tgt := 31) (by decide) (fun c11 => absurd c11 (by decide)) (fun _ => ?_)
      refine G_aload_n 1 rfl rfl dX11_by_23 ?_
      refine G_get (k := 0) (kd := (2, 1)) (v := aR 1) gf_X11_10 rfl rfl rfl rfl dX11_by_24 ?_
      refine G_iload_n 2 rfl rfl dX11_by_27 ?_
      obtain ⟨σ12, e14⟩ : ∃ τ : Mem, τ = mset σ 1 12 x1 := ⟨_, rfl⟩
      have h := h σ12 e14
      have o13 : OKm σ12 := by rw [e14]; exact OKm.seti hO _ _ _ hx1 rfl
      refine G_put (k := 12) (ki := 12) (kd := (0, 0)) (x := _) pf_X11_142 rfl rfl rfl rfl (fa_i (mset_self _ _ _ _)) (fun _ => rfl) (fun _ => rfl) dX11_by_28 ?_
      rw [← e14]
      refine G_iload_n 0 rfl rfl dX11_by_31 ?_
      exact G_zret rfl (by decide) dX11_by_32 ⟨_, rfl, h⟩ o13

theorem sp_X11_by (d : Nat) (hd : 2 ≤ d) (σ : Mem) (hO : OKm σ) (x1 : Int) (hx1 : R32 x1) (A : Mem) (L : List Mem) (tx : Nat → Txt) (hpre : vsC σ A L tx) : Mt yX11_by cX11_by 3 (some .boolean) d [aR (0), aI (x1)] σ (QI (fun v σ' => ((-1 ≤ x1 ∧ x1 < A 10 2) → v = 1 ∧ vsC σ' (byS A x1) L tx) ∧ (¬ (-1 ≤ x1 ∧ x1 < A 10 2) → v = 0 ∧ vsC σ' A L tx) ∧ Fr PLC σ σ')) := mt_X11_by hd hx1 hO (by
  unfold wp_X11_by
  have hS := hpre
  have hI := hS.1.2.2.1
  have hc := hI.1
  have e10 : σ 1 10 = A 10 2 := hS.1.1.1.2.2.1
  rw [e10]
  have yes : ∀ τ : Mem, τ = mset σ 1 12 x1 → (-1 ≤ x1 ∧ x1 < A 10 2) → vsC τ (byS A x1) L tx := fun τ e hx => by
    obtain ⟨t0, t1, t2, t3⟩ := hS.1.1
    refine hS.told ?_ (nowC_told hS.1.2.1 (by unfold byS; rw [mset_miss (by omega)]) (by unfold byS; rw [mset_miss (by omega)]) (fun q hq => by unfold byS; rw [mset_ne (by omega)])) (hI.by hx) (by unfold byS; rw [mset_miss (by omega)]) (fun q hq => by rw [e, mset_ne (by omega)])
    unfold byS
    rw [e]
    refine ⟨?_, fun r x y => ?_, fun g x y => ?_, fun i x y => ?_⟩
    · simp (disch := omega) only [mset_off, mset_hit, mset_miss, mcpy_off, mcpy_hit, mcpy_miss, mrow_off, mrow_same]; exact ⟨t0.1, t0.2.1, t0.2.2.1, t0.2.2.2.1, trivial⟩
    · simp (disch := omega) only [mset_off, mset_miss] at y ⊢; exact t1 r x y
    · simp (disch := omega) only [mset_off, mset_miss] at y ⊢; exact t2 g x y
    · simp (disch := omega) only [mset_off, mset_miss] at y ⊢; exact t3 i x y
  refine ⟨fun h => fun σ3 e3 => ⟨fun _ => ⟨rfl, yes σ3 e3 (by omega)⟩, fun h2 => absurd (by omega) h2, by rw [e3]; exact (Fr.rf _ _).set (by simp)⟩, fun h => ⟨by omega, fun h2 => ⟨fun h3 => by omega, fun _ => ⟨rfl, hS⟩, Fr.rf _ _⟩, fun h2 => fun σ3 e3 => ⟨fun _ => ⟨rfl, yes σ3 e3 (by omega)⟩, fun h3 => absurd (by omega) h3, by rw [e3]; exact (Fr.rf _ _).set (by simp)⟩⟩⟩)

def wp_X12_by (x1 : Int) (σ : Mem) (Q : Int → Mem → Prop) : Prop :=
  R32 ((σ 75 2) - 1) ∧
   ((((-1) : Int) ≤ x1 ∧ x1 ≤ ((σ 75 2) - 1)) →
    ∀ σ5 : Mem, σ5 = mset σ 75 3 x1 →
    Q 1 σ5) ∧
   ((¬ (((-1) : Int) ≤ x1 ∧ x1 ≤ ((σ 75 2) - 1))) →
    Q 0 σ)
theorem mt_X12_by {d : Nat} (hd : 1 ≤ d) {x1 : Int} {σ : Mem} {Q : Int → Mem → Prop} (hx1 : R32 x1) (hO : OKm σ) (h : wp_X12_by x1 σ Q) : Mt yX12_by cX12_by 2 (some .boolean) d [aR (74), aI (x1)] σ (QI Q) := by
  refine Mt.intro (by decide +kernel) (Nat.le_of_ble_eq_true rfl) [(0, aR (74)), (1, aI (x1))] rfl ?_
  unfold wp_X12_by at h
  refine G_iload_n 1 rfl rfl dX12_by_0 ?_
  refine G_iconst dX12_by_1 ?_
  refine G_aload_n 0 rfl rfl dX12_by_2 ?_
  refine G_get (k := 0) (kd := (2, 75)) (v := aR 75) gf_X12_7 rfl rfl rfl rfl dX12_by_3 ?_
  refine G_iconst dX12_by_6 ?_
  refine G_iald (n := 2119) rfl (by decide) (by decide) dX12_by_7 ?_
  refine G_iconst dX12_by_8 ?_
  refine G_isub dX12_by_9 ?_
  obtain ⟨c1, h⟩ := h
  refine G_callS (as := [_, _, _]) cf_X12_81 rfl (sp_X12_isIn (d - 1) (by omega) _ hO _ hx1 _ (rL (-1) rfl) _ c1) (by omega) rfl rfl (Nat.le_of_ble_eq_true rfl) dX12_by_10 ?_
  rintro _ _ ⟨_, rfl, rfl, rfl⟩ o3 r2
  refine G_if_ne (bI_R _) dX12_by_13 (tgt := 18) (by decide) (fun c4 => ?_) (fun c4 => ?_)
  · have h := h.1 (bI_ne c4)
    refine G_aload_n 0 rfl rfl dX12_by_18 ?_
    refine G_get (k := 0) (kd := (2, 75)) (v := aR 75) gf_X12_7 rfl rfl rfl rfl dX12_by_19 ?_
    refine G_iconst dX12_by_22 ?_
    refine G_iload_n 1 rfl rfl dX12_by_23 ?_
    obtain ⟨σ5, e7⟩ : ∃ τ : Mem, τ = mset σ 75 3 x1 := ⟨_, rfl⟩
    have h := h σ5 e7
    have o6 : OKm σ5 := by rw [e7]; exact OKm.seti hO _ _ _ hx1 (isLg_row (show shp 75 = (1, 2119, []) from rfl) _)
    refine G_iast (n := 2119) rfl (by decide) (by decide) dX12_by_24 ?_
    rw [← e7]
    refine G_iconst dX12_by_25 ?_
    exact G_zret rfl (by decide) dX12_by_26 ⟨_, rfl, h⟩ o6
  · have h := h.2 ((bI_0 _).mp c4)
    refine G_iconst dX12_by_16 ?_
    exact G_zret rfl (by decide) dX12_by_17 ⟨_, rfl, h⟩ hO

theorem sp_X12_by (d : Nat) (hd : 1 ≤ d) (σ : Mem) (hO : OKm σ) (x1 : Int) (hx1 : R32 x1) (A : Mem) (L : List Mem) (tx : Nat → Txt) (hpre : vsM σ A L tx) : Mt yX12_by cX12_by 2 (some .boolean) d [aR (74), aI (x1)] σ (QI (fun v σ' => ((-1 ≤ x1 ∧ x1 < A 10 2) → v = 1 ∧ vsM σ' (byS A x1) L tx) ∧ (¬ (-1 ≤ x1 ∧ x1 < A 10 2) → v = 0 ∧ vsM σ' A L tx) ∧ Fr [75] σ σ')) := mt_X12_by hd hx1 hO (by
  unfold wp_X12_by
  have hS := hpre
  have hI := hS.1.2.2.1
  have hc := hI.1
  have e2 : σ 75 2 = A 10 2 := hS.1.1.1.2.2.1
  rw [e2]
  refine ⟨by unfold R32; omega, fun hx => fun σ5 e5 => ⟨fun _ => ⟨rfl, ?_⟩, fun h2 => absurd (by omega) h2, by rw [e5]; exact (Fr.rf _ _).set (by simp)⟩, fun hx => ⟨fun h => by omega, fun _ => ⟨rfl, hS⟩, Fr.rf _ _⟩⟩
  obtain ⟨t0, t1, t2, t3⟩ := hS.1.1
  refine hS.told ?_ (nowM_75 (nowM_told hS.1.2.1 (by unfold byS; rw [mset_miss (by omega)]) (by unfold byS; rw [mset_miss (by omega)]) (fun q hq => by unfold byS; rw [mset_ne (by omega)])) (by unfold byS; rw [mset_miss (by omega), mset_miss (by omega)]; omega) (fun i hi => by rw [e5, mset_miss (by omega)])) (hI.by (by omega)) (by unfold byS; rw [mset_miss (by omega)]) (fun j hj => by rw [e5, mset_miss (by omega)]) (by rw [e5]; exact (Fr.rf _ _).set (by simp))
  unfold byS
  rw [e5]
  refine ⟨?_, fun r x y => ?_, fun g x y => ?_, fun i x y => ?_⟩
  · simp (disch := omega) only [mset_off, mset_hit, mset_miss, mcpy_off, mcpy_hit, mcpy_miss, mrow_off, mrow_same]; exact ⟨t0.1, t0.2.1, t0.2.2.1, t0.2.2.2.1, trivial⟩
  · simp (disch := omega) only [mset_off, mset_miss] at y ⊢; exact t1 r x y
  · simp (disch := omega) only [mset_off, mset_miss] at y ⊢; exact t2 g x y
  · simp (disch := omega) only [mset_off, mset_miss] at y ⊢; exact t3 i x y)

abbrev SDC : List Nat := [1, 7, 8, 9]

def wp_X11_said (x1 : Int) (x2 : Int) (x3 : Int) (σ : Mem) (Q : Int → Mem → Prop) : Prop :=
  ((x1 ≠ (-1)) →
    ((¬ (0 ≤ x1 ∧ x1 < σ 1 9)) →
     Q (-2) σ) ∧
    ((0 ≤ x1 ∧ x1 < σ 1 9) →
     ((¬ (0 ≤ x2 ∧ x2 < σ 1 8)) →
      Q (-2) σ) ∧
     ((0 ≤ x2 ∧ x2 < σ 1 8) →
      ((¬ ((0 : Int) ≤ x3 ∧ x3 ≤ (99 : Int))) →
       Q (-2) σ) ∧
      (((0 : Int) ≤ x3 ∧ x3 ≤ (99 : Int)) →
       (((σ 1 11) < 8) →
        (0 ≤ σ 1 11 ∧ σ 1 11 < 8) ∧
        ∀ σ19 : Mem, σ19 = (mset (mset (mset (mset σ 7 (σ 1 11) x1) 8 (σ 1 11) x2) 9 (σ 1 11) x3) 1 11 (σ 1 11 + 1)) →
        Q (σ19 1 11) σ19) ∧
       ((8 ≤ (σ 1 11)) →
        Q (-2) σ))))) ∧
   ((x1 = (-1)) →
    ∀ σ21 : Mem, σ21 = mset σ 1 11 0 →
    Q 0 σ21)
theorem mt_X11_said {d : Nat} (hd : 1 ≤ d) {x1 : Int} {x2 : Int} {x3 : Int} {σ : Mem} {Q : Int → Mem → Prop} (hx1 : R32 x1) (hx2 : R32 x2) (hx3 : R32 x3) (hO : OKm σ) (h : wp_X11_said x1 x2 x3 σ Q) : Mt yX11_said cX11_said 5 (some .int) d [aR (0), aI (x1), aI (x2), aI (x3)] σ (QI Q) := by
  refine Mt.intro (by decide +kernel) (Nat.le_of_ble_eq_true rfl) [(0, aR (0)), (1, aI (x1)), (2, aI (x2)), (3, aI (x3))] rfl ?_
  unfold wp_X11_said at h
  refine G_iload_n 1 rfl rfl dX11_said_0 ?_
  refine G_iconst dX11_said_1 ?_
  refine G_icmp_ne hx1 (rL (-1) rfl) dX11_said_2 (tgt := 15) (by decide) (fun c1 => ?_) (fun c1 => ?_)
  · have h := h.1 c1
    refine G_aload_n 0 rfl rfl dX11_said_15 ?_
    refine G_get (k := 0) (kd := (2, 1)) (v := aR 1) gf_X11_10 rfl rfl rfl rfl dX11_said_16 ?_
    refine G_iload_n 1 rfl rfl dX11_said_19 ?_
    refine G_callV (as := [_]) cf_X11_209 rfl rfl rfl (sp_X10_hasGoer (d - 1) (by omega) _ hO _ hx1) (by omega) rfl rfl (Nat.le_of_ble_eq_true rfl) dX11_said_20 ?_
    rintro _ _ ⟨_, rfl, rfl, rfl⟩ o3 r2
    refine G_if_eq (bI_R _) dX11_said_23 (tgt := 51) (by decide) (fun c4 => ?_) (fun c4 => ?_)
    · have h := h.1 ((bI_0 _).mp c4)
      refine G_iconst dX11_said_51 ?_
      refine G_istore (lv' := [(4, aI (0)), (0, aR (0)), (1, aI (x1)), (2, aI (x2)), (3, aI (x3))]) rfl (by decide) dX11_said_52 ?_
      refine G_iload 0 rfl dX11_said_54 ?_
      refine G_if_eq (rL 0 rfl) dX11_said_56 (tgt := 71) (by decide) (fun _ => ?_) (fun c5 => absurd c5 (by decide))
      refine G_bipush (by decide) dX11_said_71 ?_
      exact G_iret rfl (rL (-2) rfl) dX11_said_73 ⟨_, rfl, h⟩ hO
    · have h := h.2 (bI_ne c4)
      refine G_aload_n 0 rfl rfl dX11_said_26 ?_
      refine G_get (k := 0) (kd := (2, 1)) (v := aR 1) gf_X11_10 rfl rfl rfl rfl dX11_said_27 ?_
      refine G_iload_n 2 rfl rfl dX11_said_30 ?_
      refine G_callV (as := [_]) cf_X11_188 rfl rfl rfl (sp_X10_hasRoad (d - 1) (by omega) _ hO _ hx2) (by omega) rfl rfl (Nat.le_of_ble_eq_true rfl) dX11_said_31 ?_
      rintro _ _ ⟨_, rfl, rfl, rfl⟩ o7 r6
      refine G_if_eq (bI_R _) dX11_said_34 (tgt := 51) (by decide) (fun c8 => ?_) (fun c8 => ?_)
      · have h := h.1 ((bI_0 _).mp c8)
        refine G_iconst dX11_said_51 ?_
        refine G_istore (lv' := [(4, aI (0)), (0, aR (0)), (1, aI (x1)), (2, aI (x2)), (3, aI (x3))]) rfl (by decide) dX11_said_52 ?_
        refine G_iload 0 rfl dX11_said_54 ?_
        refine G_if_eq (rL 0 rfl) dX11_said_56 (tgt := 71) (by decide) (fun _ => ?_) (fun c9 => absurd c9 (by decide))
        refine G_bipush (by decide) dX11_said_71 ?_
        exact G_iret rfl (rL (-2) rfl) dX11_said_73 ⟨_, rfl, h⟩ hO
      · have h := h.2 (bI_ne c8)
        refine G_iload_n 3 rfl rfl dX11_said_37 ?_
        refine G_iconst dX11_said_38 ?_
        refine G_bipush (by decide) dX11_said_39 ?_
        refine G_callS (as := [_, _, _]) cf_X11_107 rfl (sp_X11_within (d - 1) (by omega) _ hO _ hx3 _ (rL 0 rfl) _ (rL 99 rfl)) (by omega) rfl rfl (Nat.le_of_ble_eq_true rfl) dX11_said_41 ?_
        rintro _ _ ⟨_, rfl, rfl, rfl⟩ o11 r10
        refine G_if_eq (bI_R _) dX11_said_44 (tgt := 51) (by decide) (fun c12 => ?_) (fun c12 => ?_)
        · have h := h.1 ((bI_0 _).mp c12)
          refine G_iconst dX11_said_51 ?_
          refine G_istore (lv' := [(4, aI (0)), (0, aR (0)), (1, aI (x1)), (2, aI (x2)), (3, aI (x3))]) rfl (by decide) dX11_said_52 ?_
          refine G_iload 0 rfl dX11_said_54 ?_
          refine G_if_eq (rL 0 rfl) dX11_said_56 (tgt := 71) (by decide) (fun _ => ?_) (fun c13 => absurd c13 (by decide))
          refine G_bipush (by decide) dX11_said_71 ?_
          exact G_iret rfl (rL (-2) rfl) dX11_said_73 ⟨_, rfl, h⟩ hO
        · have h := h.2 (bI_ne c12)
          refine G_iconst dX11_said_47 ?_
          refine G_goto (tgt := 52) dX11_said_48 (by decide) ?_
          refine G_istore (lv' := [(4, aI (1)), (0, aR (0)), (1, aI (x1)), (2, aI (x2)), (3, aI (x3))]) rfl (by decide) dX11_said_52 ?_
          refine G_iload 0 rfl dX11_said_54 ?_
          refine G_if_eq (rL 1 rfl) dX11_said_56 (tgt := 71) (by decide) (fun c14 => absurd c14 (by decide)) (fun _ => ?_)
          refine G_aload_n 1 rfl rfl dX11_said_59 ?_
          refine G_get (k := 0) (kd := (2, 1)) (v := aR 1) gf_X11_10 rfl rfl rfl rfl dX11_said_60 ?_
          refine G_get (k := 11) (kd := (0, 0)) (v := aI (σ 1 11)) gf_X11_328 rfl rfl rfl rfl dX11_said_63 ?_
          refine G_bipush (by decide) dX11_said_66 ?_
          refine G_icmp_lt (OKm.i hO 1 11 rfl) (rL 8 rfl) dX11_said_68 (tgt := 74) (by decide) (fun c15 => ?_) (fun c15 => ?_)
          · have h := h.1 c15
            refine G_aload_n 1 rfl rfl dX11_said_74 ?_
            refine G_get (k := 0) (kd := (2, 1)) (v := aR 1) gf_X11_10 rfl rfl rfl rfl dX11_said_75 ?_
            refine G_iload_n 2 rfl rfl dX11_said_78 ?_
            refine G_iload_n 3 rfl rfl dX11_said_79 ?_
            refine G_iload_n 4 rfl rfl dX11_said_80 ?_
            obtain ⟨c16, h⟩ := h
            refine G_callV (as := [_, _, _]) cf_X11_331 rfl rfl rfl (sp_X10_keepSaid (d - 1) (by omega) _ hO _ hx1 _ hx2 _ hx3 c16) (by omega) rfl rfl (Nat.le_of_ble_eq_true rfl) dX11_said_81 ?_
            rintro _ σ19 ⟨rfl, e20⟩ o18 r17
            have h := h σ19 e20
            refine G_aload_n 1 rfl rfl dX11_said_84 ?_
            refine G_get (k := 0) (kd := (2, 1)) (v := aR 1) gf_X11_10 rfl rfl rfl rfl dX11_said_85 ?_
            refine G_get (k := 11) (kd := (0, 0)) (v := aI (σ19 1 11)) gf_X11_328 rfl rfl rfl rfl dX11_said_88 ?_
            exact G_iret rfl (OKm.i o18 1 11 rfl) dX11_said_91 ⟨_, rfl, h⟩ o18
          · have h := h.2 c15
            refine G_bipush (by decide) dX11_said_71 ?_
            exact G_iret rfl (rL (-2) rfl) dX11_said_73 ⟨_, rfl, h⟩ hO
  · have h := h.2 c1
    refine G_aload_n 0 rfl rfl dX11_said_5 ?_
    refine G_get (k := 0) (kd := (2, 1)) (v := aR 1) gf_X11_10 rfl rfl rfl rfl dX11_said_6 ?_
    refine G_iconst dX11_said_9 ?_
    obtain ⟨σ21, e23⟩ : ∃ τ : Mem, τ = mset σ 1 11 0 := ⟨_, rfl⟩
    have h := h σ21 e23
    have o22 : OKm σ21 := by rw [e23]; exact OKm.seti hO _ _ _ (rL 0 rfl) rfl
    refine G_put (k := 11) (ki := 11) (kd := (0, 0)) (x := _) pf_X11_328 rfl rfl rfl rfl (fa_i (mset_self _ _ _ _)) (fun _ => rfl) (fun _ => rfl) dX11_said_10 ?_
    rw [← e23]
    refine G_iconst dX11_said_13 ?_
    exact G_iret rfl (rL 0 rfl) dX11_said_14 ⟨_, rfl, h⟩ o22

theorem sp_X11_said (d : Nat) (hd : 1 ≤ d) (σ : Mem) (hO : OKm σ) (x1 : Int) (hx1 : R32 x1) (x2 : Int) (hx2 : R32 x2) (x3 : Int) (hx3 : R32 x3) (A : Mem) (L : List Mem) (tx : Nat → Txt) (hpre : vsC σ A L tx) : Mt yX11_said cX11_said 5 (some .int) d [aR (0), aI (x1), aI (x2), aI (x3)] σ (QI (fun v σ' => (x1 = -1 → v = 0 ∧ vsC σ' (unsaidS A) L tx) ∧ (x1 ≠ -1 → saidOK A x1 x2 x3 → v = A 10 3 + 1 ∧ vsC σ' (saidS A x1 x2 x3) L tx) ∧ (x1 ≠ -1 → ¬ saidOK A x1 x2 x3 → v = -2 ∧ vsC σ' A L tx) ∧ Fr SDC σ σ')) := mt_X11_said hd hx1 hx2 hx3 hO (by
  unfold wp_X11_said
  have hS := hpre
  have hI := hS.1.2.2.1
  have hc := hI.1
  have e8 : σ 1 8 = A 10 0 := hS.1.1.1.1
  have e9 : σ 1 9 = A 10 1 := hS.1.1.1.2.1
  have e11 : σ 1 11 = A 10 3 := hS.1.1.1.2.2.2.1
  rw [e8, e9, e11]
  obtain ⟨t0, t1, t2, t3⟩ := hS.1.1
  refine ⟨fun hne => ?_, fun heq => fun σ21 e21 => ⟨fun _ => ⟨rfl, ?_⟩, fun h => absurd heq h, fun h => absurd heq h, by rw [e21]; exact (Fr.rf _ _).set (by simp)⟩⟩
  · have no : ¬ saidOK A x1 x2 x3 → (x1 = -1 → (-2 : Int) = 0 ∧ vsC σ (unsaidS A) L tx) ∧ (x1 ≠ -1 → saidOK A x1 x2 x3 → (-2 : Int) = A 10 3 + 1 ∧ vsC σ (saidS A x1 x2 x3) L tx) ∧ (x1 ≠ -1 → ¬ saidOK A x1 x2 x3 → (-2 : Int) = -2 ∧ vsC σ A L tx) ∧ Fr SDC σ σ := fun h => ⟨fun h2 => absurd h2 hne, fun _ h2 => absurd h2 h, fun _ _ => ⟨rfl, hS⟩, Fr.rf _ _⟩
    refine ⟨fun h => no (fun q => h q.1), fun h1 => ⟨fun h => no (fun q => h q.2.1), fun h2 => ⟨fun h => no (fun q => h q.2.2.1), fun h3 => ⟨fun h4 => ⟨by omega, fun σ19 e19 => ?_⟩, fun h => no (fun q => by have := q.2.2.2; omega)⟩⟩⟩⟩
    have hok : saidOK A x1 x2 x3 := ⟨h1, h2, h3, h4⟩
    refine ⟨fun h => absurd h hne, fun _ _ => ⟨by rw [e19, mset_self], ?_⟩, fun _ h => absurd hok h, by rw [e19]; exact ((((Fr.rf _ _).set (by simp)).set (by simp)).set (by simp)).set (by simp)⟩
    refine hS.told ?_ (nowC_told hS.1.2.1 (by unfold saidS; simp (disch := omega) only [mset_off, mset_hit, mset_miss, mcpy_off, mcpy_hit, mcpy_miss, mrow_off, mrow_same]) (by unfold saidS; simp (disch := omega) only [mset_off, mset_hit, mset_miss, mcpy_off, mcpy_hit, mcpy_miss, mrow_off, mrow_same]) (fun q hq => by unfold saidS; rw [mset_ne (by omega), mset_ne (by omega), mset_ne (by omega), mset_ne (by omega)])) (hI.said hok) (by unfold saidS; simp (disch := omega) only [mset_off, mset_hit, mset_miss, mcpy_off, mcpy_hit, mcpy_miss, mrow_off, mrow_same]) (fun q hq => by rw [e19, mset_ne (by omega), mset_ne (by omega), mset_ne (by omega), mset_ne (by omega)])
    unfold saidS
    rw [e19]
    refine ⟨?_, fun r x y => ?_, fun g x y => ?_, fun i x y => ?_⟩
    · simp (disch := omega) only [mset_off, mset_hit, mset_miss, mcpy_off, mcpy_hit, mcpy_miss, mrow_off, mrow_same]; exact ⟨t0.1, t0.2.1, t0.2.2.1, trivial, t0.2.2.2.2⟩
    · simp (disch := omega) only [mset_off, mset_miss] at y ⊢; exact t1 r x y
    · simp (disch := omega) only [mset_off, mset_miss] at y ⊢; exact t2 g x y
    · simp (disch := omega) only [mset_hit] at y
      by_cases e : i = A 10 3
      · subst e; simp (disch := omega) only [mset_off, mset_hit, mset_miss, mcpy_off, mcpy_hit, mcpy_miss, mrow_off, mrow_same]; exact ⟨trivial, trivial, trivial⟩
      · simp (disch := omega) only [mset_off, mset_hit, mset_miss, mcpy_off, mcpy_hit, mcpy_miss, mrow_off, mrow_same]; exact t3 i x (by omega)
  · refine hS.told ?_ (nowC_told hS.1.2.1 (by unfold unsaidS; simp (disch := omega) only [mset_off, mset_hit, mset_miss, mcpy_off, mcpy_hit, mcpy_miss, mrow_off, mrow_same]) (by unfold unsaidS; simp (disch := omega) only [mset_off, mset_hit, mset_miss, mcpy_off, mcpy_hit, mcpy_miss, mrow_off, mrow_same]) (fun q hq => by unfold unsaidS; rw [mset_ne (by omega)])) hI.unsaid (by unfold unsaidS; simp (disch := omega) only [mset_off, mset_hit, mset_miss, mcpy_off, mcpy_hit, mcpy_miss, mrow_off, mrow_same]) (fun q hq => by rw [e21, mset_ne (by omega)])
    unfold unsaidS
    rw [e21]
    refine ⟨?_, fun r x y => ?_, fun g x y => ?_, fun i x y => ?_⟩
    · simp (disch := omega) only [mset_off, mset_hit, mset_miss, mcpy_off, mcpy_hit, mcpy_miss, mrow_off, mrow_same]; exact ⟨t0.1, t0.2.1, t0.2.2.1, trivial, t0.2.2.2.2⟩
    · simp (disch := omega) only [mset_off, mset_miss] at y ⊢; exact t1 r x y
    · simp (disch := omega) only [mset_off, mset_miss] at y ⊢; exact t2 g x y
    · simp (disch := omega) only [mset_hit] at y; omega)

def wp_X12_said (x1 : Int) (x2 : Int) (x3 : Int) (σ : Mem) (Q : Int → Mem → Prop) : Prop :=
  ((x1 ≠ (-1)) →
    (0 ≤ σ 75 1) ∧
    ((¬ (0 ≤ x1 ∧ x1 < σ 75 1)) →
     Q (-2) σ) ∧
    ((0 ≤ x1 ∧ x1 < σ 75 1) →
     (0 ≤ σ 75 0) ∧
     ((¬ (0 ≤ x2 ∧ x2 < σ 75 0)) →
      Q (-2) σ) ∧
     ((0 ≤ x2 ∧ x2 < σ 75 0) →
      ((¬ ((0 : Int) ≤ x3 ∧ x3 ≤ (99 : Int))) →
       Q (-2) σ) ∧
      (((0 : Int) ≤ x3 ∧ x3 ≤ (99 : Int)) →
       (((σ 75 5) ≠ 8) →
        (0 ≤ (115 + (3 * (σ 75 5))) ∧ (115 + (3 * (σ 75 5))) < 2119) ∧
        ∀ σ15 : Mem, σ15 = mset σ 75 (115 + (3 * (σ 75 5))) x1 →
        (0 ≤ ((115 + (3 * (σ 75 5))) + 1) ∧ ((115 + (3 * (σ 75 5))) + 1) < 2119) ∧
        ∀ σ19 : Mem, σ19 = mset σ15 75 ((115 + (3 * (σ 75 5))) + 1) x2 →
        (0 ≤ ((115 + (3 * (σ 75 5))) + 2) ∧ ((115 + (3 * (σ 75 5))) + 2) < 2119) ∧
        ∀ σ23 : Mem, σ23 = mset σ19 75 ((115 + (3 * (σ 75 5))) + 2) x3 →
        R32 ((σ23 75 5) + 1) ∧
        ∀ σ27 : Mem, σ27 = mset σ23 75 5 ((σ23 75 5) + 1) →
        Q (σ27 75 5) σ27) ∧
       (((σ 75 5) = 8) →
        Q (-2) σ))))) ∧
   ((x1 = (-1)) →
    ∀ σ30 : Mem, σ30 = mset σ 75 5 0 →
    Q 0 σ30)
theorem mt_X12_said {d : Nat} (hd : 2 ≤ d) {x1 : Int} {x2 : Int} {x3 : Int} {σ : Mem} {Q : Int → Mem → Prop} (hx1 : R32 x1) (hx2 : R32 x2) (hx3 : R32 x3) (hO : OKm σ) (h : wp_X12_said x1 x2 x3 σ Q) : Mt yX12_said cX12_said 5 (some .int) d [aR (74), aI (x1), aI (x2), aI (x3)] σ (QI Q) := by
  refine Mt.intro (by decide +kernel) (Nat.le_of_ble_eq_true rfl) [(0, aR (74)), (1, aI (x1)), (2, aI (x2)), (3, aI (x3))] rfl ?_
  unfold wp_X12_said at h
  refine G_iload_n 1 rfl rfl dX12_said_0 ?_
  refine G_iconst dX12_said_1 ?_
  refine G_icmp_ne hx1 (rL (-1) rfl) dX12_said_2 (tgt := 14) (by decide) (fun c1 => ?_) (fun c1 => ?_)
  · have h := h.1 c1
    refine G_aload_n 0 rfl rfl dX12_said_14 ?_
    refine G_iload_n 1 rfl rfl dX12_said_15 ?_
    obtain ⟨c2, h⟩ := h
    refine G_callV (as := [_]) cf_X12_330 rfl rfl rfl (sp_X12_isGoer (d - 1) (by omega) _ hO _ hx1 c2) (by omega) rfl rfl (Nat.le_of_ble_eq_true rfl) dX12_said_16 ?_
    rintro _ _ ⟨_, rfl, rfl, rfl⟩ o4 r3
    refine G_if_eq (bI_R _) dX12_said_19 (tgt := 51) (by decide) (fun c5 => ?_) (fun c5 => ?_)
    · have h := h.1 ((bI_0 _).mp c5)
      refine G_bipush (by decide) dX12_said_51 ?_
      exact G_iret rfl (rL (-2) rfl) dX12_said_53 ⟨_, rfl, h⟩ hO
    · have h := h.2 (bI_ne c5)
      refine G_aload_n 0 rfl rfl dX12_said_22 ?_
      refine G_iload_n 2 rfl rfl dX12_said_23 ?_
      obtain ⟨c6, h⟩ := h
      refine G_callV (as := [_]) cf_X12_333 rfl rfl rfl (sp_X12_isRoad (d - 1) (by omega) _ hO _ hx2 c6) (by omega) rfl rfl (Nat.le_of_ble_eq_true rfl) dX12_said_24 ?_
      rintro _ _ ⟨_, rfl, rfl, rfl⟩ o8 r7
      refine G_if_eq (bI_R _) dX12_said_27 (tgt := 51) (by decide) (fun c9 => ?_) (fun c9 => ?_)
      · have h := h.1 ((bI_0 _).mp c9)
        refine G_bipush (by decide) dX12_said_51 ?_
        exact G_iret rfl (rL (-2) rfl) dX12_said_53 ⟨_, rfl, h⟩ hO
      · have h := h.2 (bI_ne c9)
        refine G_iload_n 3 rfl rfl dX12_said_30 ?_
        refine G_iconst dX12_said_31 ?_
        refine G_bipush (by decide) dX12_said_32 ?_
        refine G_callS (as := [_, _, _]) cf_X12_81 rfl (sp_X12_isIn (d - 1) (by omega) _ hO _ hx3 _ (rL 0 rfl) _ (rL 99 rfl)) (by omega) rfl rfl (Nat.le_of_ble_eq_true rfl) dX12_said_34 ?_
        rintro _ _ ⟨_, rfl, rfl, rfl⟩ o11 r10
        refine G_if_eq (bI_R _) dX12_said_37 (tgt := 51) (by decide) (fun c12 => ?_) (fun c12 => ?_)
        · have h := h.1 ((bI_0 _).mp c12)
          refine G_bipush (by decide) dX12_said_51 ?_
          exact G_iret rfl (rL (-2) rfl) dX12_said_53 ⟨_, rfl, h⟩ hO
        · have h := h.2 (bI_ne c12)
          refine G_aload_n 0 rfl rfl dX12_said_40 ?_
          refine G_get (k := 0) (kd := (2, 75)) (v := aR 75) gf_X12_7 rfl rfl rfl rfl dX12_said_41 ?_
          refine G_iconst dX12_said_44 ?_
          refine G_iald (n := 2119) rfl (by decide) (by decide) dX12_said_45 ?_
          refine G_bipush (by decide) dX12_said_46 ?_
          refine G_icmp_ne (OKm.i hO 75 5 (isLg_row (show shp 75 = (1, 2119, []) from rfl) _)) (rL 8 rfl) dX12_said_48 (tgt := 54) (by decide) (fun c13 => ?_) (fun c13 => ?_)
          · have h := h.1 c13
            refine G_bipush (by decide) dX12_said_54 ?_
            refine G_iconst dX12_said_56 ?_
            refine G_aload_n 0 rfl rfl dX12_said_57 ?_
            refine G_get (k := 0) (kd := (2, 75)) (v := aR 75) gf_X12_7 rfl rfl rfl rfl dX12_said_58 ?_
            refine G_iconst dX12_said_61 ?_
            refine G_iald (n := 2119) rfl (by decide) (by decide) dX12_said_62 ?_
            refine G_imul dX12_said_63 ?_
            refine G_iadd dX12_said_64 ?_
            refine G_istore (lv' := [(4, aI ((115 + (3 * (σ 75 5))))), (0, aR (74)), (1, aI (x1)), (2, aI (x2)), (3, aI (x3))]) rfl (by decide) dX12_said_65 ?_
            refine G_aload_n 1 rfl rfl dX12_said_67 ?_
            refine G_get (k := 0) (kd := (2, 75)) (v := aR 75) gf_X12_7 rfl rfl rfl rfl dX12_said_68 ?_
            refine G_iload 0 rfl dX12_said_71 ?_
            refine G_iload_n 2 rfl rfl dX12_said_73 ?_
            obtain ⟨c14, h⟩ := h
            obtain ⟨σ15, e17⟩ : ∃ τ : Mem, τ = mset σ 75 (115 + (3 * (σ 75 5))) x1 := ⟨_, rfl⟩
            have h := h σ15 e17
            have o16 : OKm σ15 := by rw [e17]; exact OKm.seti hO _ _ _ hx1 (isLg_row (show shp 75 = (1, 2119, []) from rfl) _)
            refine G_iast (n := 2119) rfl c14.1 c14.2 dX12_said_74 ?_
            rw [← e17]
            refine G_aload_n 1 rfl rfl dX12_said_75 ?_
            refine G_get (k := 0) (kd := (2, 75)) (v := aR 75) gf_X12_7 rfl rfl rfl rfl dX12_said_76 ?_
            refine G_iload 0 rfl dX12_said_79 ?_
            refine G_iconst dX12_said_81 ?_
            refine G_iadd dX12_said_82 ?_
            refine G_iload_n 3 rfl rfl dX12_said_83 ?_
            obtain ⟨c18, h⟩ := h
            obtain ⟨σ19, e21⟩ : ∃ τ : Mem, τ = mset σ15 75 ((115 + (3 * (σ 75 5))) + 1) x2 := ⟨_, rfl⟩
            have h := h σ19 e21
            have o20 : OKm σ19 := by rw [e21]; exact OKm.seti o16 _ _ _ hx2 (isLg_row (show shp 75 = (1, 2119, []) from rfl) _)
            refine G_iast (n := 2119) rfl c18.1 c18.2 dX12_said_84 ?_
            rw [← e21]
            refine G_aload_n 1 rfl rfl dX12_said_85 ?_
            refine G_get (k := 0) (kd := (2, 75)) (v := aR 75) gf_X12_7 rfl rfl rfl rfl dX12_said_86 ?_
            refine G_iload 0 rfl dX12_said_89 ?_
            refine G_iconst dX12_said_91 ?_
            refine G_iadd dX12_said_92 ?_
            refine G_iload_n 4 rfl rfl dX12_said_93 ?_
            obtain ⟨c22, h⟩ := h
            obtain ⟨σ23, e25⟩ : ∃ τ : Mem, τ = mset σ19 75 ((115 + (3 * (σ 75 5))) + 2) x3 := ⟨_, rfl⟩
            have h := h σ23 e25
            have o24 : OKm σ23 := by rw [e25]; exact OKm.seti o20 _ _ _ hx3 (isLg_row (show shp 75 = (1, 2119, []) from rfl) _)
            refine G_iast (n := 2119) rfl c22.1 c22.2 dX12_said_94 ?_
            rw [← e25]
            refine G_aload_n 1 rfl rfl dX12_said_95 ?_
            refine G_get (k := 0) (kd := (2, 75)) (v := aR 75) gf_X12_7 rfl rfl rfl rfl dX12_said_96 ?_
            refine G_iconst dX12_said_99 ?_
            refine G_dup2 rfl rfl dX12_said_100 ?_
            refine G_iald (n := 2119) rfl (by decide) (by decide) dX12_said_101 ?_
            refine G_iconst dX12_said_102 ?_
            refine G_iadd dX12_said_103 ?_
            obtain ⟨c26, h⟩ := h
            obtain ⟨σ27, e29⟩ : ∃ τ : Mem, τ = mset σ23 75 5 ((σ23 75 5) + 1) := ⟨_, rfl⟩
            have h := h σ27 e29
            have o28 : OKm σ27 := by rw [e29]; exact OKm.seti o24 _ _ _ c26 (isLg_row (show shp 75 = (1, 2119, []) from rfl) _)
            refine G_iast (n := 2119) rfl (by decide) (by decide) dX12_said_104 ?_
            rw [← e29]
            refine G_aload_n 1 rfl rfl dX12_said_105 ?_
            refine G_get (k := 0) (kd := (2, 75)) (v := aR 75) gf_X12_7 rfl rfl rfl rfl dX12_said_106 ?_
            refine G_iconst dX12_said_109 ?_
            refine G_iald (n := 2119) rfl (by decide) (by decide) dX12_said_110 ?_
            exact G_iret rfl (OKm.i o28 75 5 (isLg_row (show shp 75 = (1, 2119, []) from rfl) _)) dX12_said_111 ⟨_, rfl, h⟩ o28
          · have h := h.2 c13
            refine G_bipush (by decide) dX12_said_51 ?_
            exact G_iret rfl (rL (-2) rfl) dX12_said_53 ⟨_, rfl, h⟩ hO
  · have h := h.2 c1
    refine G_aload_n 0 rfl rfl dX12_said_5 ?_
    refine G_get (k := 0) (kd := (2, 75)) (v := aR 75) gf_X12_7 rfl rfl rfl rfl dX12_said_6 ?_
    refine G_iconst dX12_said_9 ?_
    refine G_iconst dX12_said_10 ?_
    obtain ⟨σ30, e32⟩ : ∃ τ : Mem, τ = mset σ 75 5 0 := ⟨_, rfl⟩
    have h := h σ30 e32
    have o31 : OKm σ30 := by rw [e32]; exact OKm.seti hO _ _ _ (rL 0 rfl) (isLg_row (show shp 75 = (1, 2119, []) from rfl) _)
    refine G_iast (n := 2119) rfl (by decide) (by decide) dX12_said_11 ?_
    rw [← e32]
    refine G_iconst dX12_said_12 ?_
    exact G_iret rfl (rL 0 rfl) dX12_said_13 ⟨_, rfl, h⟩ o31

theorem sp_X12_said (d : Nat) (hd : 2 ≤ d) (σ : Mem) (hO : OKm σ) (x1 : Int) (hx1 : R32 x1) (x2 : Int) (hx2 : R32 x2) (x3 : Int) (hx3 : R32 x3) (A : Mem) (L : List Mem) (tx : Nat → Txt) (hpre : vsM σ A L tx) : Mt yX12_said cX12_said 5 (some .int) d [aR (74), aI (x1), aI (x2), aI (x3)] σ (QI (fun v σ' => (x1 = -1 → v = 0 ∧ vsM σ' (unsaidS A) L tx) ∧ (x1 ≠ -1 → saidOK A x1 x2 x3 → v = A 10 3 + 1 ∧ vsM σ' (saidS A x1 x2 x3) L tx) ∧ (x1 ≠ -1 → ¬ saidOK A x1 x2 x3 → v = -2 ∧ vsM σ' A L tx) ∧ Fr [75] σ σ')) := mt_X12_said hd hx1 hx2 hx3 hO (by
  unfold wp_X12_said
  have hS := hpre
  have hI := hS.1.2.2.1
  have hc := hI.1
  have e0 : σ 75 0 = A 10 0 := hS.1.1.1.1
  have e1 : σ 75 1 = A 10 1 := hS.1.1.1.2.1
  have e5 : σ 75 5 = A 10 3 := hS.1.1.1.2.2.2.1
  rw [e0, e1, e5]
  obtain ⟨t0, t1, t2, t3⟩ := hS.1.1
  refine ⟨fun hne => ?_, fun heq => fun σ21 e21 => ⟨fun _ => ⟨rfl, ?_⟩, fun h => absurd heq h, fun h => absurd heq h, by rw [e21]; exact (Fr.rf _ _).set (by simp)⟩⟩
  · have no : ¬ saidOK A x1 x2 x3 → (x1 = -1 → (-2 : Int) = 0 ∧ vsM σ (unsaidS A) L tx) ∧ (x1 ≠ -1 → saidOK A x1 x2 x3 → (-2 : Int) = A 10 3 + 1 ∧ vsM σ (saidS A x1 x2 x3) L tx) ∧ (x1 ≠ -1 → ¬ saidOK A x1 x2 x3 → (-2 : Int) = -2 ∧ vsM σ A L tx) ∧ Fr [75] σ σ := fun h => ⟨fun h2 => absurd h2 hne, fun _ h2 => absurd h2 h, fun _ _ => ⟨rfl, hS⟩, Fr.rf _ _⟩
    refine ⟨by omega, fun h => no (fun q => h q.1), fun h1 => ⟨by omega, fun h => no (fun q => h q.2.1), fun h2 => ⟨fun h => no (fun q => h q.2.2.1), fun h3 => ⟨fun h4 => ?_, fun h => no (fun q => by have := q.2.2.2; omega)⟩⟩⟩⟩
    have hok : saidOK A x1 x2 x3 := ⟨h1, h2, h3, by omega⟩
    refine ⟨by omega, fun σ15 e15 => ⟨by omega, fun σ19 e19 => ⟨by omega, fun σ23 e23 => ?_⟩⟩⟩
    have f5 : σ23 75 5 = A 10 3 := by rw [e23, mset_miss (by omega), e19, mset_miss (by omega), e15, mset_miss (by omega)]; exact e5
    rw [f5]
    refine ⟨by unfold R32; omega, fun σ27 e27 => ?_⟩
    have hF27 : Fr [75] σ σ27 := by rw [e27, e23, e19, e15]; exact ((((Fr.rf _ _).set (by simp)).set (by simp)).set (by simp)).set (by simp)
    refine ⟨fun h => absurd h hne, fun _ _ => ⟨by rw [e27, mset_self], ?_⟩, fun _ h => absurd hok h, hF27⟩
    have g75 : ∀ i : Int, i ≠ 5 → (i < 115 + 3 * A 10 3 ∨ 115 + 3 * A 10 3 + 2 < i) → σ27 75 i = σ 75 i := fun i h1 h2 => by
      rw [e27, mset_miss h1, e23, mset_miss (by omega), e19, mset_miss (by omega), e15, mset_miss (by omega)]
    refine hS.told ?_ (nowM_75 (nowM_told hS.1.2.1 (by unfold saidS; simp (disch := omega) only [mset_off, mset_hit, mset_miss, mcpy_off, mcpy_hit, mcpy_miss, mrow_off, mrow_same]) (by unfold saidS; simp (disch := omega) only [mset_off, mset_hit, mset_miss, mcpy_off, mcpy_hit, mcpy_miss, mrow_off, mrow_same]) (fun q hq => by unfold saidS; rw [mset_ne (by omega), mset_ne (by omega), mset_ne (by omega), mset_ne (by omega)])) (by unfold saidS; simp (disch := omega) only [mset_off, mset_hit, mset_miss, mcpy_off, mcpy_hit, mcpy_miss, mrow_off, mrow_same]; omega) (fun i hi => g75 i (by omega) (by omega))) (hI.said hok) (by unfold saidS; simp (disch := omega) only [mset_off, mset_hit, mset_miss, mcpy_off, mcpy_hit, mcpy_miss, mrow_off, mrow_same]) (fun j hj => g75 j (by omega) (by omega)) hF27
    unfold saidS
    refine ⟨?_, fun r x y => ?_, fun g x y => ?_, fun i x y => ?_⟩
    · rw [g75 0 (by omega) (by omega), g75 1 (by omega) (by omega), g75 2 (by omega) (by omega), g75 3 (by omega) (by omega), e27, mset_self]
      simp (disch := omega) only [mset_off, mset_hit, mset_miss, mcpy_off, mcpy_hit, mcpy_miss, mrow_off, mrow_same]; exact ⟨t0.1, t0.2.1, t0.2.2.1, trivial, t0.2.2.2.2⟩
    · simp (disch := omega) only [mset_off, mset_miss] at y ⊢
      rw [g75 _ (by omega) (by omega), g75 _ (by omega) (by omega), g75 _ (by omega) (by omega), g75 _ (by omega) (by omega)]; exact t1 r x y
    · simp (disch := omega) only [mset_off, mset_miss] at y ⊢
      rw [g75 _ (by omega) (by omega), g75 _ (by omega) (by omega)]; exact t2 g x y
    · simp (disch := omega) only [mset_hit] at y
      by_cases e : i = A 10 3
      · subst e
        rw [e27, e23, e19, e15]
        simp (disch := omega) only [mset_off, mset_hit, mset_miss, mcpy_off, mcpy_hit, mcpy_miss, mrow_off, mrow_same]; exact ⟨trivial, trivial, trivial⟩
      · rw [g75 _ (by omega) (by omega), g75 _ (by omega) (by omega), g75 _ (by omega) (by omega)]
        simp (disch := omega) only [mset_off, mset_hit, mset_miss, mcpy_off, mcpy_hit, mcpy_miss, mrow_off, mrow_same]; exact t3 i x (by omega)
  · have hF21 : Fr [75] σ σ21 := by rw [e21]; exact (Fr.rf _ _).set (by simp)
    refine hS.told ?_ (nowM_75 (nowM_told hS.1.2.1 (by unfold unsaidS; simp (disch := omega) only [mset_off, mset_hit, mset_miss, mcpy_off, mcpy_hit, mcpy_miss, mrow_off, mrow_same]) (by unfold unsaidS; simp (disch := omega) only [mset_off, mset_hit, mset_miss, mcpy_off, mcpy_hit, mcpy_miss, mrow_off, mrow_same]) (fun q hq => by unfold unsaidS; rw [mset_ne (by omega)])) (by unfold unsaidS; simp (disch := omega) only [mset_off, mset_hit, mset_miss, mcpy_off, mcpy_hit, mcpy_miss, mrow_off, mrow_same]; omega) (fun i hi => by rw [e21, mset_miss (by omega)])) hI.unsaid (by unfold unsaidS; simp (disch := omega) only [mset_off, mset_hit, mset_miss, mcpy_off, mcpy_hit, mcpy_miss, mrow_off, mrow_same]) (fun j hj => by rw [e21, mset_miss (by omega)]) hF21
    unfold unsaidS
    rw [e21]
    refine ⟨?_, fun r x y => ?_, fun g x y => ?_, fun i x y => ?_⟩
    · simp (disch := omega) only [mset_off, mset_hit, mset_miss, mcpy_off, mcpy_hit, mcpy_miss, mrow_off, mrow_same]; exact ⟨t0.1, t0.2.1, t0.2.2.1, trivial, t0.2.2.2.2⟩
    · simp (disch := omega) only [mset_off, mset_miss] at y ⊢; exact t1 r x y
    · simp (disch := omega) only [mset_off, mset_miss] at y ⊢; exact t2 g x y
    · simp (disch := omega) only [mset_hit] at y; omega)
