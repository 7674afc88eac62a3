/-! THE REFERENCE: its texts, and how much one sucks, how a road swells. -/
abbrev Cl : Type := Int × Int × Int × Int × Int
def lawM (σ : Mem) (i : Int) (s : Int) (o : Option (Env → Int)) (cl : List Cl) : Prop := match o with
  | none => ∀ (k : Nat) (c : Cl), cl[k]? = some c → c.1 ≠ s
  | some f => Bd f ∧ ∃ (k : Nat) (c : Cl), cl[k]? = some c ∧ c.1 = s ∧ (∀ (k' : Nat) (c' : Cl), k' < k → cl[k']? = some c' → c'.1 ≠ s) ∧ 0 ≤ σ 77 (729 * i + 1 + 5 * (k : Int) + 1) ∧ σ 77 (729 * i + 1 + 5 * (k : Int) + 2) ≤ 304 ∧ FM (cdM σ i) (ovM σ i) (σ 77 (729 * i + 1 + 5 * (k : Int) + 1)) (σ 77 (729 * i + 1 + 5 * (k : Int) + 2)) f
def textM (σ : Mem) (i : Int) (T : Txt) : Prop :=
  σ 77 (729 * i) = (T.2.2.length : Int) ∧ T.2.2.length ≤ 24 ∧ lawM σ i 0 T.1 T.2.2 ∧ lawM σ i 1 T.2.1 T.2.2 ∧ (∀ f, T.2.1 = some f → indep f) ∧
  ∀ (k : Nat) (c : Cl), T.2.2[k]? = some c → clOK c ∧ σ 77 (729 * i + 1 + 5 * (k : Int)) = c.1 ∧ (1 ≤ clN c.1 → σ 77 (729 * i + 1 + 5 * (k : Int) + 1) = c.2.1) ∧ (2 ≤ clN c.1 → σ 77 (729 * i + 1 + 5 * (k : Int) + 2) = c.2.2.1) ∧ (4 ≤ clN c.1 → σ 77 (729 * i + 1 + 5 * (k : Int) + 3) = c.2.2.2.1 ∧ σ 77 (729 * i + 1 + 5 * (k : Int) + 4) = c.2.2.2.2)
theorem textM.congr {σ σ' : Mem} {i : Int} {T : Txt} (h : textM σ i T) (hi : 0 ≤ i) (he : ∀ j : Int, 729 * i ≤ j → j < 729 * i + 729 → σ' 77 j = σ 77 j) : textM σ' i T := by
  have hlw : ∀ s o, lawM σ i s o T.2.2 → lawM σ' i s o T.2.2 := by
    intro s o hl
    unfold lawM at *
    cases o with
    | none => exact hl
    | some f =>
      obtain ⟨h1, k, c, h2, h3, h4, h5, h6, h7⟩ := hl
      have hk : k < T.2.2.length := (List.getElem?_eq_some_iff.mp h2).1
      have h24 := h.2.1
      have e1 := he (729 * i + 1 + 5 * (k : Int) + 1) (by omega) (by omega)
      have e2 := he (729 * i + 1 + 5 * (k : Int) + 2) (by omega) (by omega)
      refine ⟨h1, k, c, h2, h3, h4, by rw [e1]; exact h5, by rw [e2]; exact h6, ?_⟩
      rw [e1, e2]
      exact h7.congr (fun j hj hj2 => ⟨he _ (by omega) (by omega), he _ (by omega) (by omega)⟩)
  obtain ⟨h1, h2, h3, h4, h5, h6⟩ := h
  refine ⟨by rw [he _ (by omega) (by omega)]; exact h1, h2, hlw 0 _ h3, hlw 1 _ h4, h5, fun k c hk => ?_⟩
  have hk2 : k < T.2.2.length := (List.getElem?_eq_some_iff.mp hk).1
  rw [he _ (by omega) (by omega), he _ (by omega) (by omega), he _ (by omega) (by omega), he _ (by omega) (by omega), he _ (by omega) (by omega)]
  exact h6 k c hk
def vwM (σ : Mem) (A : Mem) (tx : Nat → Txt) : Prop := toldM σ 75 A ∧ nowM σ 75 A ∧ InvA A ∧ ∀ i : Nat, (i : Int) < A 10 2 → textM σ (i : Int) (tx i)
/-- the reference's cells that hold nothing between two calls -/
abbrev ScrM : List Nat := [79, 80, 81, 82, 83, 84, 85, 86, 87, 88, 89, 90, 91, 92]
theorem notScrM {q : Nat} (h : q < 79 ∨ 92 < q) : q ∉ ScrM := by
  simp only [ScrM, List.mem_cons, List.not_mem_nil, or_false, not_or]; omega
theorem vwM.fr {σ σ' : Mem} {A : Mem} {tx : Nat → Txt} (h : vwM σ A tx) (hf : Fr ScrM σ σ') : vwM σ' A tx := by
  have e5 := hf 75 (notScrM (by omega))
  have e7 := hf 77 (notScrM (by omega))
  obtain ⟨h1, h2, h3, h4⟩ := h
  refine ⟨by unfold toldM at *; rw [e5]; exact h1, by unfold nowM at *; rw [e5]; exact h2, h3, fun i hi => (h4 i hi).congr (by omega) (fun j _ _ => by rw [e7])⟩
def sel (T : Txt) (s : Int) : Option (Env → Int) := if s = 0 then T.1 else T.2.1
theorem held_eq {v top : Int} (h : 0 ≤ top) : (if v < 0 then 0 else if v > top then top else v) = max 0 (min top v) := by
  (repeat' split) <;> omega

def wp_X12_at0 (x1 : Int) (σ : Mem) (Q : Int → Mem → Prop) : Prop :=
  (0 ≤ (27 + (2 * x1)) ∧ (27 + (2 * x1)) < 2119) ∧
   Q (σ 75 (27 + (2 * x1))) σ
theorem mt_X12_at0 {d : Nat} (hd : 0 ≤ d) {x1 : Int} {σ : Mem} {Q : Int → Mem → Prop} (hx1 : R32 x1) (hO : OKm σ) (h : wp_X12_at0 x1 σ Q) : Mt yX12_at0 cX12_at0 2 (some .int) d [aR (74), aI (x1)] σ (QI Q) := by
  refine Mt.intro (by decide +kernel) (Nat.le_of_ble_eq_true rfl) [(0, aR (74)), (1, aI (x1))] rfl ?_
  unfold wp_X12_at0 at h
  refine G_aload_n 0 rfl rfl dX12_at0_0 ?_
  refine G_get (k := 0) (kd := (2, 75)) (v := aR 75) gf_X12_7 rfl rfl rfl rfl dX12_at0_1 ?_
  refine G_bipush (by decide) dX12_at0_4 ?_
  refine G_iconst dX12_at0_6 ?_
  refine G_iload_n 1 rfl rfl dX12_at0_7 ?_
  refine G_imul dX12_at0_8 ?_
  refine G_iadd dX12_at0_9 ?_
  obtain ⟨c1, h⟩ := h
  refine G_iald (n := 2119) rfl c1.1 c1.2 dX12_at0_10 ?_
  exact G_iret rfl (OKm.i hO 75 (27 + (2 * x1)) (isLg_row (show shp 75 = (1, 2119, []) from rfl) _)) dX12_at0_11 ⟨_, rfl, h⟩ hO

theorem sp_X12_at0 (d : Nat) (hd : 0 ≤ d) (σ : Mem) (hO : OKm σ) (x1 : Int) (hx1 : R32 x1) (hpre : 0 ≤ x1 ∧ x1 < 6) : Mt yX12_at0 cX12_at0 2 (some .int) d [aR (74), aI (x1)] σ (QI (fun v σ' => (σ 75 (27 + 2 * x1)) = v ∧ σ = σ')) := mt_X12_at0 hd hx1 hO (by
  unfold wp_X12_at0
  exact ⟨by omega, rfl, rfl⟩)

def wp_X12_went (x1 : Int) (σ : Mem) (Q : Int → Mem → Prop) : Prop :=
  (0 ≤ ((27 + (2 * x1)) + 1) ∧ ((27 + (2 * x1)) + 1) < 2119) ∧
   Q (σ 75 ((27 + (2 * x1)) + 1)) σ
theorem mt_X12_went {d : Nat} (hd : 0 ≤ d) {x1 : Int} {σ : Mem} {Q : Int → Mem → Prop} (hx1 : R32 x1) (hO : OKm σ) (h : wp_X12_went x1 σ Q) : Mt yX12_went cX12_went 2 (some .int) d [aR (74), aI (x1)] σ (QI Q) := by
  refine Mt.intro (by decide +kernel) (Nat.le_of_ble_eq_true rfl) [(0, aR (74)), (1, aI (x1))] rfl ?_
  unfold wp_X12_went at h
  refine G_aload_n 0 rfl rfl dX12_went_0 ?_
  refine G_get (k := 0) (kd := (2, 75)) (v := aR 75) gf_X12_7 rfl rfl rfl rfl dX12_went_1 ?_
  refine G_bipush (by decide) dX12_went_4 ?_
  refine G_iconst dX12_went_6 ?_
  refine G_iload_n 1 rfl rfl dX12_went_7 ?_
  refine G_imul dX12_went_8 ?_
  refine G_iadd dX12_went_9 ?_
  refine G_iconst dX12_went_10 ?_
  refine G_iadd dX12_went_11 ?_
  obtain ⟨c1, h⟩ := h
  refine G_iald (n := 2119) rfl c1.1 c1.2 dX12_went_12 ?_
  exact G_iret rfl (OKm.i hO 75 ((27 + (2 * x1)) + 1) (isLg_row (show shp 75 = (1, 2119, []) from rfl) _)) dX12_went_13 ⟨_, rfl, h⟩ hO

theorem sp_X12_went (d : Nat) (hd : 0 ≤ d) (σ : Mem) (hO : OKm σ) (x1 : Int) (hx1 : R32 x1) (hpre : 0 ≤ x1 ∧ x1 < 6) : Mt yX12_went cX12_went 2 (some .int) d [aR (74), aI (x1)] σ (QI (fun v σ' => (σ 75 (27 + 2 * x1 + 1)) = v ∧ σ = σ')) := mt_X12_went hd hx1 hO (by
  unfold wp_X12_went
  exact ⟨by omega, rfl, rfl⟩)

def wp_X12_mouth (x1 : Int) (σ : Mem) (Q : Int → Mem → Prop) : Prop :=
  (0 ≤ ((103 + (2 * x1)) + 1) ∧ ((103 + (2 * x1)) + 1) < 2119) ∧
   Q (σ 75 ((103 + (2 * x1)) + 1)) σ
theorem mt_X12_mouth {d : Nat} (hd : 0 ≤ d) {x1 : Int} {σ : Mem} {Q : Int → Mem → Prop} (hx1 : R32 x1) (hO : OKm σ) (h : wp_X12_mouth x1 σ Q) : Mt yX12_mouth cX12_mouth 2 (some .int) d [aR (74), aI (x1)] σ (QI Q) := by
  refine Mt.intro (by decide +kernel) (Nat.le_of_ble_eq_true rfl) [(0, aR (74)), (1, aI (x1))] rfl ?_
  unfold wp_X12_mouth at h
  refine G_aload_n 0 rfl rfl dX12_mouth_0 ?_
  refine G_get (k := 0) (kd := (2, 75)) (v := aR 75) gf_X12_7 rfl rfl rfl rfl dX12_mouth_1 ?_
  refine G_bipush (by decide) dX12_mouth_4 ?_
  refine G_iconst dX12_mouth_6 ?_
  refine G_iload_n 1 rfl rfl dX12_mouth_7 ?_
  refine G_imul dX12_mouth_8 ?_
  refine G_iadd dX12_mouth_9 ?_
  refine G_iconst dX12_mouth_10 ?_
  refine G_iadd dX12_mouth_11 ?_
  obtain ⟨c1, h⟩ := h
  refine G_iald (n := 2119) rfl c1.1 c1.2 dX12_mouth_12 ?_
  exact G_iret rfl (OKm.i hO 75 ((103 + (2 * x1)) + 1) (isLg_row (show shp 75 = (1, 2119, []) from rfl) _)) dX12_mouth_13 ⟨_, rfl, h⟩ hO

theorem sp_X12_mouth (d : Nat) (hd : 0 ≤ d) (σ : Mem) (hO : OKm σ) (x1 : Int) (hx1 : R32 x1) (hpre : 0 ≤ x1 ∧ x1 < 6) : Mt yX12_mouth cX12_mouth 2 (some .int) d [aR (74), aI (x1)] σ (QI (fun v σ' => (σ 75 (103 + 2 * x1 + 1)) = v ∧ σ = σ')) := mt_X12_mouth hd hx1 hO (by
  unfold wp_X12_mouth
  exact ⟨by omega, rfl, rfl⟩)

def wp_X12_other (x1 : Int) (x2 : Int) (σ : Mem) (Q : Int → Mem → Prop) : Prop :=
  (0 ≤ x1 ∧ x1 < 16 ∧ 0 ≤ (0 : Int) ∧ (0 : Int) < 4) ∧
   (((σ 75 (39 + 4 * x1 + (0 : Int))) ≠ x2) →
    (0 ≤ x1 ∧ x1 < 16 ∧ 0 ≤ (1 : Int) ∧ (1 : Int) < 4) ∧
    (((σ 75 (39 + 4 * x1 + (1 : Int))) ≠ x2) →
     Q (-1) σ) ∧
    (((σ 75 (39 + 4 * x1 + (1 : Int))) = x2) →
     (0 ≤ x1 ∧ x1 < 16 ∧ 0 ≤ (0 : Int) ∧ (0 : Int) < 4) ∧
     Q (σ 75 (39 + 4 * x1 + (0 : Int))) σ)) ∧
   (((σ 75 (39 + 4 * x1 + (0 : Int))) = x2) →
    (0 ≤ x1 ∧ x1 < 16 ∧ 0 ≤ (1 : Int) ∧ (1 : Int) < 4) ∧
    Q (σ 75 (39 + 4 * x1 + (1 : Int))) σ)
theorem mt_X12_other {d : Nat} (hd : 1 ≤ d) {x1 : Int} {x2 : Int} {σ : Mem} {Q : Int → Mem → Prop} (hx1 : R32 x1) (hx2 : R32 x2) (hO : OKm σ) (h : wp_X12_other x1 x2 σ Q) : Mt yX12_other cX12_other 3 (some .int) d [aR (74), aI (x1), aI (x2)] σ (QI Q) := by
  refine Mt.intro (by decide +kernel) (Nat.le_of_ble_eq_true rfl) [(0, aR (74)), (1, aI (x1)), (2, aI (x2))] rfl ?_
  unfold wp_X12_other at h
  refine G_aload_n 0 rfl rfl dX12_other_0 ?_
  refine G_iload_n 1 rfl rfl dX12_other_1 ?_
  refine G_iconst dX12_other_2 ?_
  obtain ⟨c1, h⟩ := h
  refine G_callV (as := [_, _]) cf_X12_85 rfl rfl rfl (sp_X12_told (d - 1) (by omega) _ hO _ hx1 _ (rL 0 rfl) c1) (by omega) rfl rfl (Nat.le_of_ble_eq_true rfl) dX12_other_3 ?_
  rintro _ _ ⟨_, rfl, rfl, rfl⟩ o3 r2
  refine G_iload_n 2 rfl rfl dX12_other_6 ?_
  refine G_icmp_ne (r2 _ rfl) hx2 dX12_other_7 (tgt := 19) (by decide) (fun c4 => ?_) (fun c4 => ?_)
  · have h := h.1 c4
    refine G_aload_n 0 rfl rfl dX12_other_19 ?_
    refine G_iload_n 1 rfl rfl dX12_other_20 ?_
    refine G_iconst dX12_other_21 ?_
    obtain ⟨c5, h⟩ := h
    refine G_callV (as := [_, _]) cf_X12_85 rfl rfl rfl (sp_X12_told (d - 1) (by omega) _ hO _ hx1 _ (rL 1 rfl) c5) (by omega) rfl rfl (Nat.le_of_ble_eq_true rfl) dX12_other_22 ?_
    rintro _ _ ⟨_, rfl, rfl, rfl⟩ o7 r6
    refine G_iload_n 2 rfl rfl dX12_other_25 ?_
    refine G_icmp_ne (r6 _ rfl) hx2 dX12_other_26 (tgt := 38) (by decide) (fun c8 => ?_) (fun c8 => ?_)
    · have h := h.1 c8
      refine G_iconst dX12_other_38 ?_
      exact G_iret rfl (rL (-1) rfl) dX12_other_39 ⟨_, rfl, h⟩ hO
    · have h := h.2 c8
      refine G_aload_n 0 rfl rfl dX12_other_29 ?_
      refine G_iload_n 1 rfl rfl dX12_other_30 ?_
      refine G_iconst dX12_other_31 ?_
      obtain ⟨c9, h⟩ := h
      refine G_callV (as := [_, _]) cf_X12_85 rfl rfl rfl (sp_X12_told (d - 1) (by omega) _ hO _ hx1 _ (rL 0 rfl) c9) (by omega) rfl rfl (Nat.le_of_ble_eq_true rfl) dX12_other_32 ?_
      rintro _ _ ⟨_, rfl, rfl, rfl⟩ o11 r10
      refine G_goto (tgt := 39) dX12_other_35 (by decide) ?_
      exact G_iret rfl (r10 _ rfl) dX12_other_39 ⟨_, rfl, h⟩ hO
  · have h := h.2 c4
    refine G_aload_n 0 rfl rfl dX12_other_10 ?_
    refine G_iload_n 1 rfl rfl dX12_other_11 ?_
    refine G_iconst dX12_other_12 ?_
    obtain ⟨c12, h⟩ := h
    refine G_callV (as := [_, _]) cf_X12_85 rfl rfl rfl (sp_X12_told (d - 1) (by omega) _ hO _ hx1 _ (rL 1 rfl) c12) (by omega) rfl rfl (Nat.le_of_ble_eq_true rfl) dX12_other_13 ?_
    rintro _ _ ⟨_, rfl, rfl, rfl⟩ o14 r13
    refine G_goto (tgt := 39) dX12_other_16 (by decide) ?_
    exact G_iret rfl (r13 _ rfl) dX12_other_39 ⟨_, rfl, h⟩ hO

theorem sp_X12_other (d : Nat) (hd : 1 ≤ d) (σ : Mem) (hO : OKm σ) (x1 : Int) (hx1 : R32 x1) (x2 : Int) (hx2 : R32 x2) (hpre : 0 ≤ x1 ∧ x1 < 16) : Mt yX12_other cX12_other 3 (some .int) d [aR (74), aI (x1), aI (x2)] σ (QI (fun v σ' => (if σ 75 (39 + 4 * x1) = x2 then σ 75 (39 + 4 * x1 + 1) else if σ 75 (39 + 4 * x1 + 1) = x2 then σ 75 (39 + 4 * x1) else -1) = v ∧ σ = σ')) := mt_X12_other hd hx1 hx2 hO (by
  unfold wp_X12_other
  have e0 : 39 + 4 * x1 + 0 = 39 + 4 * x1 := by omega
  rw [e0]
  grind)
