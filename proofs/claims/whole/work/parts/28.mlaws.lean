/-! THE REFERENCE: its texts, and how much one sucks, how a road swells. -/
abbrev Cl : Type := Int × Int × Int × Int × Int
def lawM (σ : Mem) (i : Int) (s : Int) (o : Option (Env → Int)) (cl : List Cl) : Prop := match o with
  | none => ∀ (k : Nat) (c : Cl), cl[k]? = some c → c.1 ≠ s
  | some f => Bd f ∧ ∃ (k : Nat) (c : Cl), cl[k]? = some c ∧ c.1 = s ∧ (∀ (k' : Nat) (c' : Cl), k' < k → cl[k']? = some c' → c'.1 ≠ s) ∧ 0 ≤ σ 77 (729 * i + 1 + 5 * (k : Int) + 1) ∧ σ 77 (729 * i + 1 + 5 * (k : Int) + 2) ≤ 304 ∧ FM (cdM σ i) (ovM σ i) (σ 77 (729 * i + 1 + 5 * (k : Int) + 1)) (σ 77 (729 * i + 1 + 5 * (k : Int) + 2)) f
def textM (σ : Mem) (i : Int) (T : Txt) : Prop :=
  σ 77 (729 * i) = (T.2.2.length : Int) ∧ T.2.2.length ≤ 24 ∧ lawM σ i 0 T.1 T.2.2 ∧ lawM σ i 1 T.2.1 T.2.2 ∧ okT T ∧
  ∀ (k : Nat) (c : Cl), T.2.2[k]? = some c → clOK c ∧ σ 77 (729 * i + 1 + 5 * (k : Int)) = c.1 ∧ (1 ≤ clN c.1 → σ 77 (729 * i + 1 + 5 * (k : Int) + 1) = c.2.1) ∧ (2 ≤ clN c.1 → σ 77 (729 * i + 1 + 5 * (k : Int) + 2) = c.2.2.1) ∧ (4 ≤ clN c.1 → σ 77 (729 * i + 1 + 5 * (k : Int) + 3) = c.2.2.2.1 ∧ σ 77 (729 * i + 1 + 5 * (k : Int) + 4) = c.2.2.2.2)
theorem textM.congr {σ σ' : Mem} {i : Int} {T : Txt} (h : textM σ i T) (hi : 0 ≤ i) (he : ∀ j : Int, 729 * i ≤ j → j < 729 * i + 729 → σ' 77 j = σ 77 j) : textM σ' i T := by
  have hlw : ∀ s o, lawM σ i s o T.2.2 → lawM σ' i s o T.2.2 := by
    intro s o hl
    unfold lawM at *
    cases o with
    | none => exact hl
    | some f =>
      obtain ⟨h1, k, c, h2, h3, h4, h5, h6, h7⟩ := hl
      have hk : k < T.2.2.length := (List.getElem?_eq_some_iff.mp h2).1
      have h24 := h.2.1
      have e1 := he (729 * i + 1 + 5 * (k : Int) + 1) (by omega) (by omega)
      have e2 := he (729 * i + 1 + 5 * (k : Int) + 2) (by omega) (by omega)
      refine ⟨h1, k, c, h2, h3, h4, by rw [e1]; exact h5, by rw [e2]; exact h6, ?_⟩
      rw [e1, e2]
      exact h7.congr (fun j hj hj2 => ⟨he _ (by omega) (by omega), he _ (by omega) (by omega)⟩)
  obtain ⟨h1, h2, h3, h4, h5, h6⟩ := h
  refine ⟨by rw [he _ (by omega) (by omega)]; exact h1, h2, hlw 0 _ h3, hlw 1 _ h4, h5, fun k c hk => ?_⟩
  have hk2 : k < T.2.2.length := (List.getElem?_eq_some_iff.mp hk).1
  rw [he _ (by omega) (by omega), he _ (by omega) (by omega), he _ (by omega) (by omega), he _ (by omega) (by omega), he _ (by omega) (by omega)]
  exact h6 k c hk
def nmOK (σ : Mem) : Prop := ∀ k : Int, 0 ≤ k → k ≤ 8 → Mil (σ 80 k)
def vwM (σ : Mem) (A : Mem) (tx : Nat → Txt) : Prop := toldM σ 75 A ∧ nowM σ 75 A ∧ InvA A ∧ (∀ i : Nat, (i : Int) < A 10 2 → textM σ (i : Int) (tx i)) ∧ nmOK σ
/-- the reference's cells that hold nothing between two calls -/
abbrev ScrM : List Nat := [79, 81, 82, 83, 84, 85, 86, 87, 88, 89, 90, 91, 92]
theorem notScrM {q : Nat} (h : q < 79 ∨ 92 < q ∨ q = 80) : q ∉ ScrM := by
  simp only [ScrM, List.mem_cons, List.not_mem_nil, or_false, not_or]; omega
theorem vwM.fr {σ σ' : Mem} {A : Mem} {tx : Nat → Txt} (h : vwM σ A tx) (hf : Fr ScrM σ σ') : vwM σ' A tx := by
  have e5 := hf 75 (notScrM (by omega))
  have e7 := hf 77 (notScrM (by omega))
  have e8 := hf 80 (notScrM (by omega))
  obtain ⟨h1, h2, h3, h4, h5⟩ := h
  exact ⟨by unfold toldM at *; rw [e5]; exact h1, by unfold nowM at *; rw [e5]; exact h2, h3, fun i hi => (h4 i hi).congr (by omega) (fun j _ _ => by rw [e7]), by unfold nmOK; rw [e8]; exact h5⟩
/-- only the names have changed -/
theorem vwM.fr80 {σ σ' : Mem} {A : Mem} {tx : Nat → Txt} (h : vwM σ A tx) (hf : Fr [80, 81, 82] σ σ') (hn : nmOK σ') : vwM σ' A tx := by
  have e5 := hf 75 (by simp)
  have e7 := hf 77 (by simp)
  obtain ⟨h1, h2, h3, h4, h5⟩ := h
  exact ⟨by unfold toldM at *; rw [e5]; exact h1, by unfold nowM at *; rw [e5]; exact h2, h3, fun i hi => (h4 i hi).congr (by omega) (fun j _ _ => by rw [e7]), hn⟩
def sel (T : Txt) (s : Int) : Option (Env → Int) := if s = 0 then T.1 else T.2.1
theorem held_eq {v top : Int} (h : 0 ≤ top) : (if v < 0 then 0 else if v > top then top else v) = max 0 (min top v) := by
  (repeat' split) <;> omega

def wp_X12_at0 (x1 : Int) (σ : Mem) (Q : Int → Mem → Prop) : Prop :=
  (0 ≤ (27 + (2 * x1)) ∧ (27 + (2 * x1)) < 2119) ∧
   Q (σ 75 (27 + (2 * x1))) σ
theorem mt_X12_at0 {d : Nat} (hd : 0 ≤ d) {x1 : Int} {σ : Mem} {Q : Int → Mem → Prop} (hx1 : R32 x1) (hO : OKm σ) (h : wp_X12_at0 x1 σ Q) : Mt yX12_at0 cX12_at0 2 (some .int) d [aR (74), aI (x1)] σ (QI Q) := by
  refine Mt.intro (by decide +kernel) (Nat.le_of_ble_eq_true rfl) [(0, aR (74)), (1, aI (x1))] rfl ?_
  unfold wp_X12_at0 at h
  refine G_aload_n 0 rfl rfl dX12_at0_0 ?_
  refine G_get (k := 0) (kd := (2, 75)) (v := aR 75) gf_X12_7 rfl rfl rfl rfl dX12_at0_1 ?_
  refine G_bipush (by decide) dX12_at0_4 ?_
  refine G_iconst dX12_at0_6 ?_
  refine G_iload_n 1 rfl rfl dX12_at0_7 ?_
  refine G_imul dX12_at0_8 ?_
  refine G_iadd dX12_at0_9 ?_
  obtain ⟨c1, h⟩ := h
  refine G_iald (n := 2119) rfl c1.1 c1.2 dX12_at0_10 ?_
  exact G_iret rfl (OKm.i hO 75 (27 + (2 * x1)) (isLg_row (show shp 75 = (1, 2119, []) from rfl) _)) dX12_at0_11 ⟨_, rfl, h⟩ hO

theorem sp_X12_at0 (d : Nat) (hd : 0 ≤ d) (σ : Mem) (hO : OKm σ) (x1 : Int) (hx1 : R32 x1) (hpre : 0 ≤ x1 ∧ x1 < 6) : Mt yX12_at0 cX12_at0 2 (some .int) d [aR (74), aI (x1)] σ (QI (fun v σ' => (σ 75 (27 + 2 * x1)) = v ∧ σ = σ')) := mt_X12_at0 hd hx1 hO (by
  unfold wp_X12_at0
  exact ⟨by omega, rfl, rfl⟩)

def wp_X12_went (x1 : Int) (σ : Mem) (Q : Int → Mem → Prop) : Prop :=
  (0 ≤ ((27 + (2 * x1)) + 1) ∧ ((27 + (2 * x1)) + 1) < 2119) ∧
   Q (σ 75 ((27 + (2 * x1)) + 1)) σ
theorem mt_X12_went {d : Nat} (hd : 0 ≤ d) {x1 : Int} {σ : Mem} {Q : Int → Mem → Prop} (hx1 : R32 x1) (hO : OKm σ) (h : wp_X12_went x1 σ Q) : Mt yX12_went cX12_went 2 (some .int) d [aR (74), aI (x1)] σ (QI Q) := by
  refine Mt.intro (by decide +kernel) (Nat.le_of_ble_eq_true rfl) [(0, aR (74)), (1, aI (x1))] rfl ?_
  unfold wp_X12_went at h
  refine G_aload_n 0 rfl rfl dX12_went_0 ?_
  refine G_get (k := 0) (kd := (2, 75)) (v := aR 75) gf_X12_7 rfl rfl rfl rfl dX12_went_1 ?_
  refine G_bipush (by decide) dX12_went_4 ?_
  refine G_iconst dX12_went_6 ?_
  refine G_iload_n 1 rfl rfl dX12_went_7 ?_
  refine G_imul dX12_went_8 ?_
  refine G_iadd dX12_went_9 ?_
  refine G_iconst dX12_went_10 ?_
  refine G_iadd dX12_went_11 ?_
  obtain ⟨c1, h⟩ := h
  refine G_iald (n := 2119) rfl c1.1 c1.2 dX12_went_12 ?_
  exact G_iret rfl (OKm.i hO 75 ((27 + (2 * x1)) + 1) (isLg_row (show shp 75 = (1, 2119, []) from rfl) _)) dX12_went_13 ⟨_, rfl, h⟩ hO

theorem sp_X12_went (d : Nat) (hd : 0 ≤ d) (σ : Mem) (hO : OKm σ) (x1 : Int) (hx1 : R32 x1) (hpre : 0 ≤ x1 ∧ x1 < 6) : Mt yX12_went cX12_went 2 (some .int) d [aR (74), aI (x1)] σ (QI (fun v σ' => (σ 75 (27 + 2 * x1 + 1)) = v ∧ σ = σ')) := mt_X12_went hd hx1 hO (by
  unfold wp_X12_went
  exact ⟨by omega, rfl, rfl⟩)

def wp_X12_mouth (x1 : Int) (σ : Mem) (Q : Int → Mem → Prop) : Prop :=
  (0 ≤ ((103 + (2 * x1)) + 1) ∧ ((103 + (2 * x1)) + 1) < 2119) ∧
   Q (σ 75 ((103 + (2 * x1)) + 1)) σ
theorem mt_X12_mouth {d : Nat} (hd : 0 ≤ d) {x1 : Int} {σ : Mem} {Q : Int → Mem → Prop} (hx1 : R32 x1) (hO : OKm σ) (h : wp_X12_mouth x1 σ Q) : Mt yX12_mouth cX12_mouth 2 (some .int) d [aR (74), aI (x1)] σ (QI Q) := by
  refine Mt.intro (by decide +kernel) (Nat.le_of_ble_eq_true rfl) [(0, aR (74)), (1, aI (x1))] rfl ?_
  unfold wp_X12_mouth at h
  refine G_aload_n 0 rfl rfl dX12_mouth_0 ?_
  refine G_get (k := 0) (kd := (2, 75)) (v := aR 75) gf_X12_7 rfl rfl rfl rfl dX12_mouth_1 ?_
  refine G_bipush (by decide) dX12_mouth_4 ?_
  refine G_iconst dX12_mouth_6 ?_
  refine G_iload_n 1 rfl rfl dX12_mouth_7 ?_
  refine G_imul dX12_mouth_8 ?_
  refine G_iadd dX12_mouth_9 ?_
  refine G_iconst dX12_mouth_10 ?_
  refine G_iadd dX12_mouth_11 ?_
  obtain ⟨c1, h⟩ := h
  refine G_iald (n := 2119) rfl c1.1 c1.2 dX12_mouth_12 ?_
  exact G_iret rfl (OKm.i hO 75 ((103 + (2 * x1)) + 1) (isLg_row (show shp 75 = (1, 2119, []) from rfl) _)) dX12_mouth_13 ⟨_, rfl, h⟩ hO

theorem sp_X12_mouth (d : Nat) (hd : 0 ≤ d) (σ : Mem) (hO : OKm σ) (x1 : Int) (hx1 : R32 x1) (hpre : 0 ≤ x1 ∧ x1 < 6) : Mt yX12_mouth cX12_mouth 2 (some .int) d [aR (74), aI (x1)] σ (QI (fun v σ' => (σ 75 (103 + 2 * x1 + 1)) = v ∧ σ = σ')) := mt_X12_mouth hd hx1 hO (by
  unfold wp_X12_mouth
  exact ⟨by omega, rfl, rfl⟩)

def wp_X12_other (x1 : Int) (x2 : Int) (σ : Mem) (Q : Int → Mem → Prop) : Prop :=
  (0 ≤ x1 ∧ x1 < 16 ∧ 0 ≤ (0 : Int) ∧ (0 : Int) < 4) ∧
   (((σ 75 (39 + 4 * x1 + (0 : Int))) ≠ x2) →
    (0 ≤ x1 ∧ x1 < 16 ∧ 0 ≤ (1 : Int) ∧ (1 : Int) < 4) ∧
    (((σ 75 (39 + 4 * x1 + (1 : Int))) ≠ x2) →
     Q (-1) σ) ∧
    (((σ 75 (39 + 4 * x1 + (1 : Int))) = x2) →
     (0 ≤ x1 ∧ x1 < 16 ∧ 0 ≤ (0 : Int) ∧ (0 : Int) < 4) ∧
     Q (σ 75 (39 + 4 * x1 + (0 : Int))) σ)) ∧
   (((σ 75 (39 + 4 * x1 + (0 : Int))) = x2) →
    (0 ≤ x1 ∧ x1 < 16 ∧ 0 ≤ (1 : Int) ∧ (1 : Int) < 4) ∧
    Q (σ 75 (39 + 4 * x1 + (1 : Int))) σ)
theorem mt_X12_other {d : Nat} (hd : 1 ≤ d) {x1 : Int} {x2 : Int} {σ : Mem} {Q : Int → Mem → Prop} (hx1 : R32 x1) (hx2 : R32 x2) (hO : OKm σ) (h : wp_X12_other x1 x2 σ Q) : Mt yX12_other cX12_other 3 (some .int) d [aR (74), aI (x1), aI (x2)] σ (QI Q) := by
  refine Mt.intro (by decide +kernel) (Nat.le_of_ble_eq_true rfl) [(0, aR (74)), (1, aI (x1)), (2, aI (x2))] rfl ?_
  unfold wp_X12_other at h
  refine G_aload_n 0 rfl rfl dX12_other_0 ?_
  refine G_iload_n 1 rfl rfl dX12_other_1 ?_
  refine G_iconst dX12_other_2 ?_
  obtain ⟨c1, h⟩ := h
  refine G_callV (as := [_, _]) cf_X12_85 rfl rfl rfl (sp_X12_told (d - 1) (by omega) _ hO _ hx1 _ (rL 0 rfl) c1) (by omega) rfl rfl (Nat.le_of_ble_eq_true rfl) dX12_other_3 ?_
  rintro _ _ ⟨_, rfl, rfl, rfl⟩ o3 r2
  refine G_iload_n 2 rfl rfl dX12_other_6 ?_
  refine G_icmp_ne (r2 _ rfl) hx2 dX12_other_7 (tgt := 19) (by decide) (fun c4 => ?_) (fun c4 => ?_)
  · have h := h.1 c4
    refine G_aload_n 0 rfl rfl dX12_other_19 ?_
    refine G_iload_n 1 rfl rfl dX12_other_20 ?_
    refine G_iconst dX12_other_21 ?_
    obtain ⟨c5, h⟩ := h
    refine G_callV (as := [_, _]) cf_X12_85 rfl rfl rfl (sp_X12_told (d - 1) (by omega) _ hO _ hx1 _ (rL 1 rfl) c5) (by omega) rfl rfl (Nat.le_of_ble_eq_true rfl) dX12_other_22 ?_
    rintro _ _ ⟨_, rfl, rfl, rfl⟩ o7 r6
    refine G_iload_n 2 rfl rfl dX12_other_25 ?_
    refine G_icmp_ne (r6 _ rfl) hx2 dX12_other_26 (tgt := 38) (by decide) (fun c8 => ?_) (fun c8 => ?_)
    · have h := h.1 c8
      refine G_iconst dX12_other_38 ?_
      exact G_iret rfl (rL (-1) rfl) dX12_other_39 ⟨_, rfl, h⟩ hO
    · have h := h.2 c8
      refine G_aload_n 0 rfl rfl dX12_other_29 ?_
      refine G_iload_n 1 rfl rfl dX12_other_30 ?_
      refine G_iconst dX12_other_31 ?_
      obtain ⟨c9, h⟩ := h
      refine G_callV (as := [_, _]) cf_X12_85 rfl rfl rfl (sp_X12_told (d - 1) (by omega) _ hO _ hx1 _ (rL 0 rfl) c9) (by omega) rfl rfl (Nat.le_of_ble_eq_true rfl) dX12_other_32 ?_
      rintro _ _ ⟨_, rfl, rfl, rfl⟩ o11 r10
      refine G_goto (tgt := 39) dX12_other_35 (by decide) ?_
      exact G_iret rfl (r10 _ rfl) dX12_other_39 ⟨_, rfl, h⟩ hO
  · have h := h.2 c4
    refine G_aload_n 0 rfl rfl dX12_other_10 ?_
    refine G_iload_n 1 rfl rfl dX12_other_11 ?_
    refine G_iconst dX12_other_12 ?_
    obtain ⟨c12, h⟩ := h
    refine G_callV (as := [_, _]) cf_X12_85 rfl rfl rfl (sp_X12_told (d - 1) (by omega) _ hO _ hx1 _ (rL 1 rfl) c12) (by omega) rfl rfl (Nat.le_of_ble_eq_true rfl) dX12_other_13 ?_
    rintro _ _ ⟨_, rfl, rfl, rfl⟩ o14 r13
    refine G_goto (tgt := 39) dX12_other_16 (by decide) ?_
    exact G_iret rfl (r13 _ rfl) dX12_other_39 ⟨_, rfl, h⟩ hO

theorem sp_X12_other (d : Nat) (hd : 1 ≤ d) (σ : Mem) (hO : OKm σ) (x1 : Int) (hx1 : R32 x1) (x2 : Int) (hx2 : R32 x2) (hpre : 0 ≤ x1 ∧ x1 < 16) : Mt yX12_other cX12_other 3 (some .int) d [aR (74), aI (x1), aI (x2)] σ (QI (fun v σ' => (if σ 75 (39 + 4 * x1) = x2 then σ 75 (39 + 4 * x1 + 1) else if σ 75 (39 + 4 * x1 + 1) = x2 then σ 75 (39 + 4 * x1) else -1) = v ∧ σ = σ')) := mt_X12_other hd hx1 hx2 hO (by
  unfold wp_X12_other
  have e0 : 39 + 4 * x1 + 0 = 39 + 4 * x1 := by omega
  rw [e0]
  grind)

def wp_X12_says (x1 : Int) (x2 : Int) (x3 : Int) (x4 : Int) (σ : Mem) (Q : Int → Mem → Prop) : Prop :=
 ∀ P3 : Int → Int → Int → Int → Int → Mem → Prop,
 (∀ (v1 : Int) (v2 : Int) (v3 : Int) (v4 : Int) (v5 : Int) (σ : Mem), (R32 v1 → R32 v2 → R32 v3 → R32 v4 → R32 v5 → OKm σ →
   ((v1 < 0) →
     Q v3 σ) ∧
    ((0 ≤ v1) →
     (0 ≤ (729 * v1) ∧ (729 * v1) < 2916) ∧
     (((σ 77 (729 * v1)) ≤ v5) →
      Q v3 σ) ∧
     ((v5 < (σ 77 (729 * v1))) →
      (0 ≤ (((729 * v1) + 1) + (5 * v5)) ∧ (((729 * v1) + 1) + (5 * v5)) < 2916) ∧
      (((σ 77 (((729 * v1) + 1) + (5 * v5))) ≠ v2) →
       R32 (v5 + 1) ∧ P3 v1 v2 v3 v4 (v5 + 1) σ) ∧
      (((σ 77 (((729 * v1) + 1) + (5 * v5))) = v2) →
       ∃ g7 : Env → Int, ((0 ≤ v1 ∧ v1 < 4) ∧ (0 ≤ v5 ∧ v5 < 24) ∧ 0 ≤ σ 77 (729 * v1 + 1 + 5 * v5 + 1) ∧ σ 77 (729 * v1 + 1 + 5 * v5 + 2) ≤ 304 ∧ FM (cdM σ v1) (ovM σ v1) (σ 77 (729 * v1 + 1 + 5 * v5 + 1)) (σ 77 (729 * v1 + 1 + 5 * v5 + 2)) g7 ∧ okE (envM σ) ∧ σ 75 0 ≤ 16) ∧
       ∀ (u12 : Int) (σ11 : Mem), R64 u12 → OKm σ11 → (u12 = g7 (envM σ) ∧ Fr [81, 82] σ σ11) →
       Q (if u12 < (0 : Int) then (0 : Int) else if u12 > v4 then v4 else u12) σ11)))) → P3 v1 v2 v3 v4 v5 σ) →
  P3 x1 x2 x3 x4 0 σ
theorem mt_X12_says {d : Nat} (hd : 3 ≤ d) {x1 : Int} {x2 : Int} {x3 : Int} {x4 : Int} {σ : Mem} {Q : Int → Mem → Prop} (hx1 : R32 x1) (hx2 : R32 x2) (hx3 : R32 x3) (hx4 : R32 x4) (hO : OKm σ) (h : wp_X12_says x1 x2 x3 x4 σ Q) : Mt yX12_says cX12_says 6 (some .int) d [aR (74), aI (x1), aI (x2), aI (x3), aI (x4)] σ (QI Q) := by
  refine Mt.intro (by decide +kernel) (Nat.le_of_ble_eq_true rfl) [(0, aR (74)), (1, aI (x1)), (2, aI (x2)), (3, aI (x3)), (4, aI (x4))] rfl ?_
  unfold wp_X12_says at h
  have h := h (fun (v1 : Int) (v2 : Int) (v3 : Int) (v4 : Int) (v5 : Int) (σ : Mem) => R32 v1 → R32 v2 → R32 v3 → R32 v4 → R32 v5 → OKm σ → G yX12_says cX12_says 6 (some .int) d (QI Q) 3 [(0, aR (74)), (1, aI (v1)), (2, aI (v2)), (3, aI (v3)), (4, aI (v4)), (5, aI (v5))] [] σ) ?_
  · refine G_iconst dX12_says_0 ?_
    refine G_istore (lv' := [(5, aI (0)), (0, aR (74)), (1, aI (x1)), (2, aI (x2)), (3, aI (x3)), (4, aI (x4))]) rfl (by decide) dX12_says_1 ?_
    exact G_pick [1, 2, 3, 4, 5, 0] rfl (h hx1 hx2 hx3 hx4 (rL 0 rfl) hO)
  · intro v1 v2 v3 v4 v5 σ h hv1 hv2 hv3 hv4 hv5 hO
    have h := h hv1 hv2 hv3 hv4 hv5 hO
    refine G_iload_n 1 rfl rfl dX12_says_3 ?_
    refine G_if_lt hv1 dX12_says_4 (tgt := 63) (by decide) (fun c1 => ?_) (fun c1 => ?_)
    · have h := h.1 c1
      refine G_iload_n 3 rfl rfl dX12_says_63 ?_
      exact G_iret rfl hv3 dX12_says_64 ⟨_, rfl, h⟩ hO
    · have h := h.2 c1
      refine G_iload 5 rfl dX12_says_7 ?_
      refine G_aload_n 0 rfl rfl dX12_says_9 ?_
      refine G_get (k := 2) (kd := (2, 77)) (v := aR 77) gf_X12_16 rfl rfl rfl rfl dX12_says_10 ?_
      refine G_sipush (by decide) dX12_says_13 ?_
      refine G_iload_n 1 rfl rfl dX12_says_16 ?_
      refine G_imul dX12_says_17 ?_
      obtain ⟨c2, h⟩ := h
      refine G_iald (n := 2916) rfl c2.1 c2.2 dX12_says_18 ?_
      refine G_icmp_ge hv5 (OKm.i hO 77 (729 * v1) (isLg_row (show shp 77 = (1, 2916, []) from rfl) _)) dX12_says_19 (tgt := 63) (by decide) (fun c3 => ?_) (fun c3 => ?_)
      · have h := h.1 c3
        refine G_iload_n 3 rfl rfl dX12_says_63 ?_
        exact G_iret rfl hv3 dX12_says_64 ⟨_, rfl, h⟩ hO
      · have h := h.2 c3
        refine G_aload_n 0 rfl rfl dX12_says_22 ?_
        refine G_get (k := 2) (kd := (2, 77)) (v := aR 77) gf_X12_16 rfl rfl rfl rfl dX12_says_23 ?_
        refine G_sipush (by decide) dX12_says_26 ?_
        refine G_iload_n 1 rfl rfl dX12_says_29 ?_
        refine G_imul dX12_says_30 ?_
        refine G_iconst dX12_says_31 ?_
        refine G_iadd dX12_says_32 ?_
        refine G_iconst dX12_says_33 ?_
        refine G_iload 5 rfl dX12_says_34 ?_
        refine G_imul dX12_says_36 ?_
        refine G_iadd dX12_says_37 ?_
        obtain ⟨c4, h⟩ := h
        refine G_iald (n := 2916) rfl c4.1 c4.2 dX12_says_38 ?_
        refine G_iload_n 2 rfl rfl dX12_says_39 ?_
        refine G_icmp_ne (OKm.i hO 77 (((729 * v1) + 1) + (5 * v5)) (isLg_row (show shp 77 = (1, 2916, []) from rfl) _)) hv2 dX12_says_40 (tgt := 57) (by decide) (fun c5 => ?_) (fun c5 => ?_)
        · have h := h.1 c5
          refine G_iinc (lv' := [(5, aI ((v5 + 1))), (0, aR (74)), (1, aI (v1)), (2, aI (v2)), (3, aI (v3)), (4, aI (v4))]) (k := 5) rfl rfl (by decide) dX12_says_57 ?_
          refine G_goto (tgt := 3) dX12_says_60 (by decide) ?_
          obtain ⟨c6, h⟩ := h
          exact G_pick [1, 2, 3, 4, 5, 0] rfl (h hv1 hv2 hv3 hv4 c6 hO)
        · have h := h.2 c5
          refine G_aload_n 0 rfl rfl dX12_says_43 ?_
          refine G_iload_n 1 rfl rfl dX12_says_44 ?_
          refine G_iload 5 rfl dX12_says_45 ?_
          obtain ⟨g7, c8, h⟩ := h
          refine G_callV (as := [_, _]) cf_X12_298 rfl rfl rfl (sp_X12_summedUp (d - 1) (by omega) _ hO _ hv1 _ hv5 g7 c8) (by omega) rfl rfl (Nat.le_of_ble_eq_true rfl) dX12_says_47 ?_
          rintro _ σ11 ⟨u12, rfl, z13⟩ o10 r9
          have h := h _ _ (r9 _ rfl) o10 z13
          refine G_iconst dX12_says_50 ?_
          refine G_iload 4 rfl dX12_says_51 ?_
          refine G_callS (as := [_, _, _]) cf_X12_301 rfl (sp_X12_held (d - 1) (by omega) _ o10 _ (r9 _ rfl) _ (rL 0 rfl) _ hv4) (by omega) rfl rfl (Nat.le_of_ble_eq_true rfl) dX12_says_53 ?_
          rintro _ _ ⟨_, rfl, rfl, rfl⟩ o15 r14
          exact G_iret rfl (r14 _ rfl) dX12_says_56 ⟨_, rfl, h⟩ o10

theorem sp_X12_says (d : Nat) (hd : 3 ≤ d) (σ : Mem) (hO : OKm σ) (x1 : Int) (hx1 : R32 x1) (x2 : Int) (hx2 : R32 x2) (x3 : Int) (hx3 : R32 x3) (x4 : Int) (hx4 : R32 x4) (T : Txt) (hpre : (-1 ≤ x1 ∧ x1 < 4) ∧ (0 ≤ x1 → textM σ x1 T) ∧ (x1 < 0 → T = (none, none, [])) ∧ (x2 = 0 ∨ x2 = 1) ∧ okE (envM σ) ∧ σ 75 0 ≤ 16 ∧ 0 ≤ x4) : Mt yX12_says cX12_says 6 (some .int) d [aR (74), aI (x1), aI (x2), aI (x3), aI (x4)] σ (QI (fun v σ' => v = (match sel T x2 with | none => x3 | some f => max 0 (min x4 (f (envM σ)))) ∧ Fr [81, 82] σ σ')) := mt_X12_says hd hx1 hx2 hx3 hx4 hO (by
  unfold wp_X12_says
  intro P3 h3
  obtain ⟨hx1r, hT1, hT2, hs, hE, h75, htop⟩ := hpre
  by_cases hneg : x1 < 0
  · refine h3 _ _ _ _ _ _ (fun _ _ _ _ _ _ => ⟨fun _ => ?_, fun h => absurd h (by omega)⟩)
    rw [hT2 hneg]
    unfold sel
    rcases hs with rfl | rfl <;> exact ⟨rfl, Fr.rf _ _⟩
  have hT := hT1 (by omega)
  obtain ⟨t1, t2, t3, t4, t5, t6⟩ := hT
  have hlaw : lawM σ x1 x2 (sel T x2) T.2.2 := by
    unfold sel
    rcases hs with rfl | rfl
    · exact t3
    · exact t4
  have H : ∀ (n : Nat) (k : Nat), k + n = T.2.2.length → (∀ (k' : Nat) (c' : Cl), k' < k → T.2.2[k']? = some c' → c'.1 ≠ x2) → P3 x1 x2 x3 x4 (k : Int) σ := by
    intro n
    induction n with
    | zero =>
      intro k hk hb
      refine h3 _ _ _ _ _ _ (fun _ _ _ _ _ _ => ⟨fun h => absurd h (by omega), fun _ => ⟨by omega, fun _ => ?_, fun h => absurd h (by omega)⟩⟩)
      cases ho : sel T x2 with
      | none => exact ⟨rfl, Fr.rf _ _⟩
      | some f =>
        rw [ho] at hlaw
        obtain ⟨-, k2, c2, z1, z2, -⟩ := hlaw
        have hk2 : k2 < T.2.2.length := (List.getElem?_eq_some_iff.mp z1).1
        exact absurd z2 (hb k2 c2 (by omega) z1)
    | succ n ih =>
      intro k hk hb
      have hkl : k < T.2.2.length := by omega
      obtain ⟨c, hc⟩ : ∃ c, T.2.2[k]? = some c := ⟨T.2.2[k], List.getElem?_eq_getElem hkl⟩
      have hck := t6 k c hc
      refine h3 _ _ _ _ _ _ (fun _ _ _ _ _ _ => ⟨fun h => absurd h (by omega), fun _ => ⟨by omega, fun h => absurd h (by omega), fun _ => ⟨by omega, fun hne => ?_, fun heq => ?_⟩⟩⟩)
      · refine ⟨by unfold R32; omega, ?_⟩
        have := ih (k + 1) (by omega) (fun k' c' h1 h2 => by
          by_cases e : k' = k
          · subst e
            rw [hc] at h2
            cases h2
            rw [hck.2.1] at hne
            exact hne
          · exact hb k' c' (by omega) h2)
        rw [show ((k : Int) + 1) = ((k + 1 : Nat) : Int) by omega]
        exact this
      · rw [hck.2.1] at heq
        cases ho : sel T x2 with
        | none =>
          rw [ho] at hlaw
          exact absurd heq (hlaw k c hc)
        | some f =>
          rw [ho] at hlaw
          obtain ⟨-, k2, c2, z1, z2, z3, z4, z5, z6⟩ := hlaw
          have hkk : k2 = k := by
            rcases Nat.lt_trichotomy k2 k with h | h | h
            · exact absurd z2 (hb k2 c2 h z1)
            · exact h
            · exact absurd heq (z3 k c h hc)
          subst hkk
          refine ⟨f, ⟨by omega, by omega, z4, z5, z6, hE, h75⟩, ?_⟩
          intro u σ1 hu hO1 ⟨eu, hF⟩
          refine ⟨?_, hF⟩
          rw [held_eq htop, eu]
  exact H T.2.2.length 0 (by omega) (fun k' c' h1 _ => by omega))

def nm6 (σ : Mem) (r : Int) : Mem := mset (mset (mset (mset (mset (mset σ 80 0 (σ 75 6)) 80 1 (σ 75 8)) 80 2 r) 80 3 (σ 75 (39 + 4 * r + 2))) 80 4 (σ 75 (11 + r))) 80 8 (σ 75 (39 + 4 * r + 3))

def wp_X12_name (x1 : Int) (σ : Mem) (Q : Mem → Prop) : Prop :=
  ∀ σ1 : Mem, σ1 = mset σ 80 0 (σ 75 6) →
   ∀ σ4 : Mem, σ4 = mset σ1 80 1 (σ1 75 8) →
   ∀ σ7 : Mem, σ7 = mset σ4 80 2 x1 →
   (0 ≤ x1 ∧ x1 < 16 ∧ 0 ≤ (2 : Int) ∧ (2 : Int) < 4) ∧
   ∀ σ13 : Mem, σ13 = mset σ7 80 3 (σ7 75 (39 + 4 * x1 + (2 : Int))) →
   (0 ≤ (11 + x1) ∧ (11 + x1) < 2119) ∧
   ∀ σ17 : Mem, σ17 = mset σ13 80 4 (σ13 75 (11 + x1)) →
   (0 ≤ x1 ∧ x1 < 16 ∧ 0 ≤ (3 : Int) ∧ (3 : Int) < 4) ∧
   ∀ σ23 : Mem, σ23 = mset σ17 80 8 (σ17 75 (39 + 4 * x1 + (3 : Int))) →
   Q σ23
theorem mt_X12_name {d : Nat} (hd : 1 ≤ d) {x1 : Int} {σ : Mem} {Q : Mem → Prop} (hx1 : R32 x1) (hO : OKm σ) (h : wp_X12_name x1 σ Q) : Mt yX12_name cX12_name 2 none d [aR (74), aI (x1)] σ (QV Q) := by
  refine Mt.intro (by decide +kernel) (Nat.le_of_ble_eq_true rfl) [(0, aR (74)), (1, aI (x1))] rfl ?_
  unfold wp_X12_name at h
  refine G_aload_n 0 rfl rfl dX12_name_0 ?_
  refine G_get (k := 20) (kd := (2, 80)) (v := aR 80) gf_X12_32 rfl rfl rfl rfl dX12_name_1 ?_
  refine G_iconst dX12_name_4 ?_
  refine G_aload_n 0 rfl rfl dX12_name_5 ?_
  refine G_get (k := 0) (kd := (2, 75)) (v := aR 75) gf_X12_7 rfl rfl rfl rfl dX12_name_6 ?_
  refine G_bipush (by decide) dX12_name_9 ?_
  refine G_iald (n := 2119) rfl (by decide) (by decide) dX12_name_11 ?_
  obtain ⟨σ1, e3⟩ : ∃ τ : Mem, τ = mset σ 80 0 (σ 75 6) := ⟨_, rfl⟩
  have h := h σ1 e3
  have o2 : OKm σ1 := by rw [e3]; exact OKm.seti hO _ _ _ (OKm.i hO 75 6 (isLg_row (show shp 75 = (1, 2119, []) from rfl) _)) (isLg_row (show shp 80 = (1, 9, []) from rfl) _)
  refine G_iast (n := 9) rfl (by decide) (by decide) dX12_name_12 ?_
  rw [← e3]
  refine G_aload_n 0 rfl rfl dX12_name_13 ?_
  refine G_get (k := 20) (kd := (2, 80)) (v := aR 80) gf_X12_32 rfl rfl rfl rfl dX12_name_14 ?_
  refine G_iconst dX12_name_17 ?_
  refine G_aload_n 0 rfl rfl dX12_name_18 ?_
  refine G_get (k := 0) (kd := (2, 75)) (v := aR 75) gf_X12_7 rfl rfl rfl rfl dX12_name_19 ?_
  refine G_bipush (by decide) dX12_name_22 ?_
  refine G_iald (n := 2119) rfl (by decide) (by decide) dX12_name_24 ?_
  obtain ⟨σ4, e6⟩ : ∃ τ : Mem, τ = mset σ1 80 1 (σ1 75 8) := ⟨_, rfl⟩
  have h := h σ4 e6
  have o5 : OKm σ4 := by rw [e6]; exact OKm.seti o2 _ _ _ (OKm.i o2 75 8 (isLg_row (show shp 75 = (1, 2119, []) from rfl) _)) (isLg_row (show shp 80 = (1, 9, []) from rfl) _)
  refine G_iast (n := 9) rfl (by decide) (by decide) dX12_name_25 ?_
  rw [← e6]
  refine G_aload_n 0 rfl rfl dX12_name_26 ?_
  refine G_get (k := 20) (kd := (2, 80)) (v := aR 80) gf_X12_32 rfl rfl rfl rfl dX12_name_27 ?_
  refine G_iconst dX12_name_30 ?_
  refine G_iload_n 1 rfl rfl dX12_name_31 ?_
  obtain ⟨σ7, e9⟩ : ∃ τ : Mem, τ = mset σ4 80 2 x1 := ⟨_, rfl⟩
  have h := h σ7 e9
  have o8 : OKm σ7 := by rw [e9]; exact OKm.seti o5 _ _ _ hx1 (isLg_row (show shp 80 = (1, 9, []) from rfl) _)
  refine G_iast (n := 9) rfl (by decide) (by decide) dX12_name_32 ?_
  rw [← e9]
  refine G_aload_n 0 rfl rfl dX12_name_33 ?_
  refine G_get (k := 20) (kd := (2, 80)) (v := aR 80) gf_X12_32 rfl rfl rfl rfl dX12_name_34 ?_
  refine G_iconst dX12_name_37 ?_
  refine G_aload_n 0 rfl rfl dX12_name_38 ?_
  refine G_iload_n 1 rfl rfl dX12_name_39 ?_
  refine G_iconst dX12_name_40 ?_
  obtain ⟨c10, h⟩ := h
  refine G_callV (as := [_, _]) cf_X12_85 rfl rfl rfl (sp_X12_told (d - 1) (by omega) _ o8 _ hx1 _ (rL 2 rfl) c10) (by omega) rfl rfl (Nat.le_of_ble_eq_true rfl) dX12_name_41 ?_
  rintro _ _ ⟨_, rfl, rfl, rfl⟩ o12 r11
  obtain ⟨σ13, e15⟩ : ∃ τ : Mem, τ = mset σ7 80 3 (σ7 75 (39 + 4 * x1 + (2 : Int))) := ⟨_, rfl⟩
  have h := h σ13 e15
  have o14 : OKm σ13 := by rw [e15]; exact OKm.seti o8 _ _ _ (r11 _ rfl) (isLg_row (show shp 80 = (1, 9, []) from rfl) _)
  refine G_iast (n := 9) rfl (by decide) (by decide) dX12_name_44 ?_
  rw [← e15]
  refine G_aload_n 0 rfl rfl dX12_name_45 ?_
  refine G_get (k := 20) (kd := (2, 80)) (v := aR 80) gf_X12_32 rfl rfl rfl rfl dX12_name_46 ?_
  refine G_iconst dX12_name_49 ?_
  refine G_aload_n 0 rfl rfl dX12_name_50 ?_
  refine G_get (k := 0) (kd := (2, 75)) (v := aR 75) gf_X12_7 rfl rfl rfl rfl dX12_name_51 ?_
  refine G_bipush (by decide) dX12_name_54 ?_
  refine G_iload_n 1 rfl rfl dX12_name_56 ?_
  refine G_iadd dX12_name_57 ?_
  obtain ⟨c16, h⟩ := h
  refine G_iald (n := 2119) rfl c16.1 c16.2 dX12_name_58 ?_
  obtain ⟨σ17, e19⟩ : ∃ τ : Mem, τ = mset σ13 80 4 (σ13 75 (11 + x1)) := ⟨_, rfl⟩
  have h := h σ17 e19
  have o18 : OKm σ17 := by rw [e19]; exact OKm.seti o14 _ _ _ (OKm.i o14 75 (11 + x1) (isLg_row (show shp 75 = (1, 2119, []) from rfl) _)) (isLg_row (show shp 80 = (1, 9, []) from rfl) _)
  refine G_iast (n := 9) rfl (by decide) (by decide) dX12_name_59 ?_
  rw [← e19]
  refine G_aload_n 0 rfl rfl dX12_name_60 ?_
  refine G_get (k := 20) (kd := (2, 80)) (v := aR 80) gf_X12_32 rfl rfl rfl rfl dX12_name_61 ?_
  refine G_bipush (by decide) dX12_name_64 ?_
  refine G_aload_n 0 rfl rfl dX12_name_66 ?_
  refine G_iload_n 1 rfl rfl dX12_name_67 ?_
  refine G_iconst dX12_name_68 ?_
  obtain ⟨c20, h⟩ := h
  refine G_callV (as := [_, _]) cf_X12_85 rfl rfl rfl (sp_X12_told (d - 1) (by omega) _ o18 _ hx1 _ (rL 3 rfl) c20) (by omega) rfl rfl (Nat.le_of_ble_eq_true rfl) dX12_name_69 ?_
  rintro _ _ ⟨_, rfl, rfl, rfl⟩ o22 r21
  obtain ⟨σ23, e25⟩ : ∃ τ : Mem, τ = mset σ17 80 8 (σ17 75 (39 + 4 * x1 + (3 : Int))) := ⟨_, rfl⟩
  have h := h σ23 e25
  have o24 : OKm σ23 := by rw [e25]; exact OKm.seti o18 _ _ _ (r21 _ rfl) (isLg_row (show shp 80 = (1, 9, []) from rfl) _)
  refine G_iast (n := 9) rfl (by decide) (by decide) dX12_name_72 ?_
  rw [← e25]
  exact G_vret rfl dX12_name_73 ⟨rfl, h⟩ o24

theorem sp_X12_name (d : Nat) (hd : 1 ≤ d) (σ : Mem) (hO : OKm σ) (x1 : Int) (hx1 : R32 x1) (hpre : 0 ≤ x1 ∧ x1 < 16) : Mt yX12_name cX12_name 2 none d [aR (74), aI (x1)] σ (QV (fun σ' => σ' = (nm6 σ x1))) := mt_X12_name hd hx1 hO (by
  unfold wp_X12_name
  repeat' (first | (intro _ e; subst e) | (refine And.intro ?_ ?_; first | omega | (simp (disch := omega) only [mset_off, mset_hit, mset_miss, mcpy_off, mcpy_hit, mcpy_miss, mrow_off, mrow_same]; omega)))
  unfold nm6
  simp (disch := omega) only [mset_off])

theorem envM_eq {σ σ1 A : Mem} {tx : Nat → Txt} {g r : Int} (h : vwM σ A tx) (hr : 0 ≤ r ∧ r < A 10 0) (hg : 0 ≤ g ∧ g < A 10 1) (hσ : σ1 = mset (mset (mset (nm6 σ r) 80 5 (A 15 g)) 80 6 g) 80 7 (A 3 g)) (k : Int) (hk : 0 ≤ k ∧ k ≤ 8) : σ1 80 k = nmA A k g r := by
  obtain ⟨⟨t0, t1, t2, t3⟩, ⟨n0, n1, n2, n3⟩, hI, -⟩ := h
  have h1 := t1 r hr.1 hr.2
  have h2 := n1 r hr.1 hr.2
  subst hσ
  unfold nm6 nmA
  rw [n0.1, n0.2.2.1, h1.2.2.1, h1.2.2.2, h2, if_pos hg]
  rcases (show k = 0 ∨ k = 1 ∨ k = 2 ∨ k = 3 ∨ k = 4 ∨ k = 5 ∨ k = 6 ∨ k = 7 ∨ k = 8 by omega) with rfl | rfl | rfl | rfl | rfl | rfl | rfl | rfl | rfl <;> simp (disch := omega) only [mset_hit, mset_miss] <;> simp
theorem envM_sw {σ A : Mem} {tx : Nat → Txt} {r : Int} (h : vwM σ A tx) (hr : 0 ≤ r ∧ r < A 10 0) (k : Int) (hk : 0 ≤ k ∧ k ≤ 8) (hk2 : k < 5 ∨ 7 < k) : nm6 σ r 80 k = nmA A k (-1) r := by
  obtain ⟨⟨t0, t1, t2, t3⟩, ⟨n0, n1, n2, n3⟩, hI, -⟩ := h
  have h1 := t1 r hr.1 hr.2
  have h2 := n1 r hr.1 hr.2
  unfold nm6 nmA
  rw [n0.1, n0.2.2.1, h1.2.2.1, h1.2.2.2, h2]
  rcases (show k = 0 ∨ k = 1 ∨ k = 2 ∨ k = 3 ∨ k = 4 ∨ k = 8 by omega) with rfl | rfl | rfl | rfl | rfl | rfl <;> simp (disch := omega) only [mset_hit, mset_miss] <;> simp

theorem thkM_eq {σ A : Mem} {tx : Nat → Txt} (h : vwM σ A tx) : thk0 (σ 75 0) (fun r => σ 75 (11 + r)) = thk0 (A 10 0) (A 1) := by
  rw [h.1.1.1]; exact thk0_congr h.2.1.2.1
theorem fr_nm6 {σ : Mem} {r : Int} : Fr [80, 81, 82] σ (nm6 σ r) := by
  unfold nm6; exact ((((((Fr.rf _ _).set (by simp)).set (by simp)).set (by simp)).set (by simp)).set (by simp)).set (by simp)

def wp_X12_sucksOf (x1 : Int) (x2 : Int) (x3 : Int) (σ : Mem) (Q : Int → Mem → Prop) : Prop :=
  (0 ≤ x3 ∧ x3 < 16) ∧
   ∀ σ4 : Mem, σ4 = (nm6 σ x3) →
   (0 ≤ x2 ∧ x2 < 6) ∧
   ∀ σ9 : Mem, σ9 = mset σ4 80 5 (σ4 75 (103 + 2 * x2 + 1)) →
   ∀ σ12 : Mem, σ12 = mset σ9 80 6 x2 →
   (0 ≤ x2 ∧ x2 < 6) ∧
   ∀ σ18 : Mem, σ18 = mset σ12 80 7 (σ12 75 (27 + 2 * x2 + 1)) →
   (0 ≤ x2 ∧ x2 < 6) ∧
   R32 (1 + (Int.tdiv (σ18 75 (103 + 2 * x2 + 1)) 3)) ∧
   ∃ g25 : Txt, ((-1 ≤ x1 ∧ x1 < 4) ∧ (0 ≤ x1 → textM σ18 x1 g25) ∧ (x1 < 0 → g25 = (none, none, [])) ∧ ((0 : Int) = 0 ∨ (0 : Int) = 1) ∧ okE (envM σ18) ∧ σ18 75 0 ≤ 16 ∧ 0 ≤ (99 : Int)) ∧
   ∀ (u30 : Int) (σ29 : Mem), R32 u30 → OKm σ29 → (u30 = (match sel g25 (0 : Int) with | none => (1 + (Int.tdiv (σ18 75 (103 + 2 * x2 + 1)) 3)) | some f => max 0 (min (99 : Int) (f (envM σ18)))) ∧ Fr [81, 82] σ18 σ29) →
   Q u30 σ29
theorem mt_X12_sucksOf {d : Nat} (hd : 4 ≤ d) {x1 : Int} {x2 : Int} {x3 : Int} {σ : Mem} {Q : Int → Mem → Prop} (hx1 : R32 x1) (hx2 : R32 x2) (hx3 : R32 x3) (hO : OKm σ) (h : wp_X12_sucksOf x1 x2 x3 σ Q) : Mt yX12_sucksOf cX12_sucksOf 4 (some .int) d [aR (74), aI (x1), aI (x2), aI (x3)] σ (QI Q) := by
  refine Mt.intro (by decide +kernel) (Nat.le_of_ble_eq_true rfl) [(0, aR (74)), (1, aI (x1)), (2, aI (x2)), (3, aI (x3))] rfl ?_
  unfold wp_X12_sucksOf at h
  refine G_aload_n 0 rfl rfl dX12_sucksOf_0 ?_
  refine G_iload_n 3 rfl rfl dX12_sucksOf_1 ?_
  obtain ⟨c1, h⟩ := h
  refine G_callV (as := [_]) cf_X12_305 rfl rfl rfl (sp_X12_name (d - 1) (by omega) _ hO _ hx3 c1) (by omega) rfl rfl (Nat.le_of_ble_eq_true rfl) dX12_sucksOf_2 ?_
  rintro _ σ4 ⟨rfl, e5⟩ o3 r2
  have h := h σ4 e5
  refine G_aload_n 0 rfl rfl dX12_sucksOf_5 ?_
  refine G_get (k := 20) (kd := (2, 80)) (v := aR 80) gf_X12_32 rfl rfl rfl rfl dX12_sucksOf_6 ?_
  refine G_iconst dX12_sucksOf_9 ?_
  refine G_aload_n 0 rfl rfl dX12_sucksOf_10 ?_
  refine G_iload_n 2 rfl rfl dX12_sucksOf_11 ?_
  obtain ⟨c6, h⟩ := h
  refine G_callV (as := [_]) cf_X12_308 rfl rfl rfl (sp_X12_mouth (d - 1) (by omega) _ o3 _ hx2 c6) (by omega) rfl rfl (Nat.le_of_ble_eq_true rfl) dX12_sucksOf_12 ?_
  rintro _ _ ⟨_, rfl, rfl, rfl⟩ o8 r7
  obtain ⟨σ9, e11⟩ : ∃ τ : Mem, τ = mset σ4 80 5 (σ4 75 (103 + 2 * x2 + 1)) := ⟨_, rfl⟩
  have h := h σ9 e11
  have o10 : OKm σ9 := by rw [e11]; exact OKm.seti o3 _ _ _ (r7 _ rfl) (isLg_row (show shp 80 = (1, 9, []) from rfl) _)
  refine G_iast (n := 9) rfl (by decide) (by decide) dX12_sucksOf_15 ?_
  rw [← e11]
  refine G_aload_n 0 rfl rfl dX12_sucksOf_16 ?_
  refine G_get (k := 20) (kd := (2, 80)) (v := aR 80) gf_X12_32 rfl rfl rfl rfl dX12_sucksOf_17 ?_
  refine G_bipush (by decide) dX12_sucksOf_20 ?_
  refine G_iload_n 2 rfl rfl dX12_sucksOf_22 ?_
  obtain ⟨σ12, e14⟩ : ∃ τ : Mem, τ = mset σ9 80 6 x2 := ⟨_, rfl⟩
  have h := h σ12 e14
  have o13 : OKm σ12 := by rw [e14]; exact OKm.seti o10 _ _ _ hx2 (isLg_row (show shp 80 = (1, 9, []) from rfl) _)
  refine G_iast (n := 9) rfl (by decide) (by decide) dX12_sucksOf_23 ?_
  rw [← e14]
  refine G_aload_n 0 rfl rfl dX12_sucksOf_24 ?_
  refine G_get (k := 20) (kd := (2, 80)) (v := aR 80) gf_X12_32 rfl rfl rfl rfl dX12_sucksOf_25 ?_
  refine G_bipush (by decide) dX12_sucksOf_28 ?_
  refine G_aload_n 0 rfl rfl dX12_sucksOf_30 ?_
  refine G_iload_n 2 rfl rfl dX12_sucksOf_31 ?_
  obtain ⟨c15, h⟩ := h
  refine G_callV (as := [_]) cf_X12_311 rfl rfl rfl (sp_X12_went (d - 1) (by omega) _ o13 _ hx2 c15) (by omega) rfl rfl (Nat.le_of_ble_eq_true rfl) dX12_sucksOf_32 ?_
  rintro _ _ ⟨_, rfl, rfl, rfl⟩ o17 r16
  obtain ⟨σ18, e20⟩ : ∃ τ : Mem, τ = mset σ12 80 7 (σ12 75 (27 + 2 * x2 + 1)) := ⟨_, rfl⟩
  have h := h σ18 e20
  have o19 : OKm σ18 := by rw [e20]; exact OKm.seti o13 _ _ _ (r16 _ rfl) (isLg_row (show shp 80 = (1, 9, []) from rfl) _)
  refine G_iast (n := 9) rfl (by decide) (by decide) dX12_sucksOf_35 ?_
  rw [← e20]
  refine G_aload_n 0 rfl rfl dX12_sucksOf_36 ?_
  refine G_iload_n 1 rfl rfl dX12_sucksOf_37 ?_
  refine G_iconst dX12_sucksOf_38 ?_
  refine G_iconst dX12_sucksOf_39 ?_
  refine G_aload_n 0 rfl rfl dX12_sucksOf_40 ?_
  refine G_iload_n 2 rfl rfl dX12_sucksOf_41 ?_
  obtain ⟨c21, h⟩ := h
  refine G_callV (as := [_]) cf_X12_308 rfl rfl rfl (sp_X12_mouth (d - 1) (by omega) _ o19 _ hx2 c21) (by omega) rfl rfl (Nat.le_of_ble_eq_true rfl) dX12_sucksOf_42 ?_
  rintro _ _ ⟨_, rfl, rfl, rfl⟩ o23 r22
  refine G_iconst dX12_sucksOf_45 ?_
  refine G_idiv (r22 _ rfl) (rL 3 rfl) (by decide) dX12_sucksOf_46 ?_
  refine G_iadd dX12_sucksOf_47 ?_
  refine G_bipush (by decide) dX12_sucksOf_48 ?_
  obtain ⟨c24, h⟩ := h
  obtain ⟨g25, c26, h⟩ := h
  refine G_callV (as := [_, _, _, _]) cf_X12_314 rfl rfl rfl (sp_X12_says (d - 1) (by omega) _ o19 _ hx1 _ (rL 0 rfl) _ c24 _ (rL 99 rfl) g25 c26) (by omega) rfl rfl (Nat.le_of_ble_eq_true rfl) dX12_sucksOf_50 ?_
  rintro _ σ29 ⟨u30, rfl, z31⟩ o28 r27
  have h := h _ _ (r27 _ rfl) o28 z31
  exact G_iret rfl (r27 _ rfl) dX12_sucksOf_53 ⟨_, rfl, h⟩ o28

theorem sp_X12_sucksOf (d : Nat) (hd : 4 ≤ d) (σ : Mem) (hO : OKm σ) (x1 : Int) (hx1 : R32 x1) (x2 : Int) (hx2 : R32 x2) (x3 : Int) (hx3 : R32 x3) (A : Mem) (tx : Nat → Txt) (hpre : vwM σ A tx ∧ (-1 ≤ x1 ∧ x1 < A 10 2) ∧ (0 ≤ x2 ∧ x2 < A 10 1) ∧ (0 ≤ x3 ∧ x3 < A 10 0)) : Mt yX12_sucksOf cX12_sucksOf 4 (some .int) d [aR (74), aI (x1), aI (x2), aI (x3)] σ (QI (fun v σ' => v = skS A tx x1 x2 x3 ∧ vwM σ' A tx ∧ Fr [80, 81, 82] σ σ')) := mt_X12_sucksOf hd hx1 hx2 hx3 hO (by
  unfold wp_X12_sucksOf
  obtain ⟨hV, hx1r, hg, hr⟩ := hpre
  have hI := hV.2.2.1
  have hcnt := hI.cnt
  unfold Cnt at hcnt
  have hnt := hI.1
  have hm := hV.1.2.2.1 x2 hg.1 hg.2
  have hw := hV.2.1.2.2.1 x2 hg.1 hg.2
  have hmr := (hI.2.2.1 x2 hg.1 hg.2).1
  refine ⟨by omega, ?_⟩
  intro σ4 e4
  have f4 : Fr [80, 81, 82] σ σ4 := by rw [e4]; exact fr_nm6
  refine ⟨by omega, ?_⟩
  intro σ9 e9
  intro σ12 e12
  refine ⟨by omega, ?_⟩
  intro σ18 e18
  have f9 : Fr [80, 81, 82] σ σ9 := by rw [e9]; exact f4.set (by simp)
  have f12 : Fr [80, 81, 82] σ σ12 := by rw [e12]; exact f9.set (by simp)
  have f18 : Fr [80, 81, 82] σ σ18 := by rw [e18]; exact f12.set (by simp)
  have g4 : σ4 75 = σ 75 := f4 75 (by simp)
  have g12 : σ12 75 = σ 75 := f12 75 (by simp)
  have g18 : σ18 75 = σ 75 := f18 75 (by simp)
  rw [g4, hm.2] at e9
  rw [g12, hw.2] at e18
  rw [g18, hm.2]
  have e1 : Int.tdiv (A 15 x2) 3 = A 15 x2 / 3 := tdivP (by omega)
  rw [e1]
  have hnm : ∀ k : Int, 0 ≤ k ∧ k ≤ 8 → σ18 80 k = nmA A k x2 x3 := fun k hk => envM_eq hV hr hg (by rw [e18, e12, e9, e4]) k hk
  have hokA := envA_ok (g := x2) hI hr hg.2
  have hth : (envM σ18).2 = (envA A x2 x3).2 := by show thk0 (σ18 75 0) (fun r => σ18 75 (11 + r)) = thk0 (A 10 0) (A 1); rw [g18]; exact thkM_eq hV
  have hok : okE (envM σ18) := ⟨fun k h1 h2 => by show Mil (σ18 80 k); rw [hnm k ⟨h1, h2⟩]; exact hokA.1 k h1 h2, fun q => by rw [hth]; exact hokA.2 q⟩
  have hnmOK : nmOK σ18 := hok.1
  have hV18 := hV.fr80 f18 hnmOK
  refine ⟨by omega, by unfold R32; omega, lawAt tx x1, ⟨by omega, fun h => ?_, fun h => ?_, Or.inl rfl, hok, by rw [hV.1.1.1]; omega, by omega⟩, ?_⟩
  · unfold lawAt; rw [if_pos h]
    have := hV18.2.2.2.1 x1.toNat (by omega)
    rw [show ((x1.toNat : Nat) : Int) = x1 by omega] at this
    exact this
  · unfold lawAt; rw [if_neg (by omega)]
  · intro u σ1 hu hO1 ⟨eu, hF⟩
    refine ⟨?_, hV18.fr (hF.wk (by simp)), f18.tr (hF.wk (by simp))⟩
    rw [eu]
    unfold skS sel
    rw [if_pos rfl]
    cases ho : (lawAt tx x1).1 with
    | none => rfl
    | some f =>
      have hloc : loc f := by
        unfold lawAt at ho
        by_cases h0 : 0 ≤ x1
        · rw [if_pos h0] at ho
          exact (hV.2.2.2.1 x1.toNat (by omega)).2.2.2.2.1.1 f ho
        · rw [if_neg h0] at ho; cases ho
      show max 0 (min 99 (f (envM σ18))) = max 0 (min 99 (f (envA A x2 x3)))
      rw [hloc _ _ hth (fun k h1 h2 => hnm k ⟨h1, h2⟩)])

def wp_X12_swellsOf (x1 : Int) (σ : Mem) (Q : Int → Mem → Prop) : Prop :=
  (0 ≤ x1 ∧ x1 < 16) ∧
   ∀ σ4 : Mem, σ4 = (nm6 σ x1) →
   ∃ g6 : Txt, ((-1 ≤ (σ4 75 3) ∧ (σ4 75 3) < 4) ∧ (0 ≤ (σ4 75 3) → textM σ4 (σ4 75 3) g6) ∧ ((σ4 75 3) < 0 → g6 = (none, none, [])) ∧ ((1 : Int) = 0 ∨ (1 : Int) = 1) ∧ okE (envM σ4) ∧ σ4 75 0 ≤ 16 ∧ 0 ≤ (9 : Int)) ∧
   ∀ (u11 : Int) (σ10 : Mem), R32 u11 → OKm σ10 → (u11 = (match sel g6 (1 : Int) with | none => (σ4 75 8) | some f => max 0 (min (9 : Int) (f (envM σ4)))) ∧ Fr [81, 82] σ4 σ10) →
   Q u11 σ10
theorem mt_X12_swellsOf {d : Nat} (hd : 4 ≤ d) {x1 : Int} {σ : Mem} {Q : Int → Mem → Prop} (hx1 : R32 x1) (hO : OKm σ) (h : wp_X12_swellsOf x1 σ Q) : Mt yX12_swellsOf cX12_swellsOf 2 (some .int) d [aR (74), aI (x1)] σ (QI Q) := by
  refine Mt.intro (by decide +kernel) (Nat.le_of_ble_eq_true rfl) [(0, aR (74)), (1, aI (x1))] rfl ?_
  unfold wp_X12_swellsOf at h
  refine G_aload_n 0 rfl rfl dX12_swellsOf_0 ?_
  refine G_iload_n 1 rfl rfl dX12_swellsOf_1 ?_
  obtain ⟨c1, h⟩ := h
  refine G_callV (as := [_]) cf_X12_305 rfl rfl rfl (sp_X12_name (d - 1) (by omega) _ hO _ hx1 c1) (by omega) rfl rfl (Nat.le_of_ble_eq_true rfl) dX12_swellsOf_2 ?_
  rintro _ σ4 ⟨rfl, e5⟩ o3 r2
  have h := h σ4 e5
  refine G_aload_n 0 rfl rfl dX12_swellsOf_5 ?_
  refine G_aload_n 0 rfl rfl dX12_swellsOf_6 ?_
  refine G_get (k := 0) (kd := (2, 75)) (v := aR 75) gf_X12_7 rfl rfl rfl rfl dX12_swellsOf_7 ?_
  refine G_iconst dX12_swellsOf_10 ?_
  refine G_iald (n := 2119) rfl (by decide) (by decide) dX12_swellsOf_11 ?_
  refine G_iconst dX12_swellsOf_12 ?_
  refine G_aload_n 0 rfl rfl dX12_swellsOf_13 ?_
  refine G_get (k := 0) (kd := (2, 75)) (v := aR 75) gf_X12_7 rfl rfl rfl rfl dX12_swellsOf_14 ?_
  refine G_bipush (by decide) dX12_swellsOf_17 ?_
  refine G_iald (n := 2119) rfl (by decide) (by decide) dX12_swellsOf_19 ?_
  refine G_bipush (by decide) dX12_swellsOf_20 ?_
  obtain ⟨g6, c7, h⟩ := h
  refine G_callV (as := [_, _, _, _]) cf_X12_314 rfl rfl rfl (sp_X12_says (d - 1) (by omega) _ o3 _ (OKm.i o3 75 3 (isLg_row (show shp 75 = (1, 2119, []) from rfl) _)) _ (rL 1 rfl) _ (OKm.i o3 75 8 (isLg_row (show shp 75 = (1, 2119, []) from rfl) _)) _ (rL 9 rfl) g6 c7) (by omega) rfl rfl (Nat.le_of_ble_eq_true rfl) dX12_swellsOf_22 ?_
  rintro _ σ10 ⟨u11, rfl, z12⟩ o9 r8
  have h := h _ _ (r8 _ rfl) o9 z12
  exact G_iret rfl (r8 _ rfl) dX12_swellsOf_25 ⟨_, rfl, h⟩ o9

theorem sp_X12_swellsOf (d : Nat) (hd : 4 ≤ d) (σ : Mem) (hO : OKm σ) (x1 : Int) (hx1 : R32 x1) (A : Mem) (tx : Nat → Txt) (hpre : vwM σ A tx ∧ (0 ≤ x1 ∧ x1 < A 10 0)) : Mt yX12_swellsOf cX12_swellsOf 2 (some .int) d [aR (74), aI (x1)] σ (QI (fun v σ' => v = swS A tx x1 ∧ vwM σ' A tx ∧ Fr [80, 81, 82] σ σ')) := mt_X12_swellsOf hd hx1 hO (by
  unfold wp_X12_swellsOf
  obtain ⟨hV, hr⟩ := hpre
  have hI := hV.2.2.1
  have hcnt := hI.cnt
  unfold Cnt at hcnt
  have hnt := hI.1
  refine ⟨by omega, ?_⟩
  intro σ4 e4
  have f4 : Fr [80, 81, 82] σ σ4 := by rw [e4]; exact fr_nm6
  have g4 : σ4 75 = σ 75 := f4 75 (by simp)
  rw [g4, hV.1.1.2.2.2.2, hV.2.1.1.2.2.1]
  have hnm : ∀ k : Int, 0 ≤ k ∧ k ≤ 8 → (k < 5 ∨ 7 < k) → σ4 80 k = nmA A k (-1) x1 := fun k hk hk2 => by rw [e4]; exact envM_sw hV hr k hk hk2
  have hokA := envA_ok (g := -1) hI hr (by omega)
  have hth : (envM σ4).2 = (envA A (-1) x1).2 := by show thk0 (σ4 75 0) (fun r => σ4 75 (11 + r)) = thk0 (A 10 0) (A 1); rw [g4]; exact thkM_eq hV
  have hnmOK : nmOK σ4 := fun k h1 h2 => by
    by_cases hk : k < 5 ∨ 7 < k
    · rw [hnm k ⟨h1, h2⟩ hk]; exact hokA.1 k h1 h2
    · have : σ4 80 k = σ 80 k := by rw [e4]; unfold nm6; simp (disch := omega) only [mset_miss]
      rw [this]; exact hV.2.2.2.2 k h1 h2
  have hok : okE (envM σ4) := ⟨hnmOK, fun q => by rw [hth]; exact hokA.2 q⟩
  have hV4 := hV.fr80 f4 hnmOK
  refine ⟨lawAt tx (A 10 4), ⟨by omega, fun h => ?_, fun h => ?_, Or.inr rfl, hok, by rw [hV.1.1.1]; omega, by omega⟩, ?_⟩
  · unfold lawAt; rw [if_pos h]
    have := hV4.2.2.2.1 (A 10 4).toNat (by omega)
    rw [show (((A 10 4).toNat : Nat) : Int) = A 10 4 by omega] at this
    exact this
  · unfold lawAt; rw [if_neg (by omega)]
  · intro u σ1 hu hO1 ⟨eu, hF⟩
    refine ⟨?_, hV4.fr (hF.wk (by simp)), f4.tr (hF.wk (by simp))⟩
    rw [eu]
    unfold swS sel
    rw [if_neg (by omega)]
    cases ho : (lawAt tx (A 10 4)).2.1 with
    | none => rfl
    | some f =>
      have hind : indep f := by
        unfold lawAt at ho
        by_cases h0 : 0 ≤ A 10 4
        · rw [if_pos h0] at ho
          exact (hV.2.2.2.1 (A 10 4).toNat (by omega)).2.2.2.2.1.2 f ho
        · rw [if_neg h0] at ho; cases ho
      show max 0 (min 9 (f (envM σ4))) = max 0 (min 9 (f (envA A (-1) x1)))
      rw [hind _ _ hth (fun k hk => hnm k (by omega) (by omega))])
