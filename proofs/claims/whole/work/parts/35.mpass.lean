def gstepW (w : Int) (A : Mem) (tx : Nat → Txt) (g : Int) : Mem := if opS A tx g = 0 then A else goneW w (mset A 0 3 (nxt (A 0 3))) tx g (kthR A tx g)
def goersW (w : Int) (A : Mem) (tx : Nat → Txt) : Nat → Mem × Int
  | 0 => (A, 0)
  | n + 1 => (gstepW w (goersW w A tx n).1 tx (n : Int), (goersW w A tx n).2 + gcnt (goersW w A tx n).1 tx (n : Int))
def passW (w : Int) (A : Mem) (tx : Nat → Txt) : Mem × Int :=
  (mset (swN (goersW w (rainS A) tx (A 10 1).toNat).1 tx (A 10 0).toNat) 0 2 (A 0 2 + 1), (goersW w (rainS A) tx (A 10 1).toNat).2)
theorem goersW_1 {w : Int} (h : w ≠ 0) (A : Mem) (tx : Nat → Txt) : ∀ n : Nat, goersW w A tx n = goersN A tx n
  | 0 => rfl
  | n + 1 => by
    unfold goersW goersN
    rw [goersW_1 h A tx n]
    unfold gstepW gstep
    rw [goneW_1 h]
theorem passW_1 {w : Int} (h : w ≠ 0) (A : Mem) (tx : Nat → Txt) : passW w A tx = passS A tx := by
  unfold passW passS; rw [goersW_1 h]
theorem InvA_gstepW {w : Int} {A : Mem} {tx : Nat → Txt} {g : Int} (h : InvA A) (hg : 0 ≤ g ∧ g < A 10 1) : InvA (gstepW w A tx g) := by
  unfold gstepW
  split
  · exact h
  · rename_i hne
    obtain ⟨-, k2, k3⟩ := kthR_ok h hne
    have hx : InvA (mset A 0 3 (nxt (A 0 3))) := h.core (by omega) ⟨fun h => by omega, fun h => by omega, fun h => by omega, fun _ => nxt_r _⟩
    refine hx.gnW ?_ ?_ (by rw [canGo_x]; exact k3)
    · rw [mset_ne (by omega)]; exact hg
    · rw [mset_ne (by omega)]; exact k2
theorem gstepW_told {w : Int} {A : Mem} {tx : Nat → Txt} {g : Int} {q : Nat} (h : 8 ≤ q) : gstepW w A tx g q = A q := by
  unfold gstepW
  split
  · rfl
  · rw [goneW_told h, mset_ne (by omega)]
theorem goersW_ok {w : Int} {A : Mem} {tx : Nat → Txt} (h : InvA A) : ∀ n : Nat, (n : Int) ≤ A 10 1 → InvA (goersW w A tx n).1 ∧ (∀ q, 8 ≤ q → (goersW w A tx n).1 q = A q) ∧ 0 ≤ (goersW w A tx n).2 ∧ (goersW w A tx n).2 ≤ n
  | 0, _ => ⟨h, fun _ _ => rfl, by simp [goersW], by simp [goersW]⟩
  | n + 1, hn => by
    obtain ⟨i1, i2, i3, i4⟩ := goersW_ok h n (by omega)
    refine ⟨InvA_gstepW i1 ⟨by omega, by rw [i2 10 (by omega)]; omega⟩, fun q hq => by show gstepW w _ tx _ q = A q; rw [gstepW_told hq]; exact i2 q hq, ?_, ?_⟩
    · show 0 ≤ (goersW w A tx n).2 + gcnt (goersW w A tx n).1 tx (n : Int)
      unfold gcnt; split <;> omega
    · show (goersW w A tx n).2 + gcnt (goersW w A tx n).1 tx (n : Int) ≤ _
      unfold gcnt; split <;> omega
theorem goneW_day {w : Int} {A : Mem} {tx : Nat → Txt} {g r : Int} : goneW w A tx g r 0 2 = A 0 2 := by
  unfold goneW bkW
  split
  · simp (disch := omega) only [mset_off]
  · simp (disch := omega) only [mset_off, bkS_0]
theorem gstepW_day {w : Int} {A : Mem} {tx : Nat → Txt} {g : Int} : gstepW w A tx g 0 2 = A 0 2 := by
  unfold gstepW
  split
  · rfl
  · rw [goneW_day]; simp (disch := omega) only [mset_miss]
theorem goersW_day {w : Int} {A : Mem} {tx : Nat → Txt} : ∀ n : Nat, (goersW w A tx n).1 0 2 = A 0 2
  | 0 => rfl
  | n + 1 => by show gstepW w _ tx _ 0 2 = _; rw [gstepW_day]; exact goersW_day n
theorem nowM.core {σ : Mem} {A : Mem} {i j v : Int} (h : nowM σ 75 A) (hij : (i = 6 ∧ j = 2) ∨ (i = 7 ∧ j = 3) ∨ (i = 8 ∧ j = 1) ∨ (i = 9 ∧ j = 0)) : nowM (mset σ 75 i v) 75 (mset A 0 j v) := by
  obtain ⟨m0, m1, m2, m3⟩ := h
  refine ⟨?_, fun r h1 h2 => ?_, fun g h1 h2 => ?_, fun q h1 h2 => ?_⟩
  · rcases hij with ⟨rfl, rfl⟩ | ⟨rfl, rfl⟩ | ⟨rfl, rfl⟩ | ⟨rfl, rfl⟩ <;> (simp (disch := omega) only [mset_hit, mset_miss]; simp [m0])
  · simp (disch := omega) only [mset_off, mset_miss] at h2 ⊢; exact m1 r h1 h2
  · simp (disch := omega) only [mset_off, mset_miss] at h2 ⊢; exact m2 g h1 h2
  · unfold bkM at *
    have : (4 : Int) ≠ j := by omega
    simp (disch := omega) only [mset_off, mset_miss] at h2 ⊢; exact m3 q h1 h2
theorem vwM.upd {σ σ' A A' : Mem} {tx : Nat → Txt} (h : vwM σ A tx) (hN : nowM σ' 75 A') (hI : InvA A') (hA : ∀ q, 8 ≤ q → A' q = A q) (h75 : ∀ i : Int, (0 ≤ i ∧ i ≤ 3 ∨ i = 5 ∨ 39 ≤ i ∧ i < 139) → σ' 75 i = σ 75 i) (hF : ∀ q, q ≠ 74 → q ≠ 75 → σ' q = σ q) : vwM σ' A' tx := by
  obtain ⟨h1, h2, h3, h4, h5⟩ := h
  have := h3.1
  refine ⟨toldM_same (toldM_low h1 (by omega) h75) hA, hN, hI, fun i hi => (h4 i (by rw [hA 10 (by omega)] at hi; exact hi)).congr (by omega) (fun j _ _ => by rw [hF 77 (by omega) (by omega)]), ?_⟩
  unfold nmOK; rw [hF 80 (by omega) (by omega)]; exact h5
theorem vwM.core {σ A : Mem} {tx : Nat → Txt} {i j v : Int} (h : vwM σ A tx) (hij : (i = 6 ∧ j = 2) ∨ (i = 7 ∧ j = 3) ∨ (i = 8 ∧ j = 1) ∨ (i = 9 ∧ j = 0)) (hI : InvA (mset A 0 j v)) : vwM (mset σ 75 i v) (mset A 0 j v) tx :=
  h.upd (h.2.1.core hij) hI (fun q hq => mset_ne (by omega)) (fun k hk => mset_miss (by omega)) (fun q _ hq => mset_ne hq)
theorem nowM.thick {σ : Mem} {A : Mem} {r v : Int} (h : nowM σ 75 A) (h16 : A 10 0 ≤ 16) (h6 : A 10 1 ≤ 6) (hr : 0 ≤ r ∧ r < 16) : nowM (mset σ 75 (11 + r) v) 75 (mset A 1 r v) := by
  obtain ⟨m0, m1, m2, m3⟩ := h
  refine ⟨?_, fun q h1 h2 => ?_, fun g h1 h2 => ?_, fun q h1 h2 => ?_⟩
  · simp (disch := omega) only [mset_off, mset_miss]; exact m0
  · simp (disch := omega) only [mset_off] at h2
    by_cases e : q = r
    · subst e; simp (disch := omega) only [mset_hit]
    · simp (disch := omega) only [mset_miss]; exact m1 q h1 h2
  · simp (disch := omega) only [mset_off, mset_miss] at h2 ⊢; exact m2 g h1 h2
  · unfold bkM at *
    simp (disch := omega) only [mset_off, mset_miss] at h2 ⊢; exact m3 q h1 h2
theorem vwM.thick {σ A : Mem} {tx : Nat → Txt} {r v : Int} (h : vwM σ A tx) (hr : 0 ≤ r ∧ r < 16) (hI : InvA (mset A 1 r v)) : vwM (mset σ 75 (11 + r) v) (mset A 1 r v) tx := by
  have := h.2.2.1.1
  exact h.upd (h.2.1.thick (by omega) (by omega) hr) hI (fun q hq => mset_ne (by omega)) (fun k hk => mset_miss (by omega)) (fun q _ hq => mset_ne hq)
theorem keepM.set75 {σ τ : Mem} {i v : Int} (h : keepM σ τ) (hi : i ≠ 4 ∧ (i < 139 ∨ 2089 ≤ i)) : keepM σ (mset τ 75 i v) :=
  ⟨fun j hj => by rw [mset_off (by omega)]; exact h.1 j hj, fun j hj => by rw [mset_miss (by omega)]; exact h.2.1 j hj, h.2.2.set (by simp)⟩

def wp_X12_pass  (σ : Mem) (Q : Mem → Prop) : Prop :=
 ∀ P24 : Int → Mem → Prop,
 ∀ P73 : Int → Mem → Prop,
 (∀ (v1 : Int) (σ : Mem), (R32 v1 → OKm σ →
   (((σ 75 1) ≤ v1) →
     P73 0 σ) ∧
    ((v1 < (σ 75 1)) →
     ∃ g16 : Mem, ∃ g17 : Nat → Txt, (vwM σ g16 g17 ∧ (0 ≤ v1 ∧ v1 < g16 10 1)) ∧
     ∀ (u22 : Int) (σ21 : Mem), R32 u22 → OKm σ21 → (u22 = opS g16 g17 v1 ∧ vwM σ21 g16 g17 ∧ Fr F80 σ σ21) →
     ((u22 = 0) →
      R32 (v1 + 1) ∧ P24 (v1 + 1) σ21) ∧
     ((u22 ≠ 0) →
      (0 ≤ u22 ∧ u22 < 65536) ∧
      (0 ≤ σ21 75 7 ∧ σ21 75 7 ≤ 30726 ∧ 0 < (((pcN 16 (u22).toNat : Nat) : Int))) ∧
      ∀ (u33 : Int) (σ32 : Mem), u33 = (σ21 75 7 % (((pcN 16 (u22).toNat : Nat) : Int))) → σ32 = (mset σ21 75 7 (nxt (σ21 75 7))) →
      ((0 ≤ u22 ∧ u22 < 65536) ∧ (0 ≤ u33 ∧ u33 < ((pcN 16 (u22).toNat : Nat) : Int))) ∧
      ∃ g39 : Mem, ∃ g40 : Nat → Txt, (vwM σ32 g39 g40 ∧ (0 ≤ v1 ∧ v1 < g39 10 1) ∧ (0 ≤ (((kthN (u22).toNat (u33).toNat : Nat) : Int)) ∧ (((kthN (u22).toNat (u33).toNat : Nat) : Int)) < g39 10 0) ∧ canGo g39 g40 v1 (((kthN (u22).toNat (u33).toNat : Nat) : Int)) = true ∧ (0 ≤ σ32 74 24 ∧ σ32 74 24 < 1000000000)) ∧
      ∀ (u45 : Int) (σ44 : Mem), R32 u45 → OKm σ44 → (u45 = acrS g39 (((kthN (u22).toNat (u33).toNat : Nat) : Int)) (g39 2 v1) ∧ vwM σ44 (goneW (σ32 74 23) g39 g40 v1 (((kthN (u22).toNat (u33).toNat : Nat) : Int))) g40 ∧ σ44 74 24 = σ32 74 24 + 1 ∧ keepM σ32 σ44) →
      ((0 ≤ u45) →
       R32 (v1 + 1) ∧ P24 (v1 + 1) σ44) ∧
      ((u45 < 0) →
       Q σ44)))) → P24 v1 σ) →
 (∀ (v1 : Int) (σ : Mem), (R32 v1 → OKm σ →
   (((σ 75 0) ≤ v1) →
     R32 ((σ 75 6) + 1) ∧
     ∀ σ51 : Mem, σ51 = mset σ 75 6 ((σ 75 6) + 1) →
     Q σ51) ∧
    ((v1 < (σ 75 0)) →
     (0 ≤ (11 + v1) ∧ (11 + v1) < 2119) ∧
     ∃ g55 : Mem, ∃ g56 : Nat → Txt, (vwM σ g55 g56 ∧ (0 ≤ v1 ∧ v1 < g55 10 0)) ∧
     ∀ (u61 : Int) (σ60 : Mem), R32 u61 → OKm σ60 → (u61 = swS g55 g56 v1 ∧ vwM σ60 g55 g56 ∧ Fr [80, 81, 82] σ σ60) →
     R32 ((σ 75 (11 + v1)) + u61) ∧
     (0 ≤ v1 ∧ v1 < 16 ∧ 0 ≤ (3 : Int) ∧ (3 : Int) < 4) ∧
     (0 ≤ (11 + v1) ∧ (11 + v1) < 2119) ∧
     ∀ σ70 : Mem, σ70 = mset σ60 75 (11 + v1) (if ((σ 75 (11 + v1)) + u61) < (0 : Int) then (0 : Int) else if ((σ 75 (11 + v1)) + u61) > (σ60 75 (39 + 4 * v1 + (3 : Int))) then (σ60 75 (39 + 4 * v1 + (3 : Int))) else ((σ 75 (11 + v1)) + u61)) →
     R32 (v1 + 1) ∧ P73 (v1 + 1) σ70)) → P73 v1 σ) →
  (0 ≤ σ 75 7 ∧ σ 75 7 ≤ 30726 ∧ 0 < (10 : Int)) ∧
   ∀ (u5 : Int) (σ4 : Mem), u5 = (σ 75 7 % (10 : Int)) → σ4 = (mset σ 75 7 (nxt (σ 75 7))) →
   ((3 ≤ u5) →
    ∀ σ9 : Mem, σ9 = mset σ4 75 8 0 →
    P24 0 σ9) ∧
   ((u5 < 3) →
    ∀ σ12 : Mem, σ12 = mset σ4 75 8 1 →
    P24 0 σ12)
theorem mt_X12_pass {d : Nat} (hd : 8 ≤ d)  {σ : Mem} {Q : Mem → Prop}  (hO : OKm σ) (h : wp_X12_pass  σ Q) : Mt yX12_pass cX12_pass 3 none d [aR (74)] σ (QV Q) := by
  refine Mt.intro (by decide +kernel) (Nat.le_of_ble_eq_true rfl) [(0, aR (74))] rfl ?_
  unfold wp_X12_pass at h
  have h := h (fun (v1 : Int) (σ : Mem) => R32 v1 → OKm σ → G yX12_pass cX12_pass 3 none d (QV Q) 24 [(0, aR (74)), (1, aI (v1))] [] σ)
    (fun (v1 : Int) (σ : Mem) => R32 v1 → OKm σ → G yX12_pass cX12_pass 3 none d (QV Q) 73 [(0, aR (74)), (1, aI (v1))] [] σ) ?_ ?_
  · refine G_aload_n 0 rfl rfl dX12_pass_0 ?_
    refine G_get (k := 0) (kd := (2, 75)) (v := aR 75) gf_X12_7 rfl rfl rfl rfl dX12_pass_1 ?_
    refine G_bipush (by decide) dX12_pass_4 ?_
    refine G_aload_n 0 rfl rfl dX12_pass_6 ?_
    refine G_bipush (by decide) dX12_pass_7 ?_
    obtain ⟨c1, h⟩ := h
    refine G_callV (as := [_]) cf_X12_355 rfl rfl rfl (sp_X12_drawnBy (d - 1) (by omega) _ hO _ (rL 10 rfl) c1) (by omega) rfl rfl (Nat.le_of_ble_eq_true rfl) dX12_pass_9 ?_
    rintro _ σ4 ⟨u5, rfl, e7, e6⟩ o3 r2
    have h := h u5 σ4 e7 e6
    refine G_iconst dX12_pass_12 ?_
    refine G_icmp_ge (r2 _ rfl) (rL 3 rfl) dX12_pass_13 (tgt := 20) (by decide) (fun c8 => ?_) (fun c8 => ?_)
    · have h := h.1 c8
      refine G_iconst dX12_pass_20 ?_
      obtain ⟨σ9, e11⟩ : ∃ τ : Mem, τ = mset σ4 75 8 0 := ⟨_, rfl⟩
      have h := h σ9 e11
      have o10 : OKm σ9 := by rw [e11]; exact OKm.seti o3 _ _ _ (rL 0 rfl) (isLg_row (show shp 75 = (1, 2119, []) from rfl) _)
      refine G_iast (n := 2119) rfl (by decide) (by decide) dX12_pass_21 ?_
      rw [← e11]
      refine G_iconst dX12_pass_22 ?_
      refine G_istore_n (lv' := [(1, aI (0)), (0, aR (74))]) rfl rfl (by decide) dX12_pass_23 ?_
      exact G_pick [1, 0] rfl (h (rL 0 rfl) o10)
    · have h := h.2 c8
      refine G_iconst dX12_pass_16 ?_
      refine G_goto (tgt := 21) dX12_pass_17 (by decide) ?_
      obtain ⟨σ12, e14⟩ : ∃ τ : Mem, τ = mset σ4 75 8 1 := ⟨_, rfl⟩
      have h := h σ12 e14
      have o13 : OKm σ12 := by rw [e14]; exact OKm.seti o3 _ _ _ (rL 1 rfl) (isLg_row (show shp 75 = (1, 2119, []) from rfl) _)
      refine G_iast (n := 2119) rfl (by decide) (by decide) dX12_pass_21 ?_
      rw [← e14]
      refine G_iconst dX12_pass_22 ?_
      refine G_istore_n (lv' := [(1, aI (0)), (0, aR (74))]) rfl rfl (by decide) dX12_pass_23 ?_
      exact G_pick [1, 0] rfl (h (rL 0 rfl) o13)
  · intro v1 σ h hv1 hO
    have h := h hv1 hO
    refine G_iload_n 1 rfl rfl dX12_pass_24 ?_
    refine G_aload_n 0 rfl rfl dX12_pass_25 ?_
    refine G_get (k := 0) (kd := (2, 75)) (v := aR 75) gf_X12_7 rfl rfl rfl rfl dX12_pass_26 ?_
    refine G_iconst dX12_pass_29 ?_
    refine G_iald (n := 2119) rfl (by decide) (by decide) dX12_pass_30 ?_
    refine G_icmp_ge hv1 (OKm.i hO 75 1 (isLg_row (show shp 75 = (1, 2119, []) from rfl) _)) dX12_pass_31 (tgt := 71) (by decide) (fun c15 => ?_) (fun c15 => ?_)
    · have h := h.1 c15
      refine G_iconst dX12_pass_71 ?_
      refine G_istore_n (lv' := [(1, aI (0)), (0, aR (74))]) rfl rfl (by decide) dX12_pass_72 ?_
      exact G_pick [1, 0] rfl (h (rL 0 rfl) hO)
    · have h := h.2 c15
      refine G_aload_n 0 rfl rfl dX12_pass_34 ?_
      refine G_iload_n 1 rfl rfl dX12_pass_35 ?_
      obtain ⟨g16, g17, c18, h⟩ := h
      refine G_callV (as := [_]) cf_X12_358 rfl rfl rfl (sp_X12_roadsFor (d - 1) (by omega) _ hO _ hv1 g16 g17 c18) (by omega) rfl rfl (Nat.le_of_ble_eq_true rfl) dX12_pass_36 ?_
      rintro _ σ21 ⟨u22, rfl, z23⟩ o20 r19
      have h := h _ _ (r19 _ rfl) o20 z23
      refine G_istore_n (lv' := [(2, aI (u22)), (0, aR (74)), (1, aI (v1))]) rfl rfl (by decide) dX12_pass_39 ?_
      refine G_iload_n 0 rfl rfl dX12_pass_40 ?_
      refine G_if_eq (r19 _ rfl) dX12_pass_41 (tgt := 65) (by decide) (fun c24 => ?_) (fun c24 => ?_)
      · have h := h.1 c24
        refine G_iinc (lv' := [(1, aI ((v1 + 1))), (2, aI (u22)), (0, aR (74))]) (k := 2) rfl rfl (by decide) dX12_pass_65 ?_
        refine G_goto (tgt := 24) dX12_pass_68 (by decide) ?_
        obtain ⟨c25, h⟩ := h
        exact G_pick [2, 0] rfl (h c25 o20)
      · have h := h.2 c24
        refine G_aload_n 1 rfl rfl dX12_pass_44 ?_
        refine G_iload_n 2 rfl rfl dX12_pass_45 ?_
        refine G_iload_n 0 rfl rfl dX12_pass_46 ?_
        refine G_aload_n 1 rfl rfl dX12_pass_47 ?_
        refine G_iload_n 0 rfl rfl dX12_pass_48 ?_
        obtain ⟨c26, h⟩ := h
        refine G_callS (as := [_]) cf_X12_361 rfl (sp_X12_bits (d - 1) (by omega) _ o20 _ (r19 _ rfl) c26) (by omega) rfl rfl (Nat.le_of_ble_eq_true rfl) dX12_pass_49 ?_
        rintro _ _ ⟨_, rfl, rfl, rfl⟩ o28 r27
        obtain ⟨c29, h⟩ := h
        refine G_callV (as := [_]) cf_X12_355 rfl rfl rfl (sp_X12_drawnBy (d - 1) (by omega) _ o20 _ (r27 _ rfl) c29) (by omega) rfl rfl (Nat.le_of_ble_eq_true rfl) dX12_pass_52 ?_
        rintro _ σ32 ⟨u33, rfl, e35, e34⟩ o31 r30
        have h := h u33 σ32 e35 e34
        obtain ⟨c36, h⟩ := h
        refine G_callS (as := [_, _]) cf_X12_364 rfl (sp_X12_kth (d - 1) (by omega) _ o31 _ (r19 _ rfl) _ (r30 _ rfl) c36) (by omega) rfl rfl (Nat.le_of_ble_eq_true rfl) dX12_pass_55 ?_
        rintro _ _ ⟨_, rfl, rfl, rfl⟩ o38 r37
        obtain ⟨g39, g40, c41, h⟩ := h
        refine G_callV (as := [_, _]) cf_X12_367 rfl rfl rfl (sp_X12_goNow (d - 1) (by omega) _ o31 _ hv1 _ (r37 _ rfl) g39 g40 c41) (by omega) rfl rfl (Nat.le_of_ble_eq_true rfl) dX12_pass_58 ?_
        rintro _ σ44 ⟨u45, rfl, z46⟩ o43 r42
        have h := h _ _ (r42 _ rfl) o43 z46
        refine G_if_ge (r42 _ rfl) dX12_pass_61 (tgt := 65) (by decide) (fun c47 => ?_) (fun c47 => ?_)
        · have h := h.1 c47
          refine G_iinc (lv' := [(1, aI ((v1 + 1))), (2, aI (u22)), (0, aR (74))]) (k := 2) rfl rfl (by decide) dX12_pass_65 ?_
          refine G_goto (tgt := 24) dX12_pass_68 (by decide) ?_
          obtain ⟨c48, h⟩ := h
          exact G_pick [2, 0] rfl (h c48 o43)
        · have h := h.2 c47
          exact G_vret rfl dX12_pass_64 ⟨rfl, h⟩ o43
  · intro v1 σ h hv1 hO
    have h := h hv1 hO
    refine G_iload_n 1 rfl rfl dX12_pass_73 ?_
    refine G_aload_n 0 rfl rfl dX12_pass_74 ?_
    refine G_get (k := 0) (kd := (2, 75)) (v := aR 75) gf_X12_7 rfl rfl rfl rfl dX12_pass_75 ?_
    refine G_iconst dX12_pass_78 ?_
    refine G_iald (n := 2119) rfl (by decide) (by decide) dX12_pass_79 ?_
    refine G_icmp_ge hv1 (OKm.i hO 75 0 (isLg_row (show shp 75 = (1, 2119, []) from rfl) _)) dX12_pass_80 (tgt := 124) (by decide) (fun c49 => ?_) (fun c49 => ?_)
    · have h := h.1 c49
      refine G_aload_n 0 rfl rfl dX12_pass_124 ?_
      refine G_get (k := 0) (kd := (2, 75)) (v := aR 75) gf_X12_7 rfl rfl rfl rfl dX12_pass_125 ?_
      refine G_bipush (by decide) dX12_pass_128 ?_
      refine G_dup2 rfl rfl dX12_pass_130 ?_
      refine G_iald (n := 2119) rfl (by decide) (by decide) dX12_pass_131 ?_
      refine G_iconst dX12_pass_132 ?_
      refine G_iadd dX12_pass_133 ?_
      obtain ⟨c50, h⟩ := h
      obtain ⟨σ51, e53⟩ : ∃ τ : Mem, τ = mset σ 75 6 ((σ 75 6) + 1) := ⟨_, rfl⟩
      have h := h σ51 e53
      have o52 : OKm σ51 := by rw [e53]; exact OKm.seti hO _ _ _ c50 (isLg_row (show shp 75 = (1, 2119, []) from rfl) _)
      refine G_iast (n := 2119) rfl (by decide) (by decide) dX12_pass_134 ?_
      rw [← e53]
      exact G_vret rfl dX12_pass_135 ⟨rfl, h⟩ o52
    · have h := h.2 c49
      refine G_aload_n 0 rfl rfl dX12_pass_83 ?_
      refine G_get (k := 0) (kd := (2, 75)) (v := aR 75) gf_X12_7 rfl rfl rfl rfl dX12_pass_84 ?_
      refine G_bipush (by decide) dX12_pass_87 ?_
      refine G_iload_n 1 rfl rfl dX12_pass_89 ?_
      refine G_iadd dX12_pass_90 ?_
      refine G_aload_n 0 rfl rfl dX12_pass_91 ?_
      refine G_get (k := 0) (kd := (2, 75)) (v := aR 75) gf_X12_7 rfl rfl rfl rfl dX12_pass_92 ?_
      refine G_bipush (by decide) dX12_pass_95 ?_
      refine G_iload_n 1 rfl rfl dX12_pass_97 ?_
      refine G_iadd dX12_pass_98 ?_
      obtain ⟨c54, h⟩ := h
      refine G_iald (n := 2119) rfl c54.1 c54.2 dX12_pass_99 ?_
      refine G_aload_n 0 rfl rfl dX12_pass_100 ?_
      refine G_iload_n 1 rfl rfl dX12_pass_101 ?_
      obtain ⟨g55, g56, c57, h⟩ := h
      refine G_callV (as := [_]) cf_X12_370 rfl rfl rfl (sp_X12_swellsOf (d - 1) (by omega) _ hO _ hv1 g55 g56 c57) (by omega) rfl rfl (Nat.le_of_ble_eq_true rfl) dX12_pass_102 ?_
      rintro _ σ60 ⟨u61, rfl, z62⟩ o59 r58
      have h := h _ _ (r58 _ rfl) o59 z62
      refine G_iadd dX12_pass_105 ?_
      obtain ⟨c63, h⟩ := h
      refine G_i2l c63 dX12_pass_106 ?_
      refine G_iconst dX12_pass_107 ?_
      refine G_aload_n 0 rfl rfl dX12_pass_108 ?_
      refine G_iload_n 1 rfl rfl dX12_pass_109 ?_
      refine G_iconst dX12_pass_110 ?_
      obtain ⟨c64, h⟩ := h
      refine G_callV (as := [_, _]) cf_X12_85 rfl rfl rfl (sp_X12_told (d - 1) (by omega) _ o59 _ hv1 _ (rL 3 rfl) c64) (by omega) rfl rfl (Nat.le_of_ble_eq_true rfl) dX12_pass_111 ?_
      rintro _ _ ⟨_, rfl, rfl, rfl⟩ o66 r65
      refine G_callS (as := [_, _, _]) cf_X12_301 rfl (sp_X12_held (d - 1) (by omega) _ o59 _ (r32_64 c63) _ (rL 0 rfl) _ (r65 _ rfl)) (by omega) rfl rfl (Nat.le_of_ble_eq_true rfl) dX12_pass_114 ?_
      rintro _ _ ⟨_, rfl, rfl, rfl⟩ o68 r67
      obtain ⟨c69, h⟩ := h
      obtain ⟨σ70, e72⟩ : ∃ τ : Mem, τ = mset σ60 75 (11 + v1) (if ((σ 75 (11 + v1)) + u61) < (0 : Int) then (0 : Int) else if ((σ 75 (11 + v1)) + u61) > (σ60 75 (39 + 4 * v1 + (3 : Int))) then (σ60 75 (39 + 4 * v1 + (3 : Int))) else ((σ 75 (11 + v1)) + u61)) := ⟨_, rfl⟩
      have h := h σ70 e72
      have o71 : OKm σ70 := by rw [e72]; exact OKm.seti o59 _ _ _ (r67 _ rfl) (isLg_row (show shp 75 = (1, 2119, []) from rfl) _)
      refine G_iast (n := 2119) rfl c69.1 c69.2 dX12_pass_117 ?_
      rw [← e72]
      refine G_iinc (lv' := [(1, aI ((v1 + 1))), (0, aR (74))]) (k := 1) rfl rfl (by decide) dX12_pass_118 ?_
      refine G_goto (tgt := 73) dX12_pass_121 (by decide) ?_
      obtain ⟨c73, h⟩ := h
      exact G_pick [1, 0] rfl (h c73 o71)

theorem sp_X12_pass (d : Nat) (hd : 8 ≤ d) (σ : Mem) (hO : OKm σ) (A : Mem) (tx : Nat → Txt) (hpre : vwM σ A tx ∧ A 0 2 < 9999 ∧ (0 ≤ σ 74 24 ∧ σ 74 24 < 900000000)) : Mt yX12_pass cX12_pass 3 none d [aR (74)] σ (QV (fun σ' => vwM σ' (passW (σ 74 23) A tx).1 tx ∧ σ' 74 24 = σ 74 24 + (passW (σ 74 23) A tx).2 ∧ keepM σ σ')) := mt_X12_pass hd  hO (by
  unfold wp_X12_pass
  intro P24 P73 h24 h73
  obtain ⟨hV, hday, hgo⟩ := hpre
  generalize hw : σ 74 23 = w at *
  have hI := hV.2.2.1
  have hc := hI.1
  have e757 : σ 75 7 = A 0 3 := hV.2.1.1.2.1
  have k3 := hI.2.2.2.1
  have hR := rainS_ok hI
  have hR10 : ∀ q, 8 ≤ q → rainS A q = A q := fun q hq => by unfold rainS; rw [mset_ne (by omega), mset_ne (by omega)]
  have hG := goersW_ok (w := w) (tx := tx) hR (A 10 1).toNat (by rw [hR10 10 (by omega)]; omega)
  generalize hB : (goersW w (rainS A) tx (A 10 1).toNat).1 = B at *
  generalize hBc : (goersW w (rainS A) tx (A 10 1).toNat).2 = Bc at *
  have hB10 : ∀ q, 8 ≤ q → B q = A q := fun q hq => by rw [hG.2.1 q hq, hR10 q hq]
  have hB02 : B 0 2 = A 0 2 := by rw [← hB, goersW_day]; unfold rainS; simp (disch := omega) only [mset_miss]
  have H73 : ∀ (n k : Nat) (τ : Mem), k + n = (A 10 0).toNat → vwM τ (swN B tx k) tx → τ 74 24 = σ 74 24 + Bc → keepM σ τ → P73 (k : Int) τ := by
    intro n
    induction n with
    | zero =>
      intro k τ hk hVt hcc hF
      have hsw := swN_ok (tx := tx) hG.1 k (by rw [hB10 10 (by omega)]; omega)
      have e8 : τ 75 0 = A 10 0 := by rw [hVt.1.1.1, hsw.2 10 (by omega), hB10 10 (by omega)]
      have e7 : τ 75 6 = A 0 2 := by rw [hVt.2.1.1.1, hsw.2 0 (by omega), hB02]
      refine h73 _ _ (fun _ _ => ⟨fun _ => ?_, fun h => absurd h (by rw [e8]; omega)⟩)
      rw [e7]
      refine ⟨by unfold R32; omega, ?_⟩
      intro _ e; subst e
      have hkk : k = (A 10 0).toNat := by omega
      subst hkk
      refine ⟨?_, ?_, hF.set75 (by omega)⟩
      · have := hVt.core (i := 6) (j := 2) (v := A 0 2 + 1) (Or.inl ⟨rfl, rfl⟩) (hsw.1.core (by omega) ⟨fun h => by omega, fun h => by omega, fun _ => by omega, fun h => by omega⟩)
        unfold passW
        rw [hB]
        exact this
      · unfold passW
        rw [mset_off (by omega), hBc]; exact hcc
    | succ n ih =>
      intro k τ hk hVt hcc hF
      have hsw := swN_ok (tx := tx) hG.1 k (by rw [hB10 10 (by omega)]; omega)
      have e10 : swN B tx k 10 = A 10 := by rw [hsw.2 10 (by omega), hB10 10 (by omega)]
      have e8 : τ 75 0 = A 10 0 := by rw [hVt.1.1.1, e10]
      have hkr : (0 : Int) ≤ (k : Int) ∧ (k : Int) < swN B tx k 10 0 := by rw [e10]; omega
      have k1 := hsw.1.2.1 (k : Int) hkr.1 hkr.2
      have e11 : τ 75 (11 + (k : Int)) = swN B tx k 1 (k : Int) := hVt.2.1.2.1 (k : Int) hkr.1 hkr.2
      have hs9 := swS_r (tx := tx) (r := (k : Int)) hsw.1
      refine h73 _ _ (fun _ _ => ⟨fun h => absurd h (by rw [e8]; omega), fun _ => ⟨by omega, swN B tx k, tx, ⟨hVt, hkr⟩, ?_⟩⟩)
      intro u σ1 hu hO1 ⟨eu, hV1, hF1⟩
      have e5 : σ1 75 (39 + 4 * (k : Int) + (3 : Int)) = swN B tx k 14 (k : Int) := (hV1.1.2.1 (k : Int) hkr.1 hkr.2).2.2.2
      rw [e5, e11, eu]
      refine ⟨by unfold R32; omega, by omega, by omega, ?_⟩
      intro σ2 e2
      refine ⟨by unfold R32; omega, ?_⟩
      have em : (if swN B tx k 1 (k : Int) + swS (swN B tx k) tx (k : Int) < (0 : Int) then (0 : Int) else if swN B tx k 1 (k : Int) + swS (swN B tx k) tx (k : Int) > swN B tx k 14 (k : Int) then swN B tx k 14 (k : Int) else swN B tx k 1 (k : Int) + swS (swN B tx k) tx (k : Int)) = min (swN B tx k 14 (k : Int)) (swN B tx k 1 (k : Int) + swS (swN B tx k) tx (k : Int)) := by
        (repeat' split) <;> omega
      rw [em] at e2
      have := ih (k + 1) σ2 (by omega) (by
        rw [e2]
        show vwM _ (mset (swN B tx k) 1 (k : Int) _) tx
        exact hV1.thick (by omega) (hsw.1.thick (fun _ _ => by omega))) (by rw [e2, mset_off (by omega), hF1 74 (by simp)]; exact hcc) (by
        rw [e2]; exact (hF.tr (keepM.of80 hF1)).set75 (by omega))
      rw [show ((k : Int) + 1) = ((k + 1 : Nat) : Int) by omega]
      exact this
  have H24 : ∀ (n k : Nat) (τ : Mem), k + n = (A 10 1).toNat → vwM τ (goersW w (rainS A) tx k).1 tx → τ 74 24 = σ 74 24 + (goersW w (rainS A) tx k).2 → keepM σ τ → P24 (k : Int) τ := by
    intro n
    induction n with
    | zero =>
      intro k τ hk hVt hcc hF
      have hkk : k = (A 10 1).toNat := by omega
      subst hkk
      have e9 : τ 75 1 = A 10 1 := by rw [hVt.1.1.2.1, hB, hB10 10 (by omega)]
      refine h24 _ _ (fun _ _ => ⟨fun _ => ?_, fun h => absurd h (by rw [e9]; omega)⟩)
      exact H73 (A 10 0).toNat 0 τ (by omega) (by rw [hB] at hVt; exact hVt) (by rw [hBc] at hcc; exact hcc) hF
    | succ n ih =>
      intro k τ hk hVt hcc hF
      obtain ⟨g1, g2, g3, g4⟩ := goersW_ok (w := w) (tx := tx) hR k (by rw [hR10 10 (by omega)]; omega)
      have ihk : ∀ (C : Mem) (c : Int) (τ' : Mem), (goersW w (rainS A) tx (k + 1)) = (C, c) → vwM τ' C tx → τ' 74 24 = σ 74 24 + c → keepM σ τ' → P24 ((k : Int) + 1) τ' := fun C c τ' hC hv hn hf => by
        have := ih (k + 1) τ' (by omega) (by rw [hC]; exact hv) (by rw [hC]; exact hn) hf
        rw [show ((k : Int) + 1) = ((k + 1 : Nat) : Int) by omega]
        exact this
      have hsucc : goersW w (rainS A) tx (k + 1) = (gstepW w (goersW w (rainS A) tx k).1 tx (k : Int), (goersW w (rainS A) tx k).2 + gcnt (goersW w (rainS A) tx k).1 tx (k : Int)) := rfl
      generalize hC : (goersW w (rainS A) tx k).1 = C at *
      generalize hCc : (goersW w (rainS A) tx k).2 = cc at *
      have c10 : C 10 = A 10 := by rw [g2 10 (by omega), hR10 10 (by omega)]
      have e9 : τ 75 1 = A 10 1 := by rw [hVt.1.1.2.1, c10]
      have hgk : (0 : Int) ≤ (k : Int) ∧ (k : Int) < C 10 1 := by rw [c10]; omega
      refine h24 _ _ (fun _ _ => ⟨fun h => absurd h (by rw [e9]; omega), fun _ => ⟨C, tx, ⟨hVt, hgk⟩, ?_⟩⟩)
      intro u σ21 hu hO21 ⟨eu, hV21, hF21⟩
      have hn21 : σ21 74 24 = σ 74 24 + cc := by rw [hF21 74 (by simp)]; exact hcc
      refine ⟨fun h0 => ?_, fun h0 => ?_⟩
      · rw [eu] at h0
        exact ⟨by unfold R32; omega, ihk _ _ σ21 (by rw [hsucc]; unfold gstepW gcnt; rw [if_pos h0, if_pos h0, Int.add_zero]) hV21 hn21 (hF.tr (keepM.of80 hF21))⟩
      rw [eu] at h0 ⊢
      have hop := opS_lt (tx := tx) (g := (k : Int)) g1
      obtain ⟨r1, r2, r3⟩ := kthR_ok g1 h0
      have e7 : σ21 75 7 = C 0 3 := hV21.2.1.1.2.1
      have kc := g1.2.2.2.1
      rw [e7]
      refine ⟨hop, ⟨by omega, by omega, by omega⟩, ?_⟩
      intro u33 σ32 e33 e32
      rw [e33]
      refine ⟨⟨hop, r1⟩, ?_⟩
      have hx : InvA (mset C 0 3 (nxt (C 0 3))) := g1.core (by omega) ⟨fun h => by omega, fun h => by omega, fun h => by omega, fun _ => nxt_r _⟩
      have hV32 : vwM σ32 (mset C 0 3 (nxt (C 0 3))) tx := by rw [e32]; exact hV21.core (Or.inr (Or.inl ⟨rfl, rfl⟩)) hx
      have hcg : canGo (mset C 0 3 (nxt (C 0 3))) tx (k : Int) (kthR C tx (k : Int)) = true := by rw [canGo_x]; exact r3
      have hn32 : σ32 74 24 = σ 74 24 + cc := by rw [e32, mset_off (by omega)]; exact hn21
      have hk32 : keepM σ σ32 := by rw [e32]; exact (hF.tr (keepM.of80 hF21)).set75 (by omega)
      have hw32 : σ32 74 23 = w := by rw [hk32.1 23 (by omega)]; exact hw
      refine ⟨mset C 0 3 (nxt (C 0 3)), tx, ⟨hV32, ?_, ?_, hcg, by omega⟩, ?_⟩
      · rw [mset_ne (by omega)]; exact hgk
      · rw [mset_ne (by omega)]; exact r2
      intro u45 σ44 hu45 hO44 ⟨eu45, hV44, hn44, hk44⟩
      have hac := acrS_r (t := (mset C 0 3 (nxt (C 0 3))) 2 (k : Int)) hx (r := kthR C tx (k : Int)) (by rw [mset_ne (by omega)]; exact r2)
      have eu45 : u45 = acrS (mset C 0 3 (nxt (C 0 3))) (kthR C tx (k : Int)) ((mset C 0 3 (nxt (C 0 3))) 2 (k : Int)) := eu45
      refine ⟨fun _ => ⟨by unfold R32; omega, ?_⟩, fun h => absurd h (by omega)⟩
      rw [hw32] at hV44
      exact ihk (goneW w (mset C 0 3 (nxt (C 0 3))) tx (k : Int) (kthR C tx (k : Int))) (cc + 1) σ44 (by rw [hsucc]; unfold gstepW gcnt; rw [if_neg h0, if_neg h0]) hV44 (by omega) (hk32.tr hk44)
  have hgo2 : ∀ (τ : Mem) (v : Int), v = (if A 0 3 % 10 < 3 then 1 else 0) → τ = mset (mset σ 75 7 (nxt (A 0 3))) 75 8 v → P24 0 τ := by
    intro τ v hv hτ
    have h1 := hV.core (i := 7) (j := 3) (v := nxt (A 0 3)) (Or.inr (Or.inl ⟨rfl, rfl⟩)) (hI.core (by omega) ⟨fun h => by omega, fun h => by omega, fun h => by omega, fun _ => nxt_r _⟩)
    have h2 := h1.core (i := 8) (j := 1) (v := v) (Or.inr (Or.inr (Or.inl ⟨rfl, rfl⟩))) (by have := hR; unfold rainS at this; rw [← hv] at this; exact this)
    have := H24 (A 10 1).toNat 0 τ (by omega) (by rw [hτ]; show vwM _ (rainS A) tx; unfold rainS; rw [← hv]; exact h2) (by rw [hτ, mset_off (by omega), mset_off (by omega)]; show _ = _ + (0 : Int); omega) (by rw [hτ]; exact ((keepM.rf σ).set75 (by omega)).set75 (by omega))
    exact this
  rw [e757]
  refine ⟨by omega, ?_⟩
  intro u σ4 hu h4
  refine ⟨fun h => ?_, fun h => ?_⟩
  · intro σ9 e9
    exact hgo2 σ9 0 (by rw [if_neg (by omega)]) (by rw [e9, h4])
  · intro σ9 e9
    exact hgo2 σ9 1 (by rw [if_pos (by omega)]) (by rw [e9, h4]))
