theorem stepsM.keep {σ τ : Mem} {L : List Mem} (h : stepsM σ 75 L) (he : ∀ j : Int, j = 4 ∨ (139 ≤ j ∧ j < 2089) → τ 75 j = σ 75 j) : stepsM τ 75 L := by
  obtain ⟨h1, h2, h3⟩ := h
  refine ⟨h1, by rw [he 4 (by omega)]; exact h2, fun k B hk => ?_⟩
  obtain ⟨q1, q2⟩ := h3 k B hk
  have hk3 : k < L.length := (List.getElem?_eq_some_iff.mp hk).1
  exact ⟨q1, rowM_congr q2 q1 (fun i hi hi2 => he _ (by omega))⟩
def vsM (σ : Mem) (A : Mem) (L : List Mem) (tx : Nat → Txt) : Prop := vwM σ A tx ∧ stepsM σ 75 L ∧ σ 74 23 = 1 ∧ 0 ≤ σ 74 24
def stM (σ τ : Mem) (n : Int) : Prop := (∀ j : Int, j ≠ 24 → τ 74 j = σ 74 j) ∧ Fr FGM σ τ ∧ τ 74 24 ≤ σ 74 24 + n
theorem stM.rf (σ : Mem) : stM σ σ 0 := ⟨fun _ _ => rfl, Fr.rf _ _, by omega⟩
theorem stM.tr {σ τ ρ : Mem} {n m : Int} (h : stM σ τ n) (h2 : stM τ ρ m) : stM σ ρ (n + m) := ⟨fun j hj => (h2.1 j hj).trans (h.1 j hj), h.2.1.tr h2.2.1, by have := h.2.2; have := h2.2.2; omega⟩
theorem stM.wk {σ τ : Mem} {n m : Int} (h : stM σ τ n) (hm : n ≤ m) : stM σ τ m := ⟨h.1, h.2.1, by have := h.2.2; omega⟩
theorem stM.of80 {σ τ : Mem} (h : Fr [80, 81, 82] σ τ) : stM σ τ 0 := ⟨fun j _ => by rw [h 74 (by simp)], h.wk (by simp), by rw [h 74 (by simp)]; omega⟩
theorem stM.of75 {σ τ : Mem} (h : Fr [75] σ τ) : stM σ τ 0 := ⟨fun j _ => by rw [h 74 (by simp)], h.wk (by simp), by rw [h 74 (by simp)]; omega⟩
theorem stM.keep {σ τ : Mem} {n : Int} (h : keepM σ τ) (hn : τ 74 24 ≤ σ 74 24 + n) : stM σ τ n := ⟨h.1, h.2.2, hn⟩
theorem vsM.of80 {σ τ A : Mem} {L : List Mem} {tx : Nat → Txt} (h : vsM σ A L tx) (hv : vwM τ A tx) (hf : Fr [80, 81, 82] σ τ) : vsM τ A L tx :=
  ⟨hv, h.2.1.keep (fun j _ => by rw [hf 75 (by simp)]), by rw [hf 74 (by simp)]; exact h.2.2⟩
/-- behind keep -/
theorem vsM.kept {σ τ A : Mem} {L : List Mem} {tx : Nat → Txt} (h : vsM σ A L tx) (h2 : stepsM τ 75 (pushS A L) ∧ (∀ i : Int, 0 ≤ i → i < 139 → i ≠ 4 → τ 75 i = σ 75 i) ∧ (∀ i : Int, 2089 ≤ i → τ 75 i = σ 75 i) ∧ Fr [75] σ τ) : vsM τ A (pushS A L) tx ∧ stM σ τ 0 := by
  obtain ⟨s1, s2, s3, s4⟩ := h2
  have hc := h.1.2.2.1.1
  have hb := h.1.2.2.1.2.2.2.1
  have n1 := h.1.2.1
  refine ⟨⟨h.1.upd ⟨?_, fun r h1 h2 => ?_, fun g h1 h2 => ?_, fun i h1 h2 => ?_⟩ h.1.2.2.1 (fun _ _ => rfl) (fun i hi => s2 i (by omega) (by omega) (by omega)) (fun q h1 h2 => s4 q (by simp; omega)), s1, by rw [s4 74 (by simp)]; exact h.2.2⟩, stM.of75 s4⟩
  · rw [s2 6 (by omega) (by omega) (by omega), s2 7 (by omega) (by omega) (by omega), s2 8 (by omega) (by omega) (by omega), s2 9 (by omega) (by omega) (by omega), s2 10 (by omega) (by omega) (by omega)]; exact n1.1
  · rw [s2 _ (by omega) (by omega) (by omega)]; exact n1.2.1 r h1 h2
  · rw [s2 _ (by omega) (by omega) (by omega), s2 _ (by omega) (by omega) (by omega)]; exact n1.2.2.1 g h1 h2
  · rw [s3 _ (by omega)]; exact n1.2.2.2 i h1 h2
theorem vsM.pre {σ A : Mem} {L : List Mem} {tx : Nat → Txt} (h : vsM σ A L tx) : nowM σ 75 A ∧ σ 75 0 = A 10 0 ∧ σ 75 1 = A 10 1 ∧ Cnt A ∧ stepsM σ 75 L := ⟨h.1.2.1, h.1.1.1.1, h.1.1.1.2.1, h.1.2.2.1.cnt, h.2.1⟩

def wp_X12_go (x1 : Int) (x2 : Int) (σ : Mem) (Q : Int → Mem → Prop) : Prop :=
  ∃ g1 : Mem, ∃ g2 : Nat → Txt, (vwM σ g1 g2) ∧
   ∀ (u7 : Int) (σ6 : Mem), R32 u7 → OKm σ6 → (u7 = (if canGoV g1 g2 x1 x2 = true then 1 else 0) ∧ vwM σ6 g1 g2 ∧ Fr F80 σ σ6) →
   ((u7 ≠ 0) →
    ∃ g10 : Mem, ∃ g11 : List Mem, (nowM σ6 75 g10 ∧ σ6 75 0 = g10 10 0 ∧ σ6 75 1 = g10 10 1 ∧ Cnt g10 ∧ stepsM σ6 75 g11) ∧
    ∀ σ15 : Mem, OKm σ15 → (stepsM σ15 75 (pushS g10 g11) ∧ (∀ i : Int, 0 ≤ i → i < 139 → i ≠ 4 → σ15 75 i = σ6 75 i) ∧ (∀ i : Int, 2089 ≤ i → σ15 75 i = σ6 75 i) ∧ Fr [75] σ6 σ15) →
    ∃ g18 : Mem, ∃ g19 : Nat → Txt, (vwM σ15 g18 g19 ∧ (0 ≤ x1 ∧ x1 < g18 10 1) ∧ (0 ≤ x2 ∧ x2 < g18 10 0) ∧ canGo g18 g19 x1 x2 = true ∧ (0 ≤ σ15 74 24 ∧ σ15 74 24 < 1000000000)) ∧
    ∀ (u24 : Int) (σ23 : Mem), R32 u24 → OKm σ23 → (u24 = acrS g18 x2 (g18 2 x1) ∧ vwM σ23 (goneW (σ15 74 23) g18 g19 x1 x2) g19 ∧ σ23 74 24 = σ15 74 24 + 1 ∧ keepM σ15 σ23) →
    Q u24 σ23) ∧
   ((u7 = 0) →
    Q (-1) σ6)
theorem mt_X12_go {d : Nat} (hd : 7 ≤ d) {x1 : Int} {x2 : Int} {σ : Mem} {Q : Int → Mem → Prop} (hx1 : R32 x1) (hx2 : R32 x2) (hO : OKm σ) (h : wp_X12_go x1 x2 σ Q) : Mt yX12_go cX12_go 3 (some .int) d [aR (74), aI (x1), aI (x2)] σ (QI Q) := by
  refine Mt.intro (by decide +kernel) (Nat.le_of_ble_eq_true rfl) [(0, aR (74)), (1, aI (x1)), (2, aI (x2))] rfl ?_
  unfold wp_X12_go at h
  refine G_aload_n 0 rfl rfl dX12_go_0 ?_
  refine G_iload_n 1 rfl rfl dX12_go_1 ?_
  refine G_iload_n 2 rfl rfl dX12_go_2 ?_
  obtain ⟨g1, g2, c3, h⟩ := h
  refine G_callV (as := [_, _]) cf_X12_352 rfl rfl rfl (sp_X12_canGo (d - 1) (by omega) _ hO _ hx1 _ hx2 g1 g2 c3) (by omega) rfl rfl (Nat.le_of_ble_eq_true rfl) dX12_go_3 ?_
  rintro _ σ6 ⟨u7, rfl, z8⟩ o5 r4
  have h := h _ _ (r4 _ rfl) o5 z8
  refine G_if_ne (r4 _ rfl) dX12_go_6 (tgt := 11) (by decide) (fun c9 => ?_) (fun c9 => ?_)
  · have h := h.1 c9
    refine G_aload_n 0 rfl rfl dX12_go_11 ?_
    obtain ⟨g10, g11, c12, h⟩ := h
    refine G_callV (as := []) cf_X12_373 rfl rfl rfl (sp_X12_keep (d - 1) (by omega) _ o5  g10 g11 c12) (by omega) rfl rfl (Nat.le_of_ble_eq_true rfl) dX12_go_12 ?_
    rintro _ σ15 ⟨rfl, z17⟩ o14 r13
    have h := h _ o14 z17
    refine G_aload_n 0 rfl rfl dX12_go_15 ?_
    refine G_iload_n 1 rfl rfl dX12_go_16 ?_
    refine G_iload_n 2 rfl rfl dX12_go_17 ?_
    obtain ⟨g18, g19, c20, h⟩ := h
    refine G_callV (as := [_, _]) cf_X12_367 rfl rfl rfl (sp_X12_goNow (d - 1) (by omega) _ o14 _ hx1 _ hx2 g18 g19 c20) (by omega) rfl rfl (Nat.le_of_ble_eq_true rfl) dX12_go_18 ?_
    rintro _ σ23 ⟨u24, rfl, z25⟩ o22 r21
    have h := h _ _ (r21 _ rfl) o22 z25
    exact G_iret rfl (r21 _ rfl) dX12_go_21 ⟨_, rfl, h⟩ o22
  · have h := h.2 c9
    refine G_iconst dX12_go_9 ?_
    exact G_iret rfl (rL (-1) rfl) dX12_go_10 ⟨_, rfl, h⟩ o5

theorem sp_X12_go (d : Nat) (hd : 7 ≤ d) (σ : Mem) (hO : OKm σ) (x1 : Int) (hx1 : R32 x1) (x2 : Int) (hx2 : R32 x2) (A : Mem) (L : List Mem) (tx : Nat → Txt) (hpre : vsM σ A L tx ∧ σ 74 24 < 800000000) : Mt yX12_go cX12_go 3 (some .int) d [aR (74), aI (x1), aI (x2)] σ (QI (fun v σ' => (canGoV A tx x1 x2 = true → v = acrS A x2 (A 2 x1) ∧ vsM σ' (goneS A tx x1 x2) (pushS A L) tx) ∧ (canGoV A tx x1 x2 = false → v = -1 ∧ vsM σ' A L tx) ∧ stM σ σ' 1)) := mt_X12_go hd hx1 hx2 hO (by
  unfold wp_X12_go
  obtain ⟨hS, hgo⟩ := hpre
  have hV := hS.1
  have hI := hV.2.2.1
  refine ⟨A, tx, hV, ?_⟩
  intro u7 σ6 hu7 hO6 ⟨eu7, hV6, hF6⟩
  have hS6 := hS.of80 hV6 hF6
  cases hc : canGoV A tx x1 x2 with
  | false =>
    rw [hc] at eu7
    have eu7 : u7 = 0 := by simpa using eu7
    exact ⟨fun h => absurd eu7 h, fun _ => ⟨fun h => absurd h (by simp), fun _ => ⟨rfl, hS6⟩, (stM.of80 hF6).wk (by omega)⟩⟩
  | true =>
    rw [hc, if_pos rfl] at eu7
    obtain ⟨hg, hr, hc2⟩ := canGoV_spec hc
    refine ⟨fun _ => ⟨A, L, hS6.pre, ?_⟩, fun h => absurd h (by omega)⟩
    intro σ15 hO15 hk
    obtain ⟨hS15, hs15⟩ := hS6.kept hk
    have hs := (stM.of80 hF6).tr hs15
    refine ⟨A, tx, ⟨hS15.1, hg, hr, hc2, hS15.2.2.2, by have := hs.2.2; omega⟩, ?_⟩
    intro u24 σ23 hu24 hO23 ⟨eu24, hV23, hn23, hk23⟩
    have hw : σ15 74 23 ≠ 0 := by rw [hS15.2.2.1]; omega
    rw [goneW_1 hw] at hV23
    refine ⟨fun _ => ⟨eu24, hV23, hS15.2.1.keep hk23.2.1, by rw [hk23.1 23 (by omega)]; exact hS15.2.2.1, by have := hS15.2.2.2; omega⟩, fun h => by simp at h, (hs.tr (stM.keep (n := 1) hk23 (by omega))).wk (by omega)⟩)

def wp_X12_canRelay (x1 : Int) (σ : Mem) (Q : Int → Mem → Prop) : Prop :=
  (0 ≤ σ 75 0) ∧
   ((¬ (0 ≤ x1 ∧ x1 < σ 75 0)) →
    Q 0 σ) ∧
   ((0 ≤ x1 ∧ x1 < σ 75 0) →
    (0 ≤ (11 + x1) ∧ (11 + x1) < 2119) ∧
    (0 ≤ x1 ∧ x1 < 16 ∧ 0 ≤ (3 : Int) ∧ (3 : Int) < 4) ∧
    (((σ 75 (39 + 4 * x1 + (3 : Int))) ≤ (σ 75 (11 + x1))) →
     Q 0 σ) ∧
    (((σ 75 (11 + x1)) < (σ 75 (39 + 4 * x1 + (3 : Int)))) →
     (0 ≤ x1 ∧ x1 < 16 ∧ 0 ≤ (2 : Int) ∧ (2 : Int) < 4) ∧
     (((σ 75 9) < (σ 75 (39 + 4 * x1 + (2 : Int)))) →
      Q 0 σ) ∧
     (((σ 75 (39 + 4 * x1 + (2 : Int))) ≤ (σ 75 9)) →
      Q 1 σ)))
theorem mt_X12_canRelay {d : Nat} (hd : 2 ≤ d) {x1 : Int} {σ : Mem} {Q : Int → Mem → Prop} (hx1 : R32 x1) (hO : OKm σ) (h : wp_X12_canRelay x1 σ Q) : Mt yX12_canRelay cX12_canRelay 2 (some .boolean) d [aR (74), aI (x1)] σ (QI Q) := by
  refine Mt.intro (by decide +kernel) (Nat.le_of_ble_eq_true rfl) [(0, aR (74)), (1, aI (x1))] rfl ?_
  unfold wp_X12_canRelay at h
  refine G_aload_n 0 rfl rfl dX12_canRelay_0 ?_
  refine G_iload_n 1 rfl rfl dX12_canRelay_1 ?_
  obtain ⟨c1, h⟩ := h
  refine G_callV (as := [_]) cf_X12_333 rfl rfl rfl (sp_X12_isRoad (d - 1) (by omega) _ hO _ hx1 c1) (by omega) rfl rfl (Nat.le_of_ble_eq_true rfl) dX12_canRelay_2 ?_
  rintro _ _ ⟨_, rfl, rfl, rfl⟩ o3 r2
  refine G_if_eq (bI_R _) dX12_canRelay_5 (tgt := 46) (by decide) (fun c4 => ?_) (fun c4 => ?_)
  · have h := h.1 ((bI_0 _).mp c4)
    refine G_iconst dX12_canRelay_46 ?_
    exact G_zret rfl (by decide) dX12_canRelay_47 ⟨_, rfl, h⟩ hO
  · have h := h.2 (bI_ne c4)
    refine G_aload_n 0 rfl rfl dX12_canRelay_8 ?_
    refine G_get (k := 0) (kd := (2, 75)) (v := aR 75) gf_X12_7 rfl rfl rfl rfl dX12_canRelay_9 ?_
    refine G_bipush (by decide) dX12_canRelay_12 ?_
    refine G_iload_n 1 rfl rfl dX12_canRelay_14 ?_
    refine G_iadd dX12_canRelay_15 ?_
    obtain ⟨c5, h⟩ := h
    refine G_iald (n := 2119) rfl c5.1 c5.2 dX12_canRelay_16 ?_
    refine G_aload_n 0 rfl rfl dX12_canRelay_17 ?_
    refine G_iload_n 1 rfl rfl dX12_canRelay_18 ?_
    refine G_iconst dX12_canRelay_19 ?_
    obtain ⟨c6, h⟩ := h
    refine G_callV (as := [_, _]) cf_X12_85 rfl rfl rfl (sp_X12_told (d - 1) (by omega) _ hO _ hx1 _ (rL 3 rfl) c6) (by omega) rfl rfl (Nat.le_of_ble_eq_true rfl) dX12_canRelay_20 ?_
    rintro _ _ ⟨_, rfl, rfl, rfl⟩ o8 r7
    refine G_icmp_ge (OKm.i hO 75 (11 + x1) (isLg_row (show shp 75 = (1, 2119, []) from rfl) _)) (r7 _ rfl) dX12_canRelay_23 (tgt := 46) (by decide) (fun c9 => ?_) (fun c9 => ?_)
    · have h := h.1 c9
      refine G_iconst dX12_canRelay_46 ?_
      exact G_zret rfl (by decide) dX12_canRelay_47 ⟨_, rfl, h⟩ hO
    · have h := h.2 c9
      refine G_aload_n 0 rfl rfl dX12_canRelay_26 ?_
      refine G_get (k := 0) (kd := (2, 75)) (v := aR 75) gf_X12_7 rfl rfl rfl rfl dX12_canRelay_27 ?_
      refine G_bipush (by decide) dX12_canRelay_30 ?_
      refine G_iald (n := 2119) rfl (by decide) (by decide) dX12_canRelay_32 ?_
      refine G_aload_n 0 rfl rfl dX12_canRelay_33 ?_
      refine G_iload_n 1 rfl rfl dX12_canRelay_34 ?_
      refine G_iconst dX12_canRelay_35 ?_
      obtain ⟨c10, h⟩ := h
      refine G_callV (as := [_, _]) cf_X12_85 rfl rfl rfl (sp_X12_told (d - 1) (by omega) _ hO _ hx1 _ (rL 2 rfl) c10) (by omega) rfl rfl (Nat.le_of_ble_eq_true rfl) dX12_canRelay_36 ?_
      rintro _ _ ⟨_, rfl, rfl, rfl⟩ o12 r11
      refine G_icmp_lt (OKm.i hO 75 9 (isLg_row (show shp 75 = (1, 2119, []) from rfl) _)) (r11 _ rfl) dX12_canRelay_39 (tgt := 46) (by decide) (fun c13 => ?_) (fun c13 => ?_)
      · have h := h.1 c13
        refine G_iconst dX12_canRelay_46 ?_
        exact G_zret rfl (by decide) dX12_canRelay_47 ⟨_, rfl, h⟩ hO
      · have h := h.2 c13
        refine G_iconst dX12_canRelay_42 ?_
        refine G_goto (tgt := 47) dX12_canRelay_43 (by decide) ?_
        exact G_zret rfl (by decide) dX12_canRelay_47 ⟨_, rfl, h⟩ hO

theorem sp_X12_canRelay (d : Nat) (hd : 2 ≤ d) (σ : Mem) (hO : OKm σ) (x1 : Int) (hx1 : R32 x1) (A : Mem) (tx : Nat → Txt) (hpre : vwM σ A tx) : Mt yX12_canRelay cX12_canRelay 2 (some .boolean) d [aR (74), aI (x1)] σ (QI (fun v σ' => v = (if canLayS A x1 = true then 1 else 0) ∧ σ' = σ)) := mt_X12_canRelay hd hx1 hO (by
  unfold wp_X12_canRelay
  have hV := hpre
  have hI := hV.2.2.1
  have hc := hI.1
  have e0 := hV.1.1.1
  have e9 : σ 75 9 = A 0 0 := hV.2.1.1.2.2.2.1
  rw [e0, e9]
  have key : ∀ p : Prop, (canLayS A x1 = true ↔ p) → ((p → (1 : Int) = (if canLayS A x1 = true then 1 else 0) ∧ σ = σ) ∧ (¬ p → (0 : Int) = (if canLayS A x1 = true then 1 else 0) ∧ σ = σ)) := fun p hp => ⟨fun h => ⟨by rw [if_pos (hp.mpr h)], rfl⟩, fun h => ⟨by rw [if_neg (fun q => h (hp.mp q))], rfl⟩⟩
  have hcan : canLayS A x1 = true ↔ ((0 ≤ x1 ∧ x1 < A 10 0) ∧ A 1 x1 < A 14 x1 ∧ A 13 x1 ≤ A 0 0) := by unfold canLayS; exact decide_eq_true_iff
  have hk := key _ hcan
  refine ⟨by omega, fun h => hk.2 (fun q => h q.1), fun hr => ?_⟩
  have t1 := hV.1.2.1 x1 hr.1 hr.2
  have n1 := hV.2.1.2.1 x1 hr.1 hr.2
  rw [n1, t1.2.2.2, t1.2.2.1]
  exact ⟨by omega, by omega, fun h => hk.2 (fun q => by omega), fun h1 => ⟨by omega, fun h => hk.2 (fun q => by omega), fun h2 => hk.1 ⟨hr, h1, h2⟩⟩⟩)

def wp_X12_relayNow (x1 : Int) (σ : Mem) (Q : Mem → Prop) : Prop :=
  (0 ≤ x1 ∧ x1 < 16 ∧ 0 ≤ (3 : Int) ∧ (3 : Int) < 4) ∧
   (0 ≤ (11 + x1) ∧ (11 + x1) < 2119) ∧
   ∀ σ5 : Mem, σ5 = mset σ 75 (11 + x1) (σ 75 (39 + 4 * x1 + (3 : Int))) →
   (0 ≤ x1 ∧ x1 < 16 ∧ 0 ≤ (2 : Int) ∧ (2 : Int) < 4) ∧
   R32 ((σ5 75 9) - (σ5 75 (39 + 4 * x1 + (2 : Int)))) ∧
   ∀ σ12 : Mem, σ12 = mset σ5 75 9 ((σ5 75 9) - (σ5 75 (39 + 4 * x1 + (2 : Int)))) →
   Q σ12
theorem mt_X12_relayNow {d : Nat} (hd : 1 ≤ d) {x1 : Int} {σ : Mem} {Q : Mem → Prop} (hx1 : R32 x1) (hO : OKm σ) (h : wp_X12_relayNow x1 σ Q) : Mt yX12_relayNow cX12_relayNow 2 none d [aR (74), aI (x1)] σ (QV Q) := by
  refine Mt.intro (by decide +kernel) (Nat.le_of_ble_eq_true rfl) [(0, aR (74)), (1, aI (x1))] rfl ?_
  unfold wp_X12_relayNow at h
  refine G_aload_n 0 rfl rfl dX12_relayNow_0 ?_
  refine G_get (k := 0) (kd := (2, 75)) (v := aR 75) gf_X12_7 rfl rfl rfl rfl dX12_relayNow_1 ?_
  refine G_bipush (by decide) dX12_relayNow_4 ?_
  refine G_iload_n 1 rfl rfl dX12_relayNow_6 ?_
  refine G_iadd dX12_relayNow_7 ?_
  refine G_aload_n 0 rfl rfl dX12_relayNow_8 ?_
  refine G_iload_n 1 rfl rfl dX12_relayNow_9 ?_
  refine G_iconst dX12_relayNow_10 ?_
  obtain ⟨c1, h⟩ := h
  refine G_callV (as := [_, _]) cf_X12_85 rfl rfl rfl (sp_X12_told (d - 1) (by omega) _ hO _ hx1 _ (rL 3 rfl) c1) (by omega) rfl rfl (Nat.le_of_ble_eq_true rfl) dX12_relayNow_11 ?_
  rintro _ _ ⟨_, rfl, rfl, rfl⟩ o3 r2
  obtain ⟨c4, h⟩ := h
  obtain ⟨σ5, e7⟩ : ∃ τ : Mem, τ = mset σ 75 (11 + x1) (σ 75 (39 + 4 * x1 + (3 : Int))) := ⟨_, rfl⟩
  have h := h σ5 e7
  have o6 : OKm σ5 := by rw [e7]; exact OKm.seti hO _ _ _ (r2 _ rfl) (isLg_row (show shp 75 = (1, 2119, []) from rfl) _)
  refine G_iast (n := 2119) rfl c4.1 c4.2 dX12_relayNow_14 ?_
  rw [← e7]
  refine G_aload_n 0 rfl rfl dX12_relayNow_15 ?_
  refine G_get (k := 0) (kd := (2, 75)) (v := aR 75) gf_X12_7 rfl rfl rfl rfl dX12_relayNow_16 ?_
  refine G_bipush (by decide) dX12_relayNow_19 ?_
  refine G_dup2 rfl rfl dX12_relayNow_21 ?_
  refine G_iald (n := 2119) rfl (by decide) (by decide) dX12_relayNow_22 ?_
  refine G_aload_n 0 rfl rfl dX12_relayNow_23 ?_
  refine G_iload_n 1 rfl rfl dX12_relayNow_24 ?_
  refine G_iconst dX12_relayNow_25 ?_
  obtain ⟨c8, h⟩ := h
  refine G_callV (as := [_, _]) cf_X12_85 rfl rfl rfl (sp_X12_told (d - 1) (by omega) _ o6 _ hx1 _ (rL 2 rfl) c8) (by omega) rfl rfl (Nat.le_of_ble_eq_true rfl) dX12_relayNow_26 ?_
  rintro _ _ ⟨_, rfl, rfl, rfl⟩ o10 r9
  refine G_isub dX12_relayNow_29 ?_
  obtain ⟨c11, h⟩ := h
  obtain ⟨σ12, e14⟩ : ∃ τ : Mem, τ = mset σ5 75 9 ((σ5 75 9) - (σ5 75 (39 + 4 * x1 + (2 : Int)))) := ⟨_, rfl⟩
  have h := h σ12 e14
  have o13 : OKm σ12 := by rw [e14]; exact OKm.seti o6 _ _ _ c11 (isLg_row (show shp 75 = (1, 2119, []) from rfl) _)
  refine G_iast (n := 2119) rfl (by decide) (by decide) dX12_relayNow_30 ?_
  rw [← e14]
  exact G_vret rfl dX12_relayNow_31 ⟨rfl, h⟩ o13

theorem sp_X12_relayNow (d : Nat) (hd : 1 ≤ d) (σ : Mem) (hO : OKm σ) (x1 : Int) (hx1 : R32 x1) (A : Mem) (tx : Nat → Txt) (hpre : vwM σ A tx ∧ canLayS A x1 = true) : Mt yX12_relayNow cX12_relayNow 2 none d [aR (74), aI (x1)] σ (QV (fun σ' => vwM σ' (layS A x1) tx ∧ keepM σ σ' ∧ σ' 74 = σ 74)) := mt_X12_relayNow hd hx1 hO (by
  unfold wp_X12_relayNow
  obtain ⟨hV, hc⟩ := hpre
  have hI := hV.2.2.1
  have hcc := hI.1
  have hcan : (0 ≤ x1 ∧ x1 < A 10 0) ∧ A 1 x1 < A 14 x1 ∧ A 13 x1 ≤ A 0 0 := of_decide_eq_true hc
  have hr := hcan.1
  have t1 := hV.1.2.1 x1 hr.1 hr.2
  have k1 := hI.2.1 x1 hr.1 hr.2
  have k3 := hI.2.2.2.1
  have e9 : σ 75 9 = A 0 0 := hV.2.1.1.2.2.2.1
  rw [t1.2.2.2]
  refine ⟨by omega, by omega, ?_⟩
  intro σ5 e5
  have f9 : σ5 75 9 = A 0 0 := by rw [e5, mset_miss (by omega)]; exact e9
  have f2 : σ5 75 (39 + 4 * x1 + 2) = A 13 x1 := by rw [e5, mset_miss (by omega)]; exact t1.2.2.1
  rw [f9, f2]
  refine ⟨by omega, by unfold R32; omega, ?_⟩
  intro σ12 e12
  have h1 : vwM σ5 (mset A 1 x1 (A 14 x1)) tx := by rw [e5]; exact hV.thick (by omega) (hI.thick (fun _ _ => by omega))
  refine ⟨?_, by rw [e12, e5]; exact ((keepM.rf σ).set75 (by omega)).set75 (by omega), by rw [e12, e5, mset_ne (by omega), mset_ne (by omega)]⟩
  unfold layS
  rw [e12]
  exact h1.core (Or.inr (Or.inr (Or.inr ⟨rfl, rfl⟩))) (h1.2.2.1.core (by omega) ⟨fun _ => by omega, fun h => by omega, fun h => by omega, fun h => by omega⟩))

theorem vsM.keepd {σ τ A A' : Mem} {L : List Mem} {tx : Nat → Txt} (h : vsM σ A L tx) (hv : vwM τ A' tx) (hk : keepM σ τ) (h0 : σ 74 24 ≤ τ 74 24) : vsM τ A' L tx :=
  ⟨hv, h.2.1.keep hk.2.1, by rw [hk.1 23 (by omega)]; exact h.2.2.1, by have := h.2.2.2; omega⟩

def wp_X12_relay (x1 : Int) (σ : Mem) (Q : Int → Mem → Prop) : Prop :=
  ∃ g1 : Mem, ∃ g2 : Nat → Txt, (vwM σ g1 g2) ∧
   ∀ (u7 : Int) (σ6 : Mem), R32 u7 → OKm σ6 → (u7 = (if canLayS g1 x1 = true then 1 else 0) ∧ σ6 = σ) →
   ((u7 ≠ 0) →
    ∃ g10 : Mem, ∃ g11 : List Mem, (nowM σ6 75 g10 ∧ σ6 75 0 = g10 10 0 ∧ σ6 75 1 = g10 10 1 ∧ Cnt g10 ∧ stepsM σ6 75 g11) ∧
    ∀ σ15 : Mem, OKm σ15 → (stepsM σ15 75 (pushS g10 g11) ∧ (∀ i : Int, 0 ≤ i → i < 139 → i ≠ 4 → σ15 75 i = σ6 75 i) ∧ (∀ i : Int, 2089 ≤ i → σ15 75 i = σ6 75 i) ∧ Fr [75] σ6 σ15) →
    ∃ g18 : Mem, ∃ g19 : Nat → Txt, (vwM σ15 g18 g19 ∧ canLayS g18 x1 = true) ∧
    ∀ σ23 : Mem, OKm σ23 → (vwM σ23 (layS g18 x1) g19 ∧ keepM σ15 σ23 ∧ σ23 74 = σ15 74) →
    Q 1 σ23) ∧
   ((u7 = 0) →
    Q 0 σ6)
theorem mt_X12_relay {d : Nat} (hd : 3 ≤ d) {x1 : Int} {σ : Mem} {Q : Int → Mem → Prop} (hx1 : R32 x1) (hO : OKm σ) (h : wp_X12_relay x1 σ Q) : Mt yX12_relay cX12_relay 2 (some .boolean) d [aR (74), aI (x1)] σ (QI Q) := by
  refine Mt.intro (by decide +kernel) (Nat.le_of_ble_eq_true rfl) [(0, aR (74)), (1, aI (x1))] rfl ?_
  unfold wp_X12_relay at h
  refine G_aload_n 0 rfl rfl dX12_relay_0 ?_
  refine G_iload_n 1 rfl rfl dX12_relay_1 ?_
  obtain ⟨g1, g2, c3, h⟩ := h
  refine G_callV (as := [_]) cf_X12_376 rfl rfl rfl (sp_X12_canRelay (d - 1) (by omega) _ hO _ hx1 g1 g2 c3) (by omega) rfl rfl (Nat.le_of_ble_eq_true rfl) dX12_relay_2 ?_
  rintro _ σ6 ⟨u7, rfl, z8⟩ o5 r4
  have h := h _ _ (r4 _ rfl) o5 z8
  refine G_if_ne (r4 _ rfl) dX12_relay_5 (tgt := 10) (by decide) (fun c9 => ?_) (fun c9 => ?_)
  · have h := h.1 c9
    refine G_aload_n 0 rfl rfl dX12_relay_10 ?_
    obtain ⟨g10, g11, c12, h⟩ := h
    refine G_callV (as := []) cf_X12_373 rfl rfl rfl (sp_X12_keep (d - 1) (by omega) _ o5  g10 g11 c12) (by omega) rfl rfl (Nat.le_of_ble_eq_true rfl) dX12_relay_11 ?_
    rintro _ σ15 ⟨rfl, z17⟩ o14 r13
    have h := h _ o14 z17
    refine G_aload_n 0 rfl rfl dX12_relay_14 ?_
    refine G_iload_n 1 rfl rfl dX12_relay_15 ?_
    obtain ⟨g18, g19, c20, h⟩ := h
    refine G_callV (as := [_]) cf_X12_379 rfl rfl rfl (sp_X12_relayNow (d - 1) (by omega) _ o14 _ hx1 g18 g19 c20) (by omega) rfl rfl (Nat.le_of_ble_eq_true rfl) dX12_relay_16 ?_
    rintro _ σ23 ⟨rfl, z25⟩ o22 r21
    have h := h _ o22 z25
    refine G_iconst dX12_relay_19 ?_
    exact G_zret rfl (by decide) dX12_relay_20 ⟨_, rfl, h⟩ o22
  · have h := h.2 c9
    refine G_iconst dX12_relay_8 ?_
    exact G_zret rfl (by decide) dX12_relay_9 ⟨_, rfl, h⟩ o5

theorem sp_X12_relay (d : Nat) (hd : 3 ≤ d) (σ : Mem) (hO : OKm σ) (x1 : Int) (hx1 : R32 x1) (A : Mem) (L : List Mem) (tx : Nat → Txt) (hpre : vsM σ A L tx) : Mt yX12_relay cX12_relay 2 (some .boolean) d [aR (74), aI (x1)] σ (QI (fun v σ' => (canLayS A x1 = true → v = 1 ∧ vsM σ' (layS A x1) (pushS A L) tx) ∧ (canLayS A x1 = false → v = 0 ∧ vsM σ' A L tx) ∧ stM σ σ' 0)) := mt_X12_relay hd hx1 hO (by
  unfold wp_X12_relay
  have hS := hpre
  have hV := hS.1
  refine ⟨A, tx, hV, ?_⟩
  intro u σ1 hu hO1 ⟨eu, e1⟩
  subst e1
  cases hc : canLayS A x1 with
  | false =>
    rw [hc] at eu
    have eu : u = 0 := by simpa using eu
    exact ⟨fun h => absurd eu h, fun _ => ⟨fun h => absurd h (by simp), fun _ => ⟨rfl, hS⟩, stM.rf _⟩⟩
  | true =>
    rw [hc, if_pos rfl] at eu
    refine ⟨fun _ => ⟨A, L, hS.pre, ?_⟩, fun h => absurd h (by omega)⟩
    intro σ2 hO2 hk
    obtain ⟨hS2, hs2⟩ := hS.kept hk
    refine ⟨A, tx, ⟨hS2.1, hc⟩, ?_⟩
    intro σ3 hO3 ⟨hV3, hk3, h74⟩
    exact ⟨fun _ => ⟨rfl, hS2.keepd hV3 hk3 (by rw [h74]; omega)⟩, fun h => by simp at h, (hs2.tr (stM.keep (n := 0) hk3 (by rw [h74]; omega))).wk (by omega)⟩)

def wp_X12_coil (x1 : Int) (σ : Mem) (Q : Int → Mem → Prop) : Prop :=
  ((¬ ((1 : Int) ≤ x1 ∧ x1 ≤ (99 : Int))) →
    Q 0 σ) ∧
   (((1 : Int) ≤ x1 ∧ x1 ≤ (99 : Int)) →
    R32 ((σ 75 9) + x1) ∧
    ((((σ 75 9) + x1) ≤ 999) →
     ∃ g6 : Mem, ∃ g7 : List Mem, (nowM σ 75 g6 ∧ σ 75 0 = g6 10 0 ∧ σ 75 1 = g6 10 1 ∧ Cnt g6 ∧ stepsM σ 75 g7) ∧
     ∀ σ11 : Mem, OKm σ11 → (stepsM σ11 75 (pushS g6 g7) ∧ (∀ i : Int, 0 ≤ i → i < 139 → i ≠ 4 → σ11 75 i = σ 75 i) ∧ (∀ i : Int, 2089 ≤ i → σ11 75 i = σ 75 i) ∧ Fr [75] σ σ11) →
     R32 ((σ11 75 9) + x1) ∧
     ∀ σ15 : Mem, σ15 = mset σ11 75 9 ((σ11 75 9) + x1) →
     Q 1 σ15) ∧
    ((999 < ((σ 75 9) + x1)) →
     Q 0 σ))
theorem mt_X12_coil {d : Nat} (hd : 1 ≤ d) {x1 : Int} {σ : Mem} {Q : Int → Mem → Prop} (hx1 : R32 x1) (hO : OKm σ) (h : wp_X12_coil x1 σ Q) : Mt yX12_coil cX12_coil 2 (some .boolean) d [aR (74), aI (x1)] σ (QI Q) := by
  refine Mt.intro (by decide +kernel) (Nat.le_of_ble_eq_true rfl) [(0, aR (74)), (1, aI (x1))] rfl ?_
  unfold wp_X12_coil at h
  refine G_iload_n 1 rfl rfl dX12_coil_0 ?_
  refine G_iconst dX12_coil_1 ?_
  refine G_bipush (by decide) dX12_coil_2 ?_
  refine G_callS (as := [_, _, _]) cf_X12_81 rfl (sp_X12_isIn (d - 1) (by omega) _ hO _ hx1 _ (rL 1 rfl) _ (rL 99 rfl)) (by omega) rfl rfl (Nat.le_of_ble_eq_true rfl) dX12_coil_4 ?_
  rintro _ _ ⟨_, rfl, rfl, rfl⟩ o2 r1
  refine G_if_eq (bI_R _) dX12_coil_7 (tgt := 25) (by decide) (fun c3 => ?_) (fun c3 => ?_)
  · have h := h.1 ((bI_0 _).mp c3)
    refine G_iconst dX12_coil_25 ?_
    exact G_zret rfl (by decide) dX12_coil_26 ⟨_, rfl, h⟩ hO
  · have h := h.2 (bI_ne c3)
    refine G_aload_n 0 rfl rfl dX12_coil_10 ?_
    refine G_get (k := 0) (kd := (2, 75)) (v := aR 75) gf_X12_7 rfl rfl rfl rfl dX12_coil_11 ?_
    refine G_bipush (by decide) dX12_coil_14 ?_
    refine G_iald (n := 2119) rfl (by decide) (by decide) dX12_coil_16 ?_
    refine G_iload_n 1 rfl rfl dX12_coil_17 ?_
    refine G_iadd dX12_coil_18 ?_
    refine G_sipush (by decide) dX12_coil_19 ?_
    obtain ⟨c4, h⟩ := h
    refine G_icmp_le c4 (rL 999 rfl) dX12_coil_22 (tgt := 27) (by decide) (fun c5 => ?_) (fun c5 => ?_)
    · have h := h.1 c5
      refine G_aload_n 0 rfl rfl dX12_coil_27 ?_
      obtain ⟨g6, g7, c8, h⟩ := h
      refine G_callV (as := []) cf_X12_373 rfl rfl rfl (sp_X12_keep (d - 1) (by omega) _ hO  g6 g7 c8) (by omega) rfl rfl (Nat.le_of_ble_eq_true rfl) dX12_coil_28 ?_
      rintro _ σ11 ⟨rfl, z13⟩ o10 r9
      have h := h _ o10 z13
      refine G_aload_n 0 rfl rfl dX12_coil_31 ?_
      refine G_get (k := 0) (kd := (2, 75)) (v := aR 75) gf_X12_7 rfl rfl rfl rfl dX12_coil_32 ?_
      refine G_bipush (by decide) dX12_coil_35 ?_
      refine G_dup2 rfl rfl dX12_coil_37 ?_
      refine G_iald (n := 2119) rfl (by decide) (by decide) dX12_coil_38 ?_
      refine G_iload_n 1 rfl rfl dX12_coil_39 ?_
      refine G_iadd dX12_coil_40 ?_
      obtain ⟨c14, h⟩ := h
      obtain ⟨σ15, e17⟩ : ∃ τ : Mem, τ = mset σ11 75 9 ((σ11 75 9) + x1) := ⟨_, rfl⟩
      have h := h σ15 e17
      have o16 : OKm σ15 := by rw [e17]; exact OKm.seti o10 _ _ _ c14 (isLg_row (show shp 75 = (1, 2119, []) from rfl) _)
      refine G_iast (n := 2119) rfl (by decide) (by decide) dX12_coil_41 ?_
      rw [← e17]
      refine G_iconst dX12_coil_42 ?_
      exact G_zret rfl (by decide) dX12_coil_43 ⟨_, rfl, h⟩ o16
    · have h := h.2 c5
      refine G_iconst dX12_coil_25 ?_
      exact G_zret rfl (by decide) dX12_coil_26 ⟨_, rfl, h⟩ hO

theorem sp_X12_coil (d : Nat) (hd : 1 ≤ d) (σ : Mem) (hO : OKm σ) (x1 : Int) (hx1 : R32 x1) (A : Mem) (L : List Mem) (tx : Nat → Txt) (hpre : vsM σ A L tx) : Mt yX12_coil cX12_coil 2 (some .boolean) d [aR (74), aI (x1)] σ (QI (fun v σ' => (((1 ≤ x1 ∧ x1 ≤ 99) ∧ A 0 0 + x1 ≤ 999) → v = 1 ∧ vsM σ' (coilS A x1) (pushS A L) tx) ∧ (¬ ((1 ≤ x1 ∧ x1 ≤ 99) ∧ A 0 0 + x1 ≤ 999) → v = 0 ∧ vsM σ' A L tx) ∧ stM σ σ' 0)) := mt_X12_coil hd hx1 hO (by
  unfold wp_X12_coil
  have hS := hpre
  have hV := hS.1
  have hI := hV.2.2.1
  have k3 := hI.2.2.2.1
  have e9 : σ 75 9 = A 0 0 := hV.2.1.1.2.2.2.1
  rw [e9]
  refine ⟨fun h => ⟨fun h2 => absurd h2.1 h, fun _ => ⟨rfl, hS⟩, stM.rf _⟩, fun hx => ⟨by unfold R32; omega, fun h => ⟨A, L, hS.pre, ?_⟩, fun h => ⟨fun h2 => by omega, fun _ => ⟨rfl, hS⟩, stM.rf _⟩⟩⟩
  intro σ2 hO2 hk
  obtain ⟨hS2, hs2⟩ := hS.kept hk
  have f9 : σ2 75 9 = A 0 0 := hS2.1.2.1.1.2.2.2.1
  rw [f9]
  refine ⟨by unfold R32; omega, ?_⟩
  intro σ3 e3
  refine ⟨fun _ => ⟨rfl, hS2.keepd ?_ (by rw [e3]; exact (keepM.rf _).set75 (by omega)) (by rw [e3, mset_off (by omega)]; omega)⟩, fun h2 => absurd ⟨hx, h⟩ h2, ?_⟩
  · rw [e3]; unfold coilS
    exact hS2.1.core (Or.inr (Or.inr (Or.inr ⟨rfl, rfl⟩))) (hI.core (by omega) ⟨fun _ => by omega, fun h => by omega, fun h => by omega, fun h => by omega⟩)
  · have : Fr [75] σ2 σ3 := by rw [e3]; exact (Fr.rf _ _).set (by simp)
    exact hs2.tr (stM.of75 this))

/-- days with STEPS: state, steps, goings -/
def dayN (tx : Nat → Txt) (A : Mem) (L : List Mem) : Nat → Mem × List Mem × Int
  | 0 => (A, L, 0)
  | n + 1 => ((passS (dayN tx A L n).1 tx).1, pushS (dayN tx A L n).1 (dayN tx A L n).2.1, (dayN tx A L n).2.2 + (passS (dayN tx A L n).1 tx).2)
theorem passS_day {A : Mem} {tx : Nat → Txt} : (passS A tx).1 0 2 = A 0 2 + 1 := by unfold passS; dsimp only; rw [mset_self]
theorem dayN_day {A : Mem} {L : List Mem} {tx : Nat → Txt} : ∀ n : Nat, (dayN tx A L n).1 0 2 = A 0 2 + n
  | 0 => by show A 0 2 = _; simp
  | n + 1 => by show (passS (dayN tx A L n).1 tx).1 0 2 = _; rw [passS_day, dayN_day n]; omega
theorem passS_cnt {A : Mem} {tx : Nat → Txt} (h : InvA A) : 0 ≤ (passS A tx).2 ∧ (passS A tx).2 ≤ 6 := by
  have hc := h.1
  have hR := rainS_ok h
  have hR10 : rainS A 10 = A 10 := by unfold rainS; rw [mset_ne (by omega), mset_ne (by omega)]
  have hG := goersN_ok (tx := tx) hR (A 10 1).toNat (by rw [hR10]; omega)
  unfold passS
  exact ⟨hG.2.2.1, by have := hG.2.2.2; show (goersN (rainS A) tx (A 10 1).toNat).2 ≤ 6; omega⟩

def wp_X12_arePassed (x1 : Int) (σ : Mem) (Q : Int → Mem → Prop) : Prop :=
 ∀ P7 : Int → Int → Mem → Prop,
 (∀ (v1 : Int) (v2 : Int) (σ : Mem), (R32 v1 → R32 v2 → OKm σ →
   ((v1 ≤ v2) →
     Q 1 σ) ∧
    ((v2 < v1) →
     (((σ 75 6) ≠ 9999) →
      ∃ g6 : Mem, ∃ g7 : List Mem, (nowM σ 75 g6 ∧ σ 75 0 = g6 10 0 ∧ σ 75 1 = g6 10 1 ∧ Cnt g6 ∧ stepsM σ 75 g7) ∧
      ∀ σ11 : Mem, OKm σ11 → (stepsM σ11 75 (pushS g6 g7) ∧ (∀ i : Int, 0 ≤ i → i < 139 → i ≠ 4 → σ11 75 i = σ 75 i) ∧ (∀ i : Int, 2089 ≤ i → σ11 75 i = σ 75 i) ∧ Fr [75] σ σ11) →
      ∃ g14 : Mem, ∃ g15 : Nat → Txt, (vwM σ11 g14 g15 ∧ g14 0 2 < 9999 ∧ (0 ≤ σ11 74 24 ∧ σ11 74 24 < 900000000)) ∧
      ∀ σ19 : Mem, OKm σ19 → (vwM σ19 (passW (σ11 74 23) g14 g15).1 g15 ∧ σ19 74 24 = σ11 74 24 + (passW (σ11 74 23) g14 g15).2 ∧ keepM σ11 σ19) →
      R32 (v2 + 1) ∧ P7 v1 (v2 + 1) σ19) ∧
     (((σ 75 6) = 9999) →
      Q 0 σ))) → P7 v1 v2 σ) →
  ∀ σ1 : Mem, σ1 = mset σ 74 24 0 →
   P7 x1 0 σ1
theorem mt_X12_arePassed {d : Nat} (hd : 9 ≤ d) {x1 : Int} {σ : Mem} {Q : Int → Mem → Prop} (hx1 : R32 x1) (hO : OKm σ) (h : wp_X12_arePassed x1 σ Q) : Mt yX12_arePassed cX12_arePassed 3 (some .boolean) d [aR (74), aI (x1)] σ (QI Q) := by
  refine Mt.intro (by decide +kernel) (Nat.le_of_ble_eq_true rfl) [(0, aR (74)), (1, aI (x1))] rfl ?_
  unfold wp_X12_arePassed at h
  have h := h (fun (v1 : Int) (v2 : Int) (σ : Mem) => R32 v1 → R32 v2 → OKm σ → G yX12_arePassed cX12_arePassed 3 (some .boolean) d (QI Q) 7 [(0, aR (74)), (1, aI (v1)), (2, aI (v2))] [] σ) ?_
  · refine G_aload_n 0 rfl rfl dX12_arePassed_0 ?_
    refine G_iconst dX12_arePassed_1 ?_
    obtain ⟨σ1, e3⟩ : ∃ τ : Mem, τ = mset σ 74 24 0 := ⟨_, rfl⟩
    have h := h σ1 e3
    have o2 : OKm σ1 := by rw [e3]; exact OKm.seti hO _ _ _ (rL 0 rfl) rfl
    refine G_put (k := 24) (ki := 24) (kd := (0, 0)) (x := _) pf_X12_345 rfl rfl rfl rfl (fa_i (mset_self _ _ _ _)) (fun _ => rfl) (fun _ => rfl) dX12_arePassed_2 ?_
    rw [← e3]
    refine G_iconst dX12_arePassed_5 ?_
    refine G_istore_n (lv' := [(2, aI (0)), (0, aR (74)), (1, aI (x1))]) rfl rfl (by decide) dX12_arePassed_6 ?_
    exact G_pick [1, 2, 0] rfl (h hx1 (rL 0 rfl) o2)
  · intro v1 v2 σ h hv1 hv2 hO
    have h := h hv1 hv2 hO
    refine G_iload_n 2 rfl rfl dX12_arePassed_7 ?_
    refine G_iload_n 1 rfl rfl dX12_arePassed_8 ?_
    refine G_icmp_ge hv2 hv1 dX12_arePassed_9 (tgt := 41) (by decide) (fun c4 => ?_) (fun c4 => ?_)
    · have h := h.1 c4
      refine G_iconst dX12_arePassed_41 ?_
      exact G_zret rfl (by decide) dX12_arePassed_42 ⟨_, rfl, h⟩ hO
    · have h := h.2 c4
      refine G_aload_n 0 rfl rfl dX12_arePassed_12 ?_
      refine G_get (k := 0) (kd := (2, 75)) (v := aR 75) gf_X12_7 rfl rfl rfl rfl dX12_arePassed_13 ?_
      refine G_bipush (by decide) dX12_arePassed_16 ?_
      refine G_iald (n := 2119) rfl (by decide) (by decide) dX12_arePassed_18 ?_
      refine G_sipush (by decide) dX12_arePassed_19 ?_
      refine G_icmp_ne (OKm.i hO 75 6 (isLg_row (show shp 75 = (1, 2119, []) from rfl) _)) (rL 9999 rfl) dX12_arePassed_22 (tgt := 27) (by decide) (fun c5 => ?_) (fun c5 => ?_)
      · have h := h.1 c5
        refine G_aload_n 0 rfl rfl dX12_arePassed_27 ?_
        obtain ⟨g6, g7, c8, h⟩ := h
        refine G_callV (as := []) cf_X12_373 rfl rfl rfl (sp_X12_keep (d - 1) (by omega) _ hO  g6 g7 c8) (by omega) rfl rfl (Nat.le_of_ble_eq_true rfl) dX12_arePassed_28 ?_
        rintro _ σ11 ⟨rfl, z13⟩ o10 r9
        have h := h _ o10 z13
        refine G_aload_n 0 rfl rfl dX12_arePassed_31 ?_
        obtain ⟨g14, g15, c16, h⟩ := h
        refine G_callV (as := []) cf_X12_382 rfl rfl rfl (sp_X12_pass (d - 1) (by omega) _ o10  g14 g15 c16) (by omega) rfl rfl (Nat.le_of_ble_eq_true rfl) dX12_arePassed_32 ?_
        rintro _ σ19 ⟨rfl, z21⟩ o18 r17
        have h := h _ o18 z21
        refine G_iinc (lv' := [(2, aI ((v2 + 1))), (0, aR (74)), (1, aI (v1))]) (k := 2) rfl rfl (by decide) dX12_arePassed_35 ?_
        refine G_goto (tgt := 7) dX12_arePassed_38 (by decide) ?_
        obtain ⟨c22, h⟩ := h
        exact G_pick [1, 2, 0] rfl (h hv1 c22 o18)
      · have h := h.2 c5
        refine G_iconst dX12_arePassed_25 ?_
        exact G_zret rfl (by decide) dX12_arePassed_26 ⟨_, rfl, h⟩ hO

theorem sp_X12_arePassed (d : Nat) (hd : 9 ≤ d) (σ : Mem) (hO : OKm σ) (x1 : Int) (hx1 : R32 x1) (A : Mem) (L : List Mem) (tx : Nat → Txt) (hpre : vsM σ A L tx ∧ (1 ≤ x1 ∧ x1 ≤ 60) ∧ σ 74 24 < 800000000) : Mt yX12_arePassed cX12_arePassed 3 (some .boolean) d [aR (74), aI (x1)] σ (QI (fun v σ' => v = (if A 0 2 + x1 ≤ 9999 then 1 else 0) ∧ vsM σ' (dayN tx A L (min x1 (9999 - A 0 2)).toNat).1 (dayN tx A L (min x1 (9999 - A 0 2)).toNat).2.1 tx ∧ σ' 74 24 = (dayN tx A L (min x1 (9999 - A 0 2)).toNat).2.2 ∧ (∀ j : Int, j ≠ 24 → σ' 74 j = σ 74 j) ∧ Fr FGM σ σ' ∧ σ' 74 24 ≤ 360)) := mt_X12_arePassed hd hx1 hO (by
  unfold wp_X12_arePassed
  intro P7 h7
  obtain ⟨hS, hx, hgo⟩ := hpre
  have hI0 := hS.1.2.2.1
  have k0 := hI0.2.2.2.1
  obtain ⟨M, eM⟩ : ∃ M : Nat, (M : Int) = min x1 (9999 - A 0 2) := ⟨(min x1 (9999 - A 0 2)).toNat, by omega⟩
  have H : ∀ (n k : Nat) (τ : Mem), k + n = M → vsM τ (dayN tx A L k).1 (dayN tx A L k).2.1 tx → τ 74 24 = (dayN tx A L k).2.2 → (dayN tx A L k).2.2 ≤ 6 * k → (∀ j : Int, j ≠ 24 → τ 74 j = σ 74 j) → Fr FGM σ τ → P7 x1 (k : Int) τ := by
    intro n
    induction n with
    | zero =>
      intro k τ hk hSt hn hb hj hF
      have hkk : k = M := by omega
      subst hkk
      have hd := dayN_day (A := A) (L := L) (tx := tx) k
      have e6 : τ 75 6 = A 0 2 + k := by rw [hSt.1.2.1.1.1, hd]
      refine h7 _ _ _ (fun _ _ _ => ⟨fun h => ?_, fun h => ?_⟩)
      · have e1 : (min x1 (9999 - A 0 2)).toNat = k := by omega
        rw [e1]
        refine ⟨by rw [if_pos (by omega)], hSt, hn, hj, hF, by omega⟩
      · rw [e6]
        refine ⟨fun h2 => absurd (by omega) h2, fun _ => ?_⟩
        have e1 : (min x1 (9999 - A 0 2)).toNat = k := by omega
        rw [e1]
        refine ⟨by rw [if_neg (by omega)], hSt, hn, hj, hF, by omega⟩
    | succ n ih =>
      intro k τ hk hSt hn hb hj hF
      have hd := dayN_day (A := A) (L := L) (tx := tx) k
      have e6 : τ 75 6 = A 0 2 + k := by rw [hSt.1.2.1.1.1, hd]
      refine h7 _ _ _ (fun _ _ _ => ⟨fun h => absurd h (by omega), fun _ => ?_⟩)
      rw [e6]
      refine ⟨fun _ => ⟨_, _, hSt.pre, ?_⟩, fun h => absurd h (by omega)⟩
      intro σ11 hO11 hk11
      obtain ⟨hS11, hs11⟩ := hSt.kept hk11
      have hn11 : σ11 74 24 = (dayN tx A L k).2.2 := by rw [hk11.2.2.2 74 (by simp)]; exact hn
      have hw : σ11 74 23 ≠ 0 := by rw [hS11.2.2.1]; omega
      have hpc := passS_cnt (tx := tx) hS11.1.2.2.1
      refine ⟨_, tx, ⟨hS11.1, by rw [hd]; omega, by rw [hn11]; have := hS11.2.2.2; omega⟩, ?_⟩
      intro σ19 hO19 ⟨hV19, hn19, hk19⟩
      rw [passW_1 hw] at hV19 hn19
      refine ⟨by unfold R32; omega, ?_⟩
      rw [show ((k : Int) + 1) = ((k + 1 : Nat) : Int) by omega]
      refine ih (k + 1) σ19 (by omega) (hS11.keepd hV19 hk19 (by omega)) (by rw [hn19, hn11]; rfl) ?_ (fun j h1 => (hk19.1 j h1).trans ((hs11.1 j h1).trans (hj j h1))) ((hF.tr hs11.2.1).tr hk19.2.2)
      show (dayN tx A L k).2.2 + (passS (dayN tx A L k).1 tx).2 ≤ _
      omega
  intro σ1 e1
  refine H M 0 σ1 (by omega) ?_ (by rw [e1, mset_hit rfl]; rfl) (by show (0 : Int) ≤ _; omega) (fun j hj => by rw [e1, mset_miss hj]) (by rw [e1]; exact (Fr.rf _ _).set (by simp))
  have f : ∀ q : Nat, q ≠ 74 → σ1 q = σ q := fun q hq => by rw [e1, mset_ne hq]
  refine ⟨hS.1.upd (by have := hS.1.2.1; unfold nowM at *; rw [f 75 (by omega)]; exact this) hI0 (fun _ _ => rfl) (fun i _ => by rw [f 75 (by omega)]) (fun q h1 _ => f q h1), hS.2.1.keep (fun j _ => by rw [f 75 (by omega)]), by rw [e1, mset_miss (by omega)]; exact hS.2.2.1, by rw [e1, mset_hit rfl]; omega⟩)
