abbrev F80 : List Nat := [80, 81, 82]
theorem vwM_tx {σ A : Mem} {tx : Nat → Txt} (h : vwM σ A tx) : σ 75 3 = A 10 4 := h.1.1.2.2.2.2

def wp_X12_isThick (x1 : Int) (x2 : Int) (σ : Mem) (Q : Int → Mem → Prop) : Prop :=
  (0 ≤ (11 + x2) ∧ (11 + x2) < 2119) ∧
   ∃ g2 : Mem, ∃ g3 : Nat → Txt, (vwM σ g2 g3 ∧ (-1 ≤ (σ 75 3) ∧ (σ 75 3) < g2 10 2) ∧ (0 ≤ x1 ∧ x1 < g2 10 1) ∧ (0 ≤ x2 ∧ x2 < g2 10 0)) ∧
   ∀ (u8 : Int) (σ7 : Mem), R32 u8 → OKm σ7 → (u8 = skS g2 g3 (σ 75 3) x1 x2 ∧ vwM σ7 g2 g3 ∧ Fr [80, 81, 82] σ σ7) →
   (((σ 75 (11 + x2)) < u8) →
    Q 0 σ7) ∧
   ((u8 ≤ (σ 75 (11 + x2))) →
    Q 1 σ7)
theorem mt_X12_isThick {d : Nat} (hd : 5 ≤ d) {x1 : Int} {x2 : Int} {σ : Mem} {Q : Int → Mem → Prop} (hx1 : R32 x1) (hx2 : R32 x2) (hO : OKm σ) (h : wp_X12_isThick x1 x2 σ Q) : Mt yX12_isThick cX12_isThick 3 (some .boolean) d [aR (74), aI (x1), aI (x2)] σ (QI Q) := by
  refine Mt.intro (by decide +kernel) (Nat.le_of_ble_eq_true rfl) [(0, aR (74)), (1, aI (x1)), (2, aI (x2))] rfl ?_
  unfold wp_X12_isThick at h
  refine G_aload_n 0 rfl rfl dX12_isThick_0 ?_
  refine G_get (k := 0) (kd := (2, 75)) (v := aR 75) gf_X12_7 rfl rfl rfl rfl dX12_isThick_1 ?_
  refine G_bipush (by decide) dX12_isThick_4 ?_
  refine G_iload_n 2 rfl rfl dX12_isThick_6 ?_
  refine G_iadd dX12_isThick_7 ?_
  obtain ⟨c1, h⟩ := h
  refine G_iald (n := 2119) rfl c1.1 c1.2 dX12_isThick_8 ?_
  refine G_aload_n 0 rfl rfl dX12_isThick_9 ?_
  refine G_aload_n 0 rfl rfl dX12_isThick_10 ?_
  refine G_get (k := 0) (kd := (2, 75)) (v := aR 75) gf_X12_7 rfl rfl rfl rfl dX12_isThick_11 ?_
  refine G_iconst dX12_isThick_14 ?_
  refine G_iald (n := 2119) rfl (by decide) (by decide) dX12_isThick_15 ?_
  refine G_iload_n 1 rfl rfl dX12_isThick_16 ?_
  refine G_iload_n 2 rfl rfl dX12_isThick_17 ?_
  obtain ⟨g2, g3, c4, h⟩ := h
  refine G_callV (as := [_, _, _]) cf_X12_327 rfl rfl rfl (sp_X12_sucksOf (d - 1) (by omega) _ hO _ (OKm.i hO 75 3 (isLg_row (show shp 75 = (1, 2119, []) from rfl) _)) _ hx1 _ hx2 g2 g3 c4) (by omega) rfl rfl (Nat.le_of_ble_eq_true rfl) dX12_isThick_18 ?_
  rintro _ σ7 ⟨u8, rfl, z9⟩ o6 r5
  have h := h _ _ (r5 _ rfl) o6 z9
  refine G_icmp_lt (OKm.i hO 75 (11 + x2) (isLg_row (show shp 75 = (1, 2119, []) from rfl) _)) (r5 _ rfl) dX12_isThick_21 (tgt := 28) (by decide) (fun c10 => ?_) (fun c10 => ?_)
  · have h := h.1 c10
    refine G_iconst dX12_isThick_28 ?_
    exact G_zret rfl (by decide) dX12_isThick_29 ⟨_, rfl, h⟩ o6
  · have h := h.2 c10
    refine G_iconst dX12_isThick_24 ?_
    refine G_goto (tgt := 29) dX12_isThick_25 (by decide) ?_
    exact G_zret rfl (by decide) dX12_isThick_29 ⟨_, rfl, h⟩ o6

theorem sp_X12_isThick (d : Nat) (hd : 5 ≤ d) (σ : Mem) (hO : OKm σ) (x1 : Int) (hx1 : R32 x1) (x2 : Int) (hx2 : R32 x2) (A : Mem) (tx : Nat → Txt) (hpre : vwM σ A tx ∧ (0 ≤ x1 ∧ x1 < A 10 1) ∧ (0 ≤ x2 ∧ x2 < A 10 0)) : Mt yX12_isThick cX12_isThick 3 (some .boolean) d [aR (74), aI (x1), aI (x2)] σ (QI (fun v σ' => v = (if skS A tx (A 10 4) x1 x2 ≤ A 1 x2 then 1 else 0) ∧ vwM σ' A tx ∧ Fr F80 σ σ')) := mt_X12_isThick hd hx1 hx2 hO (by
  unfold wp_X12_isThick
  obtain ⟨hV, hg, hr⟩ := hpre
  have hI := hV.2.2.1
  have hc := hI.1
  have n1 := hV.2.1.2.1 x2 hr.1 hr.2
  rw [vwM_tx hV, n1]
  refine ⟨by omega, A, tx, ⟨hV, by omega, hg, hr⟩, ?_⟩
  intro u σ1 hu hO1 ⟨eu, hV1, hF1⟩
  rw [eu]
  refine ⟨fun h => ⟨?_, hV1, hF1⟩, fun h => ⟨?_, hV1, hF1⟩⟩
  · rw [if_neg (by omega)]
  · rw [if_pos h])
