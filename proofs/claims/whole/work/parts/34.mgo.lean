abbrev F80 : List Nat := [80, 81, 82]
theorem vwM_tx {σ A : Mem} {tx : Nat → Txt} (h : vwM σ A tx) : σ 75 3 = A 10 4 := h.1.1.2.2.2.2

def wp_X12_isThick (x1 : Int) (x2 : Int) (σ : Mem) (Q : Int → Mem → Prop) : Prop :=
  (0 ≤ (11 + x2) ∧ (11 + x2) < 2119) ∧
   ∃ g2 : Mem, ∃ g3 : Nat → Txt, (vwM σ g2 g3 ∧ (-1 ≤ (σ 75 3) ∧ (σ 75 3) < g2 10 2) ∧ (0 ≤ x1 ∧ x1 < g2 10 1) ∧ (0 ≤ x2 ∧ x2 < g2 10 0)) ∧
   ∀ (u8 : Int) (σ7 : Mem), R32 u8 → OKm σ7 → (u8 = skS g2 g3 (σ 75 3) x1 x2 ∧ vwM σ7 g2 g3 ∧ Fr [80, 81, 82] σ σ7) →
   (((σ 75 (11 + x2)) < u8) →
    Q 0 σ7) ∧
   ((u8 ≤ (σ 75 (11 + x2))) →
    Q 1 σ7)
theorem mt_X12_isThick {d : Nat} (hd : 5 ≤ d) {x1 : Int} {x2 : Int} {σ : Mem} {Q : Int → Mem → Prop} (hx1 : R32 x1) (hx2 : R32 x2) (hO : OKm σ) (h : wp_X12_isThick x1 x2 σ Q) : Mt yX12_isThick cX12_isThick 3 (some .boolean) d [aR (74), aI (x1), aI (x2)] σ (QI Q) := by
  refine Mt.intro (by decide +kernel) (Nat.le_of_ble_eq_true rfl) [(0, aR (74)), (1, aI (x1)), (2, aI (x2))] rfl ?_
  unfold wp_X12_isThick at h
  refine G_aload_n 0 rfl rfl dX12_isThick_0 ?_
  refine G_get (k := 0) (kd := (2, 75)) (v := aR 75) gf_X12_7 rfl rfl rfl rfl dX12_isThick_1 ?_
  refine G_bipush (by decide) dX12_isThick_4 ?_
  refine G_iload_n 2 rfl rfl dX12_isThick_6 ?_
  refine G_iadd dX12_isThick_7 ?_
  obtain ⟨c1, h⟩ := h
  refine G_iald (n := 2119) rfl c1.1 c1.2 dX12_isThick_8 ?_
  refine G_aload_n 0 rfl rfl dX12_isThick_9 ?_
  refine G_aload_n 0 rfl rfl dX12_isThick_10 ?_
  refine G_get (k := 0) (kd := (2, 75)) (v := aR 75) gf_X12_7 rfl rfl rfl rfl dX12_isThick_11 ?_
  refine G_iconst dX12_isThick_14 ?_
  refine G_iald (n := 2119) rfl (by decide) (by decide) dX12_isThick_15 ?_
  refine G_iload_n 1 rfl rfl dX12_isThick_16 ?_
  refine G_iload_n 2 rfl rfl dX12_isThick_17 ?_
  obtain ⟨g2, g3, c4, h⟩ := h
  refine G_callV (as := [_, _, _]) cf_X12_327 rfl rfl rfl (sp_X12_sucksOf (d - 1) (by omega) _ hO _ (OKm.i hO 75 3 (isLg_row (show shp 75 = (1, 2119, []) from rfl) _)) _ hx1 _ hx2 g2 g3 c4) (by omega) rfl rfl (Nat.le_of_ble_eq_true rfl) dX12_isThick_18 ?_
  rintro _ σ7 ⟨u8, rfl, z9⟩ o6 r5
  have h := h _ _ (r5 _ rfl) o6 z9
  refine G_icmp_lt (OKm.i hO 75 (11 + x2) (isLg_row (show shp 75 = (1, 2119, []) from rfl) _)) (r5 _ rfl) dX12_isThick_21 (tgt := 28) (by decide) (fun c10 => ?_) (fun c10 => ?_)
  · have h := h.1 c10
    refine G_iconst dX12_isThick_28 ?_
    exact G_zret rfl (by decide) dX12_isThick_29 ⟨_, rfl, h⟩ o6
  · have h := h.2 c10
    refine G_iconst dX12_isThick_24 ?_
    refine G_goto (tgt := 29) dX12_isThick_25 (by decide) ?_
    exact G_zret rfl (by decide) dX12_isThick_29 ⟨_, rfl, h⟩ o6

theorem sp_X12_isThick (d : Nat) (hd : 5 ≤ d) (σ : Mem) (hO : OKm σ) (x1 : Int) (hx1 : R32 x1) (x2 : Int) (hx2 : R32 x2) (A : Mem) (tx : Nat → Txt) (hpre : vwM σ A tx ∧ (0 ≤ x1 ∧ x1 < A 10 1) ∧ (0 ≤ x2 ∧ x2 < A 10 0)) : Mt yX12_isThick cX12_isThick 3 (some .boolean) d [aR (74), aI (x1), aI (x2)] σ (QI (fun v σ' => v = (if skS A tx (A 10 4) x1 x2 ≤ A 1 x2 then 1 else 0) ∧ vwM σ' A tx ∧ Fr F80 σ σ')) := mt_X12_isThick hd hx1 hx2 hO (by
  unfold wp_X12_isThick
  obtain ⟨hV, hg, hr⟩ := hpre
  have hI := hV.2.2.1
  have hc := hI.1
  have n1 := hV.2.1.2.1 x2 hr.1 hr.2
  rw [vwM_tx hV, n1]
  refine ⟨by omega, A, tx, ⟨hV, by omega, hg, hr⟩, ?_⟩
  intro u σ1 hu hO1 ⟨eu, hV1, hF1⟩
  rw [eu]
  refine ⟨fun h => ⟨?_, hV1, hF1⟩, fun h => ⟨?_, hV1, hF1⟩⟩
  · rw [if_neg (by omega)]
  · rw [if_pos h])

theorem bkS_m {A : Mem} {g r much : Int} (h : 0 ≤ A 0 4 ∧ A 0 4 ≤ 30) (i : Int) (h0 : 0 ≤ i) : i < bkS A g r much 0 4 → bkM (bkS A g r much) i = (if A 0 4 < 30 then (if i = A 0 4 then ((A 0 2 * 6 + g) * 16 + r) * 100 + much else bkM A i) else (if i = 29 then ((A 0 2 * 6 + g) * 16 + r) * 100 + much else bkM A (i + 1))) := by
  rw [bkS_n h.2]
  unfold bkM bkS
  split
  · intro hi
    by_cases e : i = A 0 4
    · rw [if_pos e]
      simp (disch := omega) only [mset_off, mset_hit]
    · rw [if_neg e]
      simp (disch := omega) only [mset_off, mset_miss]
  · intro hi
    simp (disch := omega) only [mrow_off, mrow_same]
    by_cases e : i = 29
    · simp only [if_pos e]
    · simp only [if_neg e]
def bkW (w : Int) (A : Mem) (g r much : Int) : Mem := if w = 0 then A else bkS A g r much
def bookM (σ : Mem) (A : Mem) : Prop := σ 75 10 = A 0 4 ∧ ∀ i : Int, 0 ≤ i → i < A 0 4 → σ 75 (2089 + i) = bkM A i

def wp_X12_write (x1 : Int) (x2 : Int) (x3 : Int) (σ : Mem) (Q : Mem → Prop) : Prop :=
 ∀ P23 : Int → Int → Int → Int → Mem → Prop,
 ∀ P71 : Int → Int → Int → Mem → Prop,
 (∀ (v1 : Int) (v2 : Int) (v3 : Int) (v4 : Int) (σ : Mem), (R32 v1 → R32 v2 → R32 v3 → R32 v4 → OKm σ →
   ((30 ≤ v4) →
     R32 ((σ 75 10) - 1) ∧
     ∀ σ14 : Mem, σ14 = mset σ 75 10 ((σ 75 10) - 1) →
     P71 v1 v2 v3 σ14) ∧
    ((v4 < 30) →
     (0 ≤ (2089 + v4) ∧ (2089 + v4) < 2119) ∧
     (0 ≤ ((2089 + v4) - 1) ∧ ((2089 + v4) - 1) < 2119) ∧
     ∀ σ19 : Mem, σ19 = mset σ 75 ((2089 + v4) - 1) (σ 75 (2089 + v4)) →
     R32 (v4 + 1) ∧ P23 v1 v2 v3 (v4 + 1) σ19)) → P23 v1 v2 v3 v4 σ) →
 (∀ (v1 : Int) (v2 : Int) (v3 : Int) (σ : Mem), (R32 v1 → R32 v2 → R32 v3 → OKm σ →
   (0 ≤ (2089 + (σ 75 10)) ∧ (2089 + (σ 75 10)) < 2119) ∧
    R32 (((((((σ 75 6) * 6) + v1) * 16) + v2) * 100) + v3) ∧
    ∀ σ5 : Mem, σ5 = mset σ 75 (2089 + (σ 75 10)) (((((((σ 75 6) * 6) + v1) * 16) + v2) * 100) + v3) →
    R32 ((σ5 75 10) + 1) ∧
    ∀ σ9 : Mem, σ9 = mset σ5 75 10 ((σ5 75 10) + 1) →
    Q σ9) → P71 v1 v2 v3 σ) →
  (((σ 74 23) ≠ 0) →
    (((σ 75 10) ≠ 30) →
     P71 x1 x2 x3 σ) ∧
    (((σ 75 10) = 30) →
     P23 x1 x2 x3 1 σ)) ∧
   (((σ 74 23) = 0) →
    Q σ)
theorem mt_X12_write {d : Nat} (hd : 0 ≤ d) {x1 : Int} {x2 : Int} {x3 : Int} {σ : Mem} {Q : Mem → Prop} (hx1 : R32 x1) (hx2 : R32 x2) (hx3 : R32 x3) (hO : OKm σ) (h : wp_X12_write x1 x2 x3 σ Q) : Mt yX12_write cX12_write 5 none d [aR (74), aI (x1), aI (x2), aI (x3)] σ (QV Q) := by
  refine Mt.intro (by decide +kernel) (Nat.le_of_ble_eq_true rfl) [(0, aR (74)), (1, aI (x1)), (2, aI (x2)), (3, aI (x3))] rfl ?_
  unfold wp_X12_write at h
  have h := h (fun (v1 : Int) (v2 : Int) (v3 : Int) (v4 : Int) (σ : Mem) => R32 v1 → R32 v2 → R32 v3 → R32 v4 → OKm σ → G yX12_write cX12_write 5 none d (QV Q) 23 [(0, aR (74)), (1, aI (v1)), (2, aI (v2)), (3, aI (v3)), (4, aI (v4))] [] σ)
    (fun (v1 : Int) (v2 : Int) (v3 : Int) (σ : Mem) => R32 v1 → R32 v2 → R32 v3 → OKm σ → G yX12_write cX12_write 5 none d (QV Q) 71 [(0, aR (74)), (1, aI (v1)), (2, aI (v2)), (3, aI (v3))] [] σ) ?_ ?_
  · refine G_aload_n 0 rfl rfl dX12_write_0 ?_
    refine G_get (k := 23) (kd := (5, 0)) (v := aI (σ 74 23)) gf_X12_43 rfl rfl rfl rfl dX12_write_1 ?_
    refine G_if_ne (OKm.i hO 74 23 rfl) dX12_write_4 (tgt := 8) (by decide) (fun c1 => ?_) (fun c1 => ?_)
    · have h := h.1 c1
      refine G_aload_n 0 rfl rfl dX12_write_8 ?_
      refine G_get (k := 0) (kd := (2, 75)) (v := aR 75) gf_X12_7 rfl rfl rfl rfl dX12_write_9 ?_
      refine G_bipush (by decide) dX12_write_12 ?_
      refine G_iald (n := 2119) rfl (by decide) (by decide) dX12_write_14 ?_
      refine G_bipush (by decide) dX12_write_15 ?_
      refine G_icmp_ne (OKm.i hO 75 10 (isLg_row (show shp 75 = (1, 2119, []) from rfl) _)) (rL 30 rfl) dX12_write_17 (tgt := 71) (by decide) (fun c2 => ?_) (fun c2 => ?_)
      · have h := h.1 c2
        exact G_pick [0, 1, 2, 3] rfl (h hx1 hx2 hx3 hO)
      · have h := h.2 c2
        refine G_iconst dX12_write_20 ?_
        refine G_istore (lv' := [(4, aI (1)), (0, aR (74)), (1, aI (x1)), (2, aI (x2)), (3, aI (x3))]) rfl (by decide) dX12_write_21 ?_
        exact G_pick [1, 2, 3, 4, 0] rfl (h hx1 hx2 hx3 (rL 1 rfl) hO)
    · have h := h.2 c1
      exact G_vret rfl dX12_write_7 ⟨rfl, h⟩ hO
  · intro v1 v2 v3 v4 σ h hv1 hv2 hv3 hv4 hO
    have h := h hv1 hv2 hv3 hv4 hO
    refine G_iload 4 rfl dX12_write_23 ?_
    refine G_bipush (by decide) dX12_write_25 ?_
    refine G_icmp_ge hv4 (rL 30 rfl) dX12_write_27 (tgt := 60) (by decide) (fun c12 => ?_) (fun c12 => ?_)
    · have h := h.1 c12
      refine G_aload_n 0 rfl rfl dX12_write_60 ?_
      refine G_get (k := 0) (kd := (2, 75)) (v := aR 75) gf_X12_7 rfl rfl rfl rfl dX12_write_61 ?_
      refine G_bipush (by decide) dX12_write_64 ?_
      refine G_dup2 rfl rfl dX12_write_66 ?_
      refine G_iald (n := 2119) rfl (by decide) (by decide) dX12_write_67 ?_
      refine G_iconst dX12_write_68 ?_
      refine G_isub dX12_write_69 ?_
      obtain ⟨c13, h⟩ := h
      obtain ⟨σ14, e16⟩ : ∃ τ : Mem, τ = mset σ 75 10 ((σ 75 10) - 1) := ⟨_, rfl⟩
      have h := h σ14 e16
      have o15 : OKm σ14 := by rw [e16]; exact OKm.seti hO _ _ _ c13 (isLg_row (show shp 75 = (1, 2119, []) from rfl) _)
      refine G_iast (n := 2119) rfl (by decide) (by decide) dX12_write_70 ?_
      rw [← e16]
      exact G_pick [0, 1, 2, 3] rfl (h hv1 hv2 hv3 o15)
    · have h := h.2 c12
      refine G_aload_n 0 rfl rfl dX12_write_30 ?_
      refine G_get (k := 0) (kd := (2, 75)) (v := aR 75) gf_X12_7 rfl rfl rfl rfl dX12_write_31 ?_
      refine G_sipush (by decide) dX12_write_34 ?_
      refine G_iload 4 rfl dX12_write_37 ?_
      refine G_iadd dX12_write_39 ?_
      refine G_iconst dX12_write_40 ?_
      refine G_isub dX12_write_41 ?_
      refine G_aload_n 0 rfl rfl dX12_write_42 ?_
      refine G_get (k := 0) (kd := (2, 75)) (v := aR 75) gf_X12_7 rfl rfl rfl rfl dX12_write_43 ?_
      refine G_sipush (by decide) dX12_write_46 ?_
      refine G_iload 4 rfl dX12_write_49 ?_
      refine G_iadd dX12_write_51 ?_
      obtain ⟨c17, h⟩ := h
      refine G_iald (n := 2119) rfl c17.1 c17.2 dX12_write_52 ?_
      obtain ⟨c18, h⟩ := h
      obtain ⟨σ19, e21⟩ : ∃ τ : Mem, τ = mset σ 75 ((2089 + v4) - 1) (σ 75 (2089 + v4)) := ⟨_, rfl⟩
      have h := h σ19 e21
      have o20 : OKm σ19 := by rw [e21]; exact OKm.seti hO _ _ _ (OKm.i hO 75 (2089 + v4) (isLg_row (show shp 75 = (1, 2119, []) from rfl) _)) (isLg_row (show shp 75 = (1, 2119, []) from rfl) _)
      refine G_iast (n := 2119) rfl c18.1 c18.2 dX12_write_53 ?_
      rw [← e21]
      refine G_iinc (lv' := [(4, aI ((v4 + 1))), (0, aR (74)), (1, aI (v1)), (2, aI (v2)), (3, aI (v3))]) (k := 4) rfl rfl (by decide) dX12_write_54 ?_
      refine G_goto (tgt := 23) dX12_write_57 (by decide) ?_
      obtain ⟨c22, h⟩ := h
      exact G_pick [1, 2, 3, 4, 0] rfl (h hv1 hv2 hv3 c22 o20)
  · intro v1 v2 v3 σ h hv1 hv2 hv3 hO
    have h := h hv1 hv2 hv3 hO
    refine G_aload_n 0 rfl rfl dX12_write_71 ?_
    refine G_get (k := 0) (kd := (2, 75)) (v := aR 75) gf_X12_7 rfl rfl rfl rfl dX12_write_72 ?_
    refine G_sipush (by decide) dX12_write_75 ?_
    refine G_aload_n 0 rfl rfl dX12_write_78 ?_
    refine G_get (k := 0) (kd := (2, 75)) (v := aR 75) gf_X12_7 rfl rfl rfl rfl dX12_write_79 ?_
    refine G_bipush (by decide) dX12_write_82 ?_
    refine G_iald (n := 2119) rfl (by decide) (by decide) dX12_write_84 ?_
    refine G_iadd dX12_write_85 ?_
    refine G_aload_n 0 rfl rfl dX12_write_86 ?_
    refine G_get (k := 0) (kd := (2, 75)) (v := aR 75) gf_X12_7 rfl rfl rfl rfl dX12_write_87 ?_
    refine G_bipush (by decide) dX12_write_90 ?_
    refine G_iald (n := 2119) rfl (by decide) (by decide) dX12_write_92 ?_
    refine G_bipush (by decide) dX12_write_93 ?_
    refine G_imul dX12_write_95 ?_
    refine G_iload_n 1 rfl rfl dX12_write_96 ?_
    refine G_iadd dX12_write_97 ?_
    refine G_bipush (by decide) dX12_write_98 ?_
    refine G_imul dX12_write_100 ?_
    refine G_iload_n 2 rfl rfl dX12_write_101 ?_
    refine G_iadd dX12_write_102 ?_
    refine G_bipush (by decide) dX12_write_103 ?_
    refine G_imul dX12_write_105 ?_
    refine G_iload_n 3 rfl rfl dX12_write_106 ?_
    refine G_iadd dX12_write_107 ?_
    obtain ⟨c3, h⟩ := h
    obtain ⟨c4, h⟩ := h
    obtain ⟨σ5, e7⟩ : ∃ τ : Mem, τ = mset σ 75 (2089 + (σ 75 10)) (((((((σ 75 6) * 6) + v1) * 16) + v2) * 100) + v3) := ⟨_, rfl⟩
    have h := h σ5 e7
    have o6 : OKm σ5 := by rw [e7]; exact OKm.seti hO _ _ _ c4 (isLg_row (show shp 75 = (1, 2119, []) from rfl) _)
    refine G_iast (n := 2119) rfl c3.1 c3.2 dX12_write_108 ?_
    rw [← e7]
    refine G_aload_n 0 rfl rfl dX12_write_109 ?_
    refine G_get (k := 0) (kd := (2, 75)) (v := aR 75) gf_X12_7 rfl rfl rfl rfl dX12_write_110 ?_
    refine G_bipush (by decide) dX12_write_113 ?_
    refine G_dup2 rfl rfl dX12_write_115 ?_
    refine G_iald (n := 2119) rfl (by decide) (by decide) dX12_write_116 ?_
    refine G_iconst dX12_write_117 ?_
    refine G_iadd dX12_write_118 ?_
    obtain ⟨c8, h⟩ := h
    obtain ⟨σ9, e11⟩ : ∃ τ : Mem, τ = mset σ5 75 10 ((σ5 75 10) + 1) := ⟨_, rfl⟩
    have h := h σ9 e11
    have o10 : OKm σ9 := by rw [e11]; exact OKm.seti o6 _ _ _ c8 (isLg_row (show shp 75 = (1, 2119, []) from rfl) _)
    refine G_iast (n := 2119) rfl (by decide) (by decide) dX12_write_119 ?_
    rw [← e11]
    exact G_vret rfl dX12_write_120 ⟨rfl, h⟩ o10

theorem sp_X12_write (d : Nat) (hd : 0 ≤ d) (σ : Mem) (hO : OKm σ) (x1 : Int) (hx1 : R32 x1) (x2 : Int) (hx2 : R32 x2) (x3 : Int) (hx3 : R32 x3) (A : Mem) (hpre : bookM σ A ∧ σ 75 6 = A 0 2 ∧ (0 ≤ A 0 2 ∧ A 0 2 ≤ 9999) ∧ (0 ≤ A 0 4 ∧ A 0 4 ≤ 30) ∧ (0 ≤ x1 ∧ x1 ≤ 5) ∧ (0 ≤ x2 ∧ x2 ≤ 15) ∧ (0 ≤ x3 ∧ x3 ≤ 99)) : Mt yX12_write cX12_write 5 none d [aR (74), aI (x1), aI (x2), aI (x3)] σ (QV (fun σ' => bookM σ' (bkW (σ 74 23) A x1 x2 x3) ∧ (∀ j : Int, j ≠ 10 → j < 2089 → σ' 75 j = σ 75 j) ∧ Fr [75] σ σ')) := mt_X12_write hd hx1 hx2 hx3 hO (by
  unfold wp_X12_write
  intro P23 P71 h23 h71
  obtain ⟨⟨b0, b1⟩, hd, hd2, hc, hg, hr, hm⟩ := hpre
  have H71 : ∀ (τ : Mem) (C : Int), (0 ≤ C ∧ C ≤ 29) → τ 75 10 = C → τ 75 6 = A 0 2 → Fr [75] σ τ → (∀ j : Int, j ≠ 10 → j < 2089 → τ 75 j = σ 75 j) → (∀ i : Int, 0 ≤ i → i < C → τ 75 (2089 + i) = bkM (bkS A x1 x2 x3) i) → bkS A x1 x2 x3 0 4 = C + 1 → bkM (bkS A x1 x2 x3) C = ((A 0 2 * 6 + x1) * 16 + x2) * 100 + x3 → σ 74 23 ≠ 0 → P71 x1 x2 x3 τ := by
    intro τ C hC e10 e6 hF hlow hb hn hl hw
    refine h71 _ _ _ _ (fun _ _ _ _ => ?_)
    rw [e10, e6]
    refine ⟨by omega, by unfold R32; omega, ?_⟩
    intro σ5 e5
    have f10 : σ5 75 10 = C := by rw [e5, mset_miss (by omega)]; exact e10
    rw [f10]
    refine ⟨by unfold R32; omega, ?_⟩
    intro σ9 e9
    unfold bkW
    rw [if_neg hw]
    refine ⟨⟨?_, fun i h1 h2 => ?_⟩, fun j h1 h2 => ?_, by rw [e9, e5]; exact (hF.set (by simp)).set (by simp)⟩
    · rw [e9, mset_hit rfl, hn]
    · rw [hn] at h2
      rw [e9, mset_miss (by omega), e5]
      by_cases e : i = C
      · subst e; rw [mset_hit rfl, hl]
      · rw [mset_miss (by omega)]; exact hb i h1 (by omega)
    · rw [e9, mset_miss h1, e5, mset_miss (by omega)]; exact hlow j h1 h2
  have hn := bkS_n (A := A) (g := x1) (r := x2) (much := x3) hc.2
  refine ⟨fun hw => ⟨fun h => ?_, fun h => ?_⟩, fun hw => ?_⟩
  · rw [b0] at h
    refine H71 σ (A 0 4) (by omega) b0 hd (Fr.rf _ _) (fun _ _ _ => rfl) (fun i h1 h2 => ?_) (by rw [hn, if_pos (by omega)]) ?_ hw
    · rw [bkS_m hc i h1 (by rw [hn, if_pos (by omega)]; omega), if_pos (by omega), if_neg (by omega)]; exact b1 i h1 h2
    · rw [bkS_m hc _ hc.1 (by rw [hn, if_pos (by omega)]; omega), if_pos (by omega), if_pos rfl]
  · rw [b0] at h
    have H : ∀ (n : Nat) (k : Int) (τ : Mem), k + n = 30 → (1 ≤ k ∧ (∀ i : Int, 0 ≤ i → i < k - 1 → τ 75 (2089 + i) = bkM A (i + 1)) ∧ (∀ j : Int, j < 2089 ∨ 2089 + (k - 1) ≤ j → τ 75 j = σ 75 j) ∧ Fr [75] σ τ) → P23 x1 x2 x3 k τ := by
      intro n
      induction n with
      | zero =>
        intro k τ hk hI
        refine h23 _ _ _ _ _ (fun _ _ _ _ _ => ⟨fun _ => ?_, fun hh => absurd hh (by omega)⟩)
        have f10 : τ 75 10 = 30 := by rw [hI.2.2.1 10 (by omega), b0, h]
        rw [f10]
        refine ⟨by unfold R32; omega, ?_⟩
        intro σ14 e14
        refine H71 σ14 29 (by omega) (by rw [e14, mset_hit rfl]; omega) (by rw [e14, mset_miss (by omega), hI.2.2.1 6 (by omega)]; exact hd) (by rw [e14]; exact hI.2.2.2.set (by simp)) (fun j h1 h2 => by rw [e14, mset_miss h1]; exact hI.2.2.1 j (by omega)) (fun i h1 h2 => ?_) (by rw [hn, if_neg (by omega)]; omega) ?_ hw
        · rw [e14, mset_miss (by omega), hI.2.1 i h1 (by omega), bkS_m hc i h1 (by rw [hn, if_neg (by omega)]; omega), if_neg (by omega), if_neg (by omega)]
        · rw [bkS_m hc _ (by omega) (by rw [hn, if_neg (by omega)]; omega), if_neg (by omega), if_pos rfl]
      | succ n ih =>
        intro k τ hk hI
        refine h23 _ _ _ _ _ (fun _ _ _ _ _ => ⟨fun hh => absurd hh (by omega), fun _ => ⟨by omega, by omega, ?_⟩⟩)
        intro σ19 e19
        refine ⟨by unfold R32; omega, ih _ _ (by omega) ⟨by omega, fun i h1 h2 => ?_, fun j hj => ?_, by rw [e19]; exact hI.2.2.2.set (by simp)⟩⟩
        · by_cases e : i = k - 1
          · rw [e19, mset_hit (by omega), hI.2.2.1 _ (by omega), b1 k (by omega) (by omega), e]; congr 1; omega
          · rw [e19, mset_miss (by omega)]; exact hI.2.1 i h1 (by omega)
        · rw [e19, mset_miss (by omega)]; exact hI.2.2.1 j (by omega)
    exact H 29 1 σ (by omega) ⟨by omega, fun i h1 h2 => by omega, fun _ _ => rfl, Fr.rf _ _⟩
  · unfold bkW
    rw [if_pos hw]
    exact ⟨⟨b0, b1⟩, fun _ _ _ => rfl, Fr.rf _ _⟩)

def wp_X12_canGo (x1 : Int) (x2 : Int) (σ : Mem) (Q : Int → Mem → Prop) : Prop :=
  (0 ≤ σ 75 1) ∧
   ((¬ (0 ≤ x1 ∧ x1 < σ 75 1)) →
    Q 0 σ) ∧
   ((0 ≤ x1 ∧ x1 < σ 75 1) →
    (0 ≤ σ 75 0) ∧
    ((¬ (0 ≤ x2 ∧ x2 < σ 75 0)) →
     Q 0 σ) ∧
    ((0 ≤ x2 ∧ x2 < σ 75 0) →
     (0 ≤ x1 ∧ x1 < 6) ∧
     (0 ≤ x2 ∧ x2 < 16) ∧
     (((if σ 75 (39 + 4 * x2) = (σ 75 (27 + 2 * x1)) then σ 75 (39 + 4 * x2 + 1) else if σ 75 (39 + 4 * x2 + 1) = (σ 75 (27 + 2 * x1)) then σ 75 (39 + 4 * x2) else -1) = (-1)) →
      Q 0 σ) ∧
     (((if σ 75 (39 + 4 * x2) = (σ 75 (27 + 2 * x1)) then σ 75 (39 + 4 * x2 + 1) else if σ 75 (39 + 4 * x2 + 1) = (σ 75 (27 + 2 * x1)) then σ 75 (39 + 4 * x2) else -1) ≠ (-1)) →
      ∃ g16 : Mem, ∃ g17 : Nat → Txt, (vwM σ g16 g17 ∧ (0 ≤ x1 ∧ x1 < g16 10 1) ∧ (0 ≤ x2 ∧ x2 < g16 10 0)) ∧
      ∀ (u22 : Int) (σ21 : Mem), R32 u22 → OKm σ21 → (u22 = (if skS g16 g17 (g16 10 4) x1 x2 ≤ g16 1 x2 then 1 else 0) ∧ vwM σ21 g16 g17 ∧ Fr F80 σ σ21) →
      ((u22 = 0) →
       Q 0 σ21) ∧
      ((u22 ≠ 0) →
       Q 1 σ21))))
theorem mt_X12_canGo {d : Nat} (hd : 6 ≤ d) {x1 : Int} {x2 : Int} {σ : Mem} {Q : Int → Mem → Prop} (hx1 : R32 x1) (hx2 : R32 x2) (hO : OKm σ) (h : wp_X12_canGo x1 x2 σ Q) : Mt yX12_canGo cX12_canGo 3 (some .boolean) d [aR (74), aI (x1), aI (x2)] σ (QI Q) := by
  refine Mt.intro (by decide +kernel) (Nat.le_of_ble_eq_true rfl) [(0, aR (74)), (1, aI (x1)), (2, aI (x2))] rfl ?_
  unfold wp_X12_canGo at h
  refine G_aload_n 0 rfl rfl dX12_canGo_0 ?_
  refine G_iload_n 1 rfl rfl dX12_canGo_1 ?_
  obtain ⟨c1, h⟩ := h
  refine G_callV (as := [_]) cf_X12_330 rfl rfl rfl (sp_X12_isGoer (d - 1) (by omega) _ hO _ hx1 c1) (by omega) rfl rfl (Nat.le_of_ble_eq_true rfl) dX12_canGo_2 ?_
  rintro _ _ ⟨_, rfl, rfl, rfl⟩ o3 r2
  refine G_if_eq (bI_R _) dX12_canGo_5 (tgt := 43) (by decide) (fun c4 => ?_) (fun c4 => ?_)
  · have h := h.1 ((bI_0 _).mp c4)
    refine G_iconst dX12_canGo_43 ?_
    exact G_zret rfl (by decide) dX12_canGo_44 ⟨_, rfl, h⟩ hO
  · have h := h.2 (bI_ne c4)
    refine G_aload_n 0 rfl rfl dX12_canGo_8 ?_
    refine G_iload_n 2 rfl rfl dX12_canGo_9 ?_
    obtain ⟨c5, h⟩ := h
    refine G_callV (as := [_]) cf_X12_333 rfl rfl rfl (sp_X12_isRoad (d - 1) (by omega) _ hO _ hx2 c5) (by omega) rfl rfl (Nat.le_of_ble_eq_true rfl) dX12_canGo_10 ?_
    rintro _ _ ⟨_, rfl, rfl, rfl⟩ o7 r6
    refine G_if_eq (bI_R _) dX12_canGo_13 (tgt := 43) (by decide) (fun c8 => ?_) (fun c8 => ?_)
    · have h := h.1 ((bI_0 _).mp c8)
      refine G_iconst dX12_canGo_43 ?_
      exact G_zret rfl (by decide) dX12_canGo_44 ⟨_, rfl, h⟩ hO
    · have h := h.2 (bI_ne c8)
      refine G_aload_n 0 rfl rfl dX12_canGo_16 ?_
      refine G_iload_n 2 rfl rfl dX12_canGo_17 ?_
      refine G_aload_n 0 rfl rfl dX12_canGo_18 ?_
      refine G_iload_n 1 rfl rfl dX12_canGo_19 ?_
      obtain ⟨c9, h⟩ := h
      refine G_callV (as := [_]) cf_X12_336 rfl rfl rfl (sp_X12_at0 (d - 1) (by omega) _ hO _ hx1 c9) (by omega) rfl rfl (Nat.le_of_ble_eq_true rfl) dX12_canGo_20 ?_
      rintro _ _ ⟨_, rfl, rfl, rfl⟩ o11 r10
      obtain ⟨c12, h⟩ := h
      refine G_callV (as := [_, _]) cf_X12_339 rfl rfl rfl (sp_X12_other (d - 1) (by omega) _ hO _ hx2 _ (r10 _ rfl) c12) (by omega) rfl rfl (Nat.le_of_ble_eq_true rfl) dX12_canGo_23 ?_
      rintro _ _ ⟨_, rfl, rfl, rfl⟩ o14 r13
      refine G_iconst dX12_canGo_26 ?_
      refine G_icmp_eq (r13 _ rfl) (rL (-1) rfl) dX12_canGo_27 (tgt := 43) (by decide) (fun c15 => ?_) (fun c15 => ?_)
      · have h := h.1 c15
        refine G_iconst dX12_canGo_43 ?_
        exact G_zret rfl (by decide) dX12_canGo_44 ⟨_, rfl, h⟩ hO
      · have h := h.2 c15
        refine G_aload_n 0 rfl rfl dX12_canGo_30 ?_
        refine G_iload_n 1 rfl rfl dX12_canGo_31 ?_
        refine G_iload_n 2 rfl rfl dX12_canGo_32 ?_
        obtain ⟨g16, g17, c18, h⟩ := h
        refine G_callV (as := [_, _]) cf_X12_342 rfl rfl rfl (sp_X12_isThick (d - 1) (by omega) _ hO _ hx1 _ hx2 g16 g17 c18) (by omega) rfl rfl (Nat.le_of_ble_eq_true rfl) dX12_canGo_33 ?_
        rintro _ σ21 ⟨u22, rfl, z23⟩ o20 r19
        have h := h _ _ (r19 _ rfl) o20 z23
        refine G_if_eq (r19 _ rfl) dX12_canGo_36 (tgt := 43) (by decide) (fun c24 => ?_) (fun c24 => ?_)
        · have h := h.1 c24
          refine G_iconst dX12_canGo_43 ?_
          exact G_zret rfl (by decide) dX12_canGo_44 ⟨_, rfl, h⟩ o20
        · have h := h.2 c24
          refine G_iconst dX12_canGo_39 ?_
          refine G_goto (tgt := 44) dX12_canGo_40 (by decide) ?_
          exact G_zret rfl (by decide) dX12_canGo_44 ⟨_, rfl, h⟩ o20

theorem sp_X12_canGo (d : Nat) (hd : 6 ≤ d) (σ : Mem) (hO : OKm σ) (x1 : Int) (hx1 : R32 x1) (x2 : Int) (hx2 : R32 x2) (A : Mem) (tx : Nat → Txt) (hpre : vwM σ A tx) : Mt yX12_canGo cX12_canGo 3 (some .boolean) d [aR (74), aI (x1), aI (x2)] σ (QI (fun v σ' => v = (if canGoV A tx x1 x2 = true then 1 else 0) ∧ vwM σ' A tx ∧ Fr F80 σ σ')) := mt_X12_canGo hd hx1 hx2 hO (by
  unfold wp_X12_canGo
  have hV := hpre
  have hI := hV.2.2.1
  have hnt := hI.1
  have e0 : σ 75 0 = A 10 0 := hV.1.1.1
  have e1 : σ 75 1 = A 10 1 := hV.1.1.2.1
  rw [e0, e1]
  have hno : ∀ τ : Mem, vwM τ A tx ∧ Fr F80 σ τ → canGoV A tx x1 x2 = false → ((0 : Int) = (if canGoV A tx x1 x2 = true then 1 else 0) ∧ vwM τ A tx ∧ Fr F80 σ τ) := fun τ hf h => by rw [h]; exact ⟨by simp, hf⟩
  refine ⟨by omega, fun h => hno σ ⟨hV, Fr.rf _ _⟩ ?_, fun hg => ⟨by omega, fun h => hno σ ⟨hV, Fr.rf _ _⟩ ?_, fun hr => ?_⟩⟩
  · unfold canGoV; rw [decide_eq_false (fun q => h q.1)]; rfl
  · unfold canGoV; rw [decide_eq_false (fun q => h q.2)]; rfl
  have t1 := hV.1.2.1 x2 hr.1 hr.2
  have n2 := hV.2.1.2.2.1 x1 hg.1 hg.2
  have k1 := hI.2.1 x2 hr.1 hr.2
  rw [t1.1, t1.2.1, n2.1]
  refine ⟨by omega, by omega, fun h => hno σ ⟨hV, Fr.rf _ _⟩ ?_, fun h => ⟨A, tx, ⟨hV, hg, hr⟩, ?_⟩⟩
  · have : ¬ (A 11 x2 = A 2 x1 ∨ A 12 x2 = A 2 x1) := fun q => by
      by_cases q1 : A 11 x2 = A 2 x1
      · rw [if_pos q1] at h; omega
      · rw [if_neg q1, if_pos (by omega)] at h; omega
    unfold canGoV canGo; rw [decide_eq_false (p := _ ∧ skS A tx (A 10 4) x1 x2 ≤ A 1 x2) (fun q => this q.1)]; simp
  · have ht : (A 11 x2 = A 2 x1 ∨ A 12 x2 = A 2 x1) := by
      by_cases q1 : A 11 x2 = A 2 x1
      · exact Or.inl q1
      · by_cases q2 : A 12 x2 = A 2 x1
        · exact Or.inr q2
        · rw [if_neg q1, if_neg q2] at h; exact absurd rfl h
    intro u σ1 hu hO1 ⟨eu, hV1, hF⟩
    by_cases h2 : skS A tx (A 10 4) x1 x2 ≤ A 1 x2
    · rw [if_pos h2] at eu
      have : canGoV A tx x1 x2 = true := by unfold canGoV canGo; rw [decide_eq_true ⟨hg, hr⟩, decide_eq_true ⟨ht, h2⟩]; rfl
      rw [this, if_pos rfl]
      exact ⟨fun h => absurd h (by omega), fun _ => ⟨rfl, hV1, hF⟩⟩
    · rw [if_neg h2] at eu
      refine ⟨fun _ => hno σ1 ⟨hV1, hF⟩ ?_, fun h => absurd eu h⟩
      unfold canGoV canGo; rw [decide_eq_false (p := _ ∧ skS A tx (A 10 4) x1 x2 ≤ A 1 x2) (fun q => h2 q.2)]; simp)

def goneW (w : Int) (A : Mem) (tx : Nat → Txt) (g r : Int) : Mem := mset (mset (mset (bkW w A g r (skS A tx (A 10 4) g r)) 1 r (A 1 r - skS A tx (A 10 4) g r)) 2 g (acrS A r (A 2 g))) 3 g (min 9999 (A 3 g + 1))
theorem goneW_1 {w : Int} (h : w ≠ 0) (A : Mem) (tx : Nat → Txt) (g r : Int) : goneW w A tx g r = goneS A tx g r := by
  unfold goneW goneS walkS bkW; rw [if_neg h]
theorem goneW_told {w : Int} {A : Mem} {tx : Nat → Txt} {g r : Int} {q : Nat} (h : 8 ≤ q) : goneW w A tx g r q = A q := by
  unfold goneW bkW
  rw [mset_ne (by omega), mset_ne (by omega), mset_ne (by omega)]
  split
  · rfl
  · exact bkS_off (by omega)
theorem InvA.place {A : Mem} {g v : Int} (h : InvA A) (hv : 0 ≤ v ∧ v ≤ 7) : InvA (mset A 2 g v) := by
  obtain ⟨i0, i1, i2, i3, i4, i5⟩ := h
  refine ⟨by simp (disch := omega) only [mset_off, mset_hit, mset_miss, mcpy_off, mcpy_hit, mcpy_miss, mrow_off, mrow_same]; exact i0, fun q h1 h2 => ?_, fun q h1 h2 => ?_, ?_, fun i h1 h2 => ?_, fun i h1 h2 => ?_⟩
  · simp (disch := omega) only [mset_off] at h2 ⊢; exact i1 q h1 h2
  · simp (disch := omega) only [mset_off] at h2 ⊢
    have := i2 q h1 h2
    by_cases e : q = g
    · subst e; simp (disch := omega) only [mset_hit]; omega
    · simp (disch := omega) only [mset_miss]; exact this
  · simp (disch := omega) only [mset_off]; exact i3
  · simp (disch := omega) only [mset_off] at h2 ⊢; exact i4 i h1 h2
  · simp (disch := omega) only [mset_off] at h2 ⊢; exact i5 i h1 h2
theorem InvA.went {A : Mem} {g v : Int} (h : InvA A) (hv : 0 ≤ v ∧ v ≤ 9999) : InvA (mset A 3 g v) := by
  obtain ⟨i0, i1, i2, i3, i4, i5⟩ := h
  refine ⟨by simp (disch := omega) only [mset_off, mset_hit, mset_miss, mcpy_off, mcpy_hit, mcpy_miss, mrow_off, mrow_same]; exact i0, fun q h1 h2 => ?_, fun q h1 h2 => ?_, ?_, fun i h1 h2 => ?_, fun i h1 h2 => ?_⟩
  · simp (disch := omega) only [mset_off] at h2 ⊢; exact i1 q h1 h2
  · simp (disch := omega) only [mset_off] at h2 ⊢
    have := i2 q h1 h2
    by_cases e : q = g
    · subst e; simp (disch := omega) only [mset_hit]; omega
    · simp (disch := omega) only [mset_miss]; exact this
  · simp (disch := omega) only [mset_off]; exact i3
  · simp (disch := omega) only [mset_off] at h2 ⊢; exact i4 i h1 h2
  · simp (disch := omega) only [mset_off] at h2 ⊢; exact i5 i h1 h2
theorem InvA.gnW {w : Int} {A : Mem} {tx : Nat → Txt} {g r : Int} (h : InvA A) (hg : 0 ≤ g ∧ g < A 10 1) (hr : 0 ≤ r ∧ r < A 10 0) (hc : canGo A tx g r = true) : InvA (goneW w A tx g r) := by
  by_cases hw : w = 0
  · have hc := (of_decide_eq_true hc).2
    have h0 := skS_r (tx := tx) (t := A 10 4) (r := r) h hg
    have k1 := h.2.1 r hr.1 hr.2
    have k2 := h.2.2.1 g hg.1 hg.2
    have k3 := acrS_r (t := A 2 g) h hr
    unfold goneW bkW
    rw [if_pos hw]
    exact ((h.thick (fun _ _ => by omega)).place k3).went (by omega)
  · rw [goneW_1 hw]; exact h.gone hg hr hc
abbrev FGM : List Nat := [74, 75, 80, 81, 82]
def keepM (σ τ : Mem) : Prop := (∀ j : Int, j ≠ 24 → τ 74 j = σ 74 j) ∧ (∀ j : Int, j = 4 ∨ (139 ≤ j ∧ j < 2089) → τ 75 j = σ 75 j) ∧ Fr FGM σ τ
theorem keepM.rf (σ : Mem) : keepM σ σ := ⟨fun _ _ => rfl, fun _ _ => rfl, Fr.rf _ _⟩
theorem keepM.tr {σ τ ρ : Mem} (h : keepM σ τ) (h2 : keepM τ ρ) : keepM σ ρ := ⟨fun j hj => (h2.1 j hj).trans (h.1 j hj), fun j hj => (h2.2.1 j hj).trans (h.2.1 j hj), h.2.2.tr h2.2.2⟩
theorem keepM.of80 {σ τ : Mem} (h : Fr [80, 81, 82] σ τ) : keepM σ τ := ⟨fun j _ => by rw [h 74 (by simp)], fun j _ => by rw [h 75 (by simp)], h.wk (by simp)⟩
theorem bookM_of {σ A : Mem} (h : nowM σ 75 A) : bookM σ A := ⟨h.1.2.2.2.2, h.2.2.2⟩
theorem acr_eq {A : Mem} {g r : Int} (h : A 11 r = A 2 g ∨ A 12 r = A 2 g) : (if A 11 r = A 2 g then A 12 r else if A 12 r = A 2 g then A 11 r else -1) = acrS A r (A 2 g) := by
  unfold acrS
  by_cases q : A 11 r = A 2 g
  · rw [if_pos q, if_pos q]
  · rw [if_neg q, if_neg q, if_pos (by omega)]

def wp_X12_goNow (x1 : Int) (x2 : Int) (σ : Mem) (Q : Int → Mem → Prop) : Prop :=
  ∃ g1 : Mem, ∃ g2 : Nat → Txt, (vwM σ g1 g2 ∧ (-1 ≤ (σ 75 3) ∧ (σ 75 3) < g1 10 2) ∧ (0 ≤ x1 ∧ x1 < g1 10 1) ∧ (0 ≤ x2 ∧ x2 < g1 10 0)) ∧
   ∀ (u7 : Int) (σ6 : Mem), R32 u7 → OKm σ6 → (u7 = skS g1 g2 (σ 75 3) x1 x2 ∧ vwM σ6 g1 g2 ∧ Fr [80, 81, 82] σ σ6) →
   (0 ≤ (11 + x2) ∧ (11 + x2) < 2119) ∧
   (0 ≤ (11 + x2) ∧ (11 + x2) < 2119) ∧
   R32 ((σ6 75 (11 + x2)) - u7) ∧
   ∀ σ12 : Mem, σ12 = mset σ6 75 (11 + x2) ((σ6 75 (11 + x2)) - u7) →
   (0 ≤ x1 ∧ x1 < 6) ∧
   (0 ≤ x2 ∧ x2 < 16) ∧
   (0 ≤ (27 + (2 * x1)) ∧ (27 + (2 * x1)) < 2119) ∧
   ∀ σ22 : Mem, σ22 = mset σ12 75 (27 + (2 * x1)) (if σ12 75 (39 + 4 * x2) = (σ12 75 (27 + 2 * x1)) then σ12 75 (39 + 4 * x2 + 1) else if σ12 75 (39 + 4 * x2 + 1) = (σ12 75 (27 + 2 * x1)) then σ12 75 (39 + 4 * x2) else -1) →
   (0 ≤ x1 ∧ x1 < 6) ∧
   R32 ((σ22 75 (27 + 2 * x1 + 1)) + 1) ∧
   (0 ≤ ((27 + (2 * x1)) + 1) ∧ ((27 + (2 * x1)) + 1) < 2119) ∧
   ∀ σ32 : Mem, σ32 = mset σ22 75 ((27 + (2 * x1)) + 1) (if ((σ22 75 (27 + 2 * x1 + 1)) + 1) < (0 : Int) then (0 : Int) else if ((σ22 75 (27 + 2 * x1 + 1)) + 1) > (9999 : Int) then (9999 : Int) else ((σ22 75 (27 + 2 * x1 + 1)) + 1)) →
   R32 ((σ32 74 24) + 1) ∧
   ∀ σ35 : Mem, σ35 = mset σ32 74 24 ((σ32 74 24) + 1) →
   ∃ g39 : Mem, (bookM σ35 g39 ∧ σ35 75 6 = g39 0 2 ∧ (0 ≤ g39 0 2 ∧ g39 0 2 ≤ 9999) ∧ (0 ≤ g39 0 4 ∧ g39 0 4 ≤ 30) ∧ (0 ≤ x1 ∧ x1 ≤ 5) ∧ (0 ≤ x2 ∧ x2 ≤ 15) ∧ (0 ≤ u7 ∧ u7 ≤ 99)) ∧
   ∀ σ43 : Mem, OKm σ43 → (bookM σ43 (bkW (σ35 74 23) g39 x1 x2 u7) ∧ (∀ j : Int, j ≠ 10 → j < 2089 → σ43 75 j = σ35 75 j) ∧ Fr [75] σ35 σ43) →
   (0 ≤ x1 ∧ x1 < 6) ∧
   Q (σ43 75 (27 + 2 * x1)) σ43
theorem mt_X12_goNow {d : Nat} (hd : 5 ≤ d) {x1 : Int} {x2 : Int} {σ : Mem} {Q : Int → Mem → Prop} (hx1 : R32 x1) (hx2 : R32 x2) (hO : OKm σ) (h : wp_X12_goNow x1 x2 σ Q) : Mt yX12_goNow cX12_goNow 4 (some .int) d [aR (74), aI (x1), aI (x2)] σ (QI Q) := by
  refine Mt.intro (by decide +kernel) (Nat.le_of_ble_eq_true rfl) [(0, aR (74)), (1, aI (x1)), (2, aI (x2))] rfl ?_
  unfold wp_X12_goNow at h
  refine G_aload_n 0 rfl rfl dX12_goNow_0 ?_
  refine G_aload_n 0 rfl rfl dX12_goNow_1 ?_
  refine G_get (k := 0) (kd := (2, 75)) (v := aR 75) gf_X12_7 rfl rfl rfl rfl dX12_goNow_2 ?_
  refine G_iconst dX12_goNow_5 ?_
  refine G_iald (n := 2119) rfl (by decide) (by decide) dX12_goNow_6 ?_
  refine G_iload_n 1 rfl rfl dX12_goNow_7 ?_
  refine G_iload_n 2 rfl rfl dX12_goNow_8 ?_
  obtain ⟨g1, g2, c3, h⟩ := h
  refine G_callV (as := [_, _, _]) cf_X12_327 rfl rfl rfl (sp_X12_sucksOf (d - 1) (by omega) _ hO _ (OKm.i hO 75 3 (isLg_row (show shp 75 = (1, 2119, []) from rfl) _)) _ hx1 _ hx2 g1 g2 c3) (by omega) rfl rfl (Nat.le_of_ble_eq_true rfl) dX12_goNow_9 ?_
  rintro _ σ6 ⟨u7, rfl, z8⟩ o5 r4
  have h := h _ _ (r4 _ rfl) o5 z8
  refine G_istore_n (lv' := [(3, aI (u7)), (0, aR (74)), (1, aI (x1)), (2, aI (x2))]) rfl rfl (by decide) dX12_goNow_12 ?_
  refine G_aload_n 1 rfl rfl dX12_goNow_13 ?_
  refine G_get (k := 0) (kd := (2, 75)) (v := aR 75) gf_X12_7 rfl rfl rfl rfl dX12_goNow_14 ?_
  refine G_bipush (by decide) dX12_goNow_17 ?_
  refine G_iload_n 3 rfl rfl dX12_goNow_19 ?_
  refine G_iadd dX12_goNow_20 ?_
  refine G_dup2 rfl rfl dX12_goNow_21 ?_
  obtain ⟨c9, h⟩ := h
  refine G_iald (n := 2119) rfl c9.1 c9.2 dX12_goNow_22 ?_
  refine G_iload_n 0 rfl rfl dX12_goNow_23 ?_
  refine G_isub dX12_goNow_24 ?_
  obtain ⟨c10, h⟩ := h
  obtain ⟨c11, h⟩ := h
  obtain ⟨σ12, e14⟩ : ∃ τ : Mem, τ = mset σ6 75 (11 + x2) ((σ6 75 (11 + x2)) - u7) := ⟨_, rfl⟩
  have h := h σ12 e14
  have o13 : OKm σ12 := by rw [e14]; exact OKm.seti o5 _ _ _ c11 (isLg_row (show shp 75 = (1, 2119, []) from rfl) _)
  refine G_iast (n := 2119) rfl c10.1 c10.2 dX12_goNow_25 ?_
  rw [← e14]
  refine G_aload_n 1 rfl rfl dX12_goNow_26 ?_
  refine G_get (k := 0) (kd := (2, 75)) (v := aR 75) gf_X12_7 rfl rfl rfl rfl dX12_goNow_27 ?_
  refine G_bipush (by decide) dX12_goNow_30 ?_
  refine G_iconst dX12_goNow_32 ?_
  refine G_iload_n 2 rfl rfl dX12_goNow_33 ?_
  refine G_imul dX12_goNow_34 ?_
  refine G_iadd dX12_goNow_35 ?_
  refine G_aload_n 1 rfl rfl dX12_goNow_36 ?_
  refine G_iload_n 3 rfl rfl dX12_goNow_37 ?_
  refine G_aload_n 1 rfl rfl dX12_goNow_38 ?_
  refine G_iload_n 2 rfl rfl dX12_goNow_39 ?_
  obtain ⟨c15, h⟩ := h
  refine G_callV (as := [_]) cf_X12_336 rfl rfl rfl (sp_X12_at0 (d - 1) (by omega) _ o13 _ hx1 c15) (by omega) rfl rfl (Nat.le_of_ble_eq_true rfl) dX12_goNow_40 ?_
  rintro _ _ ⟨_, rfl, rfl, rfl⟩ o17 r16
  obtain ⟨c18, h⟩ := h
  refine G_callV (as := [_, _]) cf_X12_339 rfl rfl rfl (sp_X12_other (d - 1) (by omega) _ o13 _ hx2 _ (r16 _ rfl) c18) (by omega) rfl rfl (Nat.le_of_ble_eq_true rfl) dX12_goNow_43 ?_
  rintro _ _ ⟨_, rfl, rfl, rfl⟩ o20 r19
  obtain ⟨c21, h⟩ := h
  obtain ⟨σ22, e24⟩ : ∃ τ : Mem, τ = mset σ12 75 (27 + (2 * x1)) (if σ12 75 (39 + 4 * x2) = (σ12 75 (27 + 2 * x1)) then σ12 75 (39 + 4 * x2 + 1) else if σ12 75 (39 + 4 * x2 + 1) = (σ12 75 (27 + 2 * x1)) then σ12 75 (39 + 4 * x2) else -1) := ⟨_, rfl⟩
  have h := h σ22 e24
  have o23 : OKm σ22 := by rw [e24]; exact OKm.seti o13 _ _ _ (r19 _ rfl) (isLg_row (show shp 75 = (1, 2119, []) from rfl) _)
  refine G_iast (n := 2119) rfl c21.1 c21.2 dX12_goNow_46 ?_
  rw [← e24]
  refine G_aload_n 1 rfl rfl dX12_goNow_47 ?_
  refine G_get (k := 0) (kd := (2, 75)) (v := aR 75) gf_X12_7 rfl rfl rfl rfl dX12_goNow_48 ?_
  refine G_bipush (by decide) dX12_goNow_51 ?_
  refine G_iconst dX12_goNow_53 ?_
  refine G_iload_n 2 rfl rfl dX12_goNow_54 ?_
  refine G_imul dX12_goNow_55 ?_
  refine G_iadd dX12_goNow_56 ?_
  refine G_iconst dX12_goNow_57 ?_
  refine G_iadd dX12_goNow_58 ?_
  refine G_aload_n 1 rfl rfl dX12_goNow_59 ?_
  refine G_iload_n 2 rfl rfl dX12_goNow_60 ?_
  obtain ⟨c25, h⟩ := h
  refine G_callV (as := [_]) cf_X12_311 rfl rfl rfl (sp_X12_went (d - 1) (by omega) _ o23 _ hx1 c25) (by omega) rfl rfl (Nat.le_of_ble_eq_true rfl) dX12_goNow_61 ?_
  rintro _ _ ⟨_, rfl, rfl, rfl⟩ o27 r26
  refine G_iconst dX12_goNow_64 ?_
  refine G_iadd dX12_goNow_65 ?_
  obtain ⟨c28, h⟩ := h
  refine G_i2l c28 dX12_goNow_66 ?_
  refine G_iconst dX12_goNow_67 ?_
  refine G_sipush (by decide) dX12_goNow_68 ?_
  refine G_callS (as := [_, _, _]) cf_X12_301 rfl (sp_X12_held (d - 1) (by omega) _ o23 _ (r32_64 c28) _ (rL 0 rfl) _ (rL 9999 rfl)) (by omega) rfl rfl (Nat.le_of_ble_eq_true rfl) dX12_goNow_71 ?_
  rintro _ _ ⟨_, rfl, rfl, rfl⟩ o30 r29
  obtain ⟨c31, h⟩ := h
  obtain ⟨σ32, e34⟩ : ∃ τ : Mem, τ = mset σ22 75 ((27 + (2 * x1)) + 1) (if ((σ22 75 (27 + 2 * x1 + 1)) + 1) < (0 : Int) then (0 : Int) else if ((σ22 75 (27 + 2 * x1 + 1)) + 1) > (9999 : Int) then (9999 : Int) else ((σ22 75 (27 + 2 * x1 + 1)) + 1)) := ⟨_, rfl⟩
  have h := h σ32 e34
  have o33 : OKm σ32 := by rw [e34]; exact OKm.seti o23 _ _ _ (r29 _ rfl) (isLg_row (show shp 75 = (1, 2119, []) from rfl) _)
  refine G_iast (n := 2119) rfl c31.1 c31.2 dX12_goNow_74 ?_
  rw [← e34]
  refine G_aload_n 1 rfl rfl dX12_goNow_75 ?_
  refine G_dup rfl dX12_goNow_76 ?_
  refine G_get (k := 24) (kd := (0, 0)) (v := aI (σ32 74 24)) gf_X12_345 rfl rfl rfl rfl dX12_goNow_77 ?_
  refine G_iconst dX12_goNow_80 ?_
  refine G_iadd dX12_goNow_81 ?_
  obtain ⟨c36, h⟩ := h
  obtain ⟨σ35, e38⟩ : ∃ τ : Mem, τ = mset σ32 74 24 ((σ32 74 24) + 1) := ⟨_, rfl⟩
  have h := h σ35 e38
  have o37 : OKm σ35 := by rw [e38]; exact OKm.seti o33 _ _ _ c36 rfl
  refine G_put (k := 24) (ki := 24) (kd := (0, 0)) (x := _) pf_X12_345 rfl rfl rfl rfl (fa_i (mset_self _ _ _ _)) (fun _ => rfl) (fun _ => rfl) dX12_goNow_82 ?_
  rw [← e38]
  refine G_aload_n 1 rfl rfl dX12_goNow_85 ?_
  refine G_iload_n 2 rfl rfl dX12_goNow_86 ?_
  refine G_iload_n 3 rfl rfl dX12_goNow_87 ?_
  refine G_iload_n 0 rfl rfl dX12_goNow_88 ?_
  obtain ⟨g39, c40, h⟩ := h
  refine G_callV (as := [_, _, _]) cf_X12_348 rfl rfl rfl (sp_X12_write (d - 1) (by omega) _ o37 _ hx1 _ hx2 _ (r4 _ rfl) g39 c40) (by omega) rfl rfl (Nat.le_of_ble_eq_true rfl) dX12_goNow_89 ?_
  rintro _ σ43 ⟨rfl, z45⟩ o42 r41
  have h := h _ o42 z45
  refine G_aload_n 1 rfl rfl dX12_goNow_92 ?_
  refine G_iload_n 2 rfl rfl dX12_goNow_93 ?_
  obtain ⟨c46, h⟩ := h
  refine G_callV (as := [_]) cf_X12_336 rfl rfl rfl (sp_X12_at0 (d - 1) (by omega) _ o42 _ hx1 c46) (by omega) rfl rfl (Nat.le_of_ble_eq_true rfl) dX12_goNow_94 ?_
  rintro _ _ ⟨_, rfl, rfl, rfl⟩ o48 r47
  exact G_iret rfl (r47 _ rfl) dX12_goNow_97 ⟨_, rfl, h⟩ o42

theorem sp_X12_goNow (d : Nat) (hd : 5 ≤ d) (σ : Mem) (hO : OKm σ) (x1 : Int) (hx1 : R32 x1) (x2 : Int) (hx2 : R32 x2) (A : Mem) (tx : Nat → Txt) (hpre : vwM σ A tx ∧ (0 ≤ x1 ∧ x1 < A 10 1) ∧ (0 ≤ x2 ∧ x2 < A 10 0) ∧ canGo A tx x1 x2 = true ∧ (0 ≤ σ 74 24 ∧ σ 74 24 < 1000000000)) : Mt yX12_goNow cX12_goNow 4 (some .int) d [aR (74), aI (x1), aI (x2)] σ (QI (fun v σ' => v = acrS A x2 (A 2 x1) ∧ vwM σ' (goneW (σ 74 23) A tx x1 x2) tx ∧ σ' 74 24 = σ 74 24 + 1 ∧ keepM σ σ')) := mt_X12_goNow hd hx1 hx2 hO (by
  unfold wp_X12_goNow
  obtain ⟨hV, hg, hr, hc, hgo⟩ := hpre
  have hI := hV.2.2.1
  have hnt := hI.1
  rw [vwM_tx hV]
  have hsk := skS_r (tx := tx) (t := A 10 4) (r := x2) hI hg
  have k1 := hI.2.1 x2 hr.1 hr.2
  have k2 := hI.2.2.1 x1 hg.1 hg.2
  have k4 := hI.2.2.2.1
  have hc2 := of_decide_eq_true hc
  refine ⟨A, tx, ⟨hV, by omega, hg, hr⟩, ?_⟩
  intro u σ6 hu hO6 ⟨eu, hV6, hF6⟩
  have n1 := hV6.2.1.2.1 x2 hr.1 hr.2
  rw [n1, eu]
  refine ⟨by omega, by omega, by unfold R32; omega, ?_⟩
  intro σ12 e12
  have t1 := hV6.1.2.1 x2 hr.1 hr.2
  have n2 := hV6.2.1.2.2.1 x1 hg.1 hg.2
  have f1 : σ12 75 (39 + 4 * x2) = A 11 x2 := by rw [e12, mset_miss (by omega)]; exact t1.1
  have f2 : σ12 75 (39 + 4 * x2 + 1) = A 12 x2 := by rw [e12, mset_miss (by omega)]; exact t1.2.1
  have f3 : σ12 75 (27 + 2 * x1) = A 2 x1 := by rw [e12, mset_miss (by omega)]; exact n2.1
  rw [f1, f2, f3, acr_eq hc2.1]
  refine ⟨by omega, by omega, by omega, ?_⟩
  intro σ22 e22
  have f4 : σ22 75 (27 + 2 * x1 + 1) = A 3 x1 := by rw [e22, mset_miss (by omega), e12, mset_miss (by omega)]; exact n2.2
  rw [f4]
  refine ⟨by omega, by unfold R32; omega, by omega, ?_⟩
  intro σ32 e32
  have f5 : σ32 74 24 = σ 74 24 := by rw [e32, mset_off (by omega), e22, mset_off (by omega), e12, mset_off (by omega), hF6 74 (by simp)]
  rw [f5]
  refine ⟨by unfold R32; omega, ?_⟩
  intro σ35 e35
  have e3h : (if A 3 x1 + 1 < (0 : Int) then (0 : Int) else if A 3 x1 + 1 > (9999 : Int) then (9999 : Int) else A 3 x1 + 1) = min 9999 (A 3 x1 + 1) := by
    (repeat' split) <;> omega
  rw [e3h] at e32
  have g75 : ∀ j : Int, j ≠ 11 + x2 → j ≠ 27 + 2 * x1 → j ≠ 27 + 2 * x1 + 1 → σ35 75 j = σ6 75 j := fun j h1 h2 h3 => by
    rw [e35, mset_off (by omega), e32, mset_miss h3, e22, mset_miss h2, e12, mset_miss h1]
  have g74 : ∀ j : Int, j ≠ 24 → σ35 74 j = σ 74 j := fun j h1 => by
    rw [e35, mset_miss h1, e32, mset_off (by omega), e22, mset_off (by omega), e12, mset_off (by omega), hF6 74 (by simp)]
  have hF35 : Fr FGM σ σ35 := by
    rw [e35, e32, e22, e12]; exact ((((hF6.wk (by simp)).set (by simp)).set (by simp)).set (by simp)).set (by simp)
  have hb6 := bookM_of hV6.2.1
  refine ⟨A, ⟨⟨by rw [g75 10 (by omega) (by omega) (by omega)]; exact hb6.1, fun i h1 h2 => by rw [g75 _ (by omega) (by omega) (by omega)]; exact hb6.2 i h1 h2⟩, by rw [g75 6 (by omega) (by omega) (by omega)]; exact hV6.2.1.1.1, by omega, by omega, by omega, by omega, hsk⟩, ?_⟩
  intro σ43 hO43 ⟨hb, hlow, hF43⟩
  rw [g74 23 (by omega)] at hb
  have q75 : ∀ j : Int, j ≠ 10 → j < 2089 → j ≠ 11 + x2 → j ≠ 27 + 2 * x1 → j ≠ 27 + 2 * x1 + 1 → σ43 75 j = σ6 75 j := fun j h0 h00 h1 h2 h3 => (hlow j h0 h00).trans (g75 j h1 h2 h3)
  have q74 : σ43 74 = σ35 74 := hF43 74 (by simp)
  have v1 : σ43 75 (11 + x2) = A 1 x2 - skS A tx (A 10 4) x1 x2 := by
    rw [hlow _ (by omega) (by omega), e35, mset_off (by omega), e32, mset_miss (by omega), e22, mset_miss (by omega), e12, mset_hit rfl]
  have v2 : σ43 75 (27 + 2 * x1) = acrS A x2 (A 2 x1) := by
    rw [hlow _ (by omega) (by omega), e35, mset_off (by omega), e32, mset_miss (by omega), e22, mset_hit rfl]
  have v3 : σ43 75 (27 + 2 * x1 + 1) = min 9999 (A 3 x1 + 1) := by
    rw [hlow _ (by omega) (by omega), e35, mset_off (by omega), e32, mset_hit rfl]
  have hF : Fr FGM σ σ43 := hF35.tr (hF43.wk (by simp))
  refine ⟨by omega, v2, ?_, by rw [q74, e35, mset_hit rfl], fun j hj => by rw [q74]; exact g74 j hj, fun j hj => ?_, hF⟩
  rotate_left
  · rw [q75 j (by omega) (by omega) (by omega) (by omega) (by omega), hF6 75 (by simp)]
  have hbk : ∀ q : Nat, q ≠ 0 ∧ q ≠ 4 ∧ q ≠ 5 ∧ q ≠ 6 ∧ q ≠ 7 → bkW (σ 74 23) A x1 x2 (skS A tx (A 10 4) x1 x2) q = A q := fun q hq => by
    unfold bkW; split
    · rfl
    · exact bkS_off hq
  have hbk0 : ∀ j : Int, j ≠ 4 → bkW (σ 74 23) A x1 x2 (skS A tx (A 10 4) x1 x2) 0 j = A 0 j := fun j hj => by
    unfold bkW; split
    · rfl
    · exact bkS_0 hj
  have hT43 : toldM σ43 75 A := toldM_low hV6.1 (by omega) (fun i hi => q75 i (by omega) (by omega) (by omega) (by omega) (by omega))
  have c0 := hV6.2.1.1
  refine ⟨toldM_same hT43 (fun q hq => goneW_told hq), ?_, hI.gnW hg hr hc, fun i hi => ?_, ?_⟩
  · unfold goneW
    refine ⟨?_, fun r h1 h2 => ?_, fun g h1 h2 => ?_, fun i h1 h2 => ?_⟩
    · simp (disch := omega) only [mset_off]
      rw [hbk0 2 (by omega), hbk0 3 (by omega), hbk0 1 (by omega), hbk0 0 (by omega), q75 6 (by omega) (by omega) (by omega) (by omega) (by omega), q75 7 (by omega) (by omega) (by omega) (by omega) (by omega), q75 8 (by omega) (by omega) (by omega) (by omega) (by omega), q75 9 (by omega) (by omega) (by omega) (by omega) (by omega)]
      exact ⟨c0.1, c0.2.1, c0.2.2.1, c0.2.2.2.1, hb.1⟩
    · simp (disch := omega) only [mset_off] at h2 ⊢
      rw [hbk 10 (by omega)] at h2
      by_cases e : r = x2
      · subst e; rw [mset_hit rfl]; exact v1
      · rw [mset_miss e, hbk 1 (by omega), q75 _ (by omega) (by omega) (by omega) (by omega) (by omega)]; exact hV6.2.1.2.1 r h1 h2
    · simp (disch := omega) only [mset_off] at h2 ⊢
      rw [hbk 10 (by omega)] at h2
      by_cases e : g = x1
      · subst e; rw [mset_hit rfl, mset_hit rfl]; exact ⟨v2, v3⟩
      · rw [mset_miss e, mset_miss e, mset_off (by omega), mset_off (by omega), mset_off (by omega), hbk 2 (by omega), hbk 3 (by omega), q75 _ (by omega) (by omega) (by omega) (by omega) (by omega), q75 _ (by omega) (by omega) (by omega) (by omega) (by omega)]; exact hV6.2.1.2.2.1 g h1 h2
    · have hx : bkM (mset (mset (mset (bkW (σ 74 23) A x1 x2 (skS A tx (A 10 4) x1 x2)) 1 x2 (A 1 x2 - skS A tx (A 10 4) x1 x2)) 2 x1 (acrS A x2 (A 2 x1))) 3 x1 (min 9999 (A 3 x1 + 1))) i = bkM (bkW (σ 74 23) A x1 x2 (skS A tx (A 10 4) x1 x2)) i := by
        unfold bkM; simp (disch := omega) only [mset_off]
      rw [hx]
      simp (disch := omega) only [mset_off] at h2
      exact hb.2 i h1 h2
  · rw [goneW_told (by omega)] at hi
    exact (hV6.2.2.2.1 i hi).congr (by omega) (fun j _ _ => by rw [hF43 77 (by simp), e35, mset_off (by omega), e32, mset_off (by omega), e22, mset_off (by omega), e12, mset_off (by omega)])
  · intro k h1 h2
    rw [hF43 80 (by simp), e35, mset_off (by omega), e32, mset_off (by omega), e22, mset_off (by omega), e12, mset_off (by omega)]
    exact hV6.2.2.2.2 k h1 h2)

theorem canGoV_in {A : Mem} {tx : Nat → Txt} {g r : Int} (hg : 0 ≤ g ∧ g < A 10 1) (hr : 0 ≤ r ∧ r < A 10 0) : canGoV A tx g r = canGo A tx g r := by
  unfold canGoV; rw [decide_eq_true ⟨hg, hr⟩]; rfl
theorem bOr_0 {x : Int} (h : R32 x) : bOr x 0 = x := by
  unfold bOr
  rw [show (Int32.ofInt 0 : Int32) = 0 from rfl, Int32.or_zero, r32_toInt h]

def wp_X12_roadsFor (x1 : Int) (σ : Mem) (Q : Int → Mem → Prop) : Prop :=
 ∀ P4 : Int → Int → Int → Mem → Prop,
 (∀ (v1 : Int) (v2 : Int) (v3 : Int) (σ : Mem), (R32 v1 → R32 v2 → R32 v3 → OKm σ →
   (((σ 75 0) ≤ v3) →
     Q v2 σ) ∧
    ((v3 < (σ 75 0)) →
     ∃ g2 : Mem, ∃ g3 : Nat → Txt, (vwM σ g2 g3) ∧
     ∀ (u8 : Int) (σ7 : Mem), R32 u8 → OKm σ7 → (u8 = (if canGoV g2 g3 v1 v3 = true then 1 else 0) ∧ vwM σ7 g2 g3 ∧ Fr F80 σ σ7) →
     ((u8 = 0) →
      R32 (v3 + 1) ∧ P4 v1 (bOr v2 0) (v3 + 1) σ7) ∧
     ((u8 ≠ 0) →
      R32 (v3 + 1) ∧ P4 v1 (bOr v2 (bShl 1 v3)) (v3 + 1) σ7))) → P4 v1 v2 v3 σ) →
  P4 x1 0 0 σ
theorem mt_X12_roadsFor {d : Nat} (hd : 7 ≤ d) {x1 : Int} {σ : Mem} {Q : Int → Mem → Prop} (hx1 : R32 x1) (hO : OKm σ) (h : wp_X12_roadsFor x1 σ Q) : Mt yX12_roadsFor cX12_roadsFor 4 (some .int) d [aR (74), aI (x1)] σ (QI Q) := by
  refine Mt.intro (by decide +kernel) (Nat.le_of_ble_eq_true rfl) [(0, aR (74)), (1, aI (x1))] rfl ?_
  unfold wp_X12_roadsFor at h
  have h := h (fun (v1 : Int) (v2 : Int) (v3 : Int) (σ : Mem) => R32 v1 → R32 v2 → R32 v3 → OKm σ → G yX12_roadsFor cX12_roadsFor 4 (some .int) d (QI Q) 4 [(0, aR (74)), (1, aI (v1)), (2, aI (v2)), (3, aI (v3))] [] σ) ?_
  · refine G_iconst dX12_roadsFor_0 ?_
    refine G_istore_n (lv' := [(2, aI (0)), (0, aR (74)), (1, aI (x1))]) rfl rfl (by decide) dX12_roadsFor_1 ?_
    refine G_iconst dX12_roadsFor_2 ?_
    refine G_istore_n (lv' := [(3, aI (0)), (2, aI (0)), (0, aR (74)), (1, aI (x1))]) rfl rfl (by decide) dX12_roadsFor_3 ?_
    exact G_pick [2, 3, 1, 0] rfl (h hx1 (rL 0 rfl) (rL 0 rfl) hO)
  · intro v1 v2 v3 σ h hv1 hv2 hv3 hO
    have h := h hv1 hv2 hv3 hO
    refine G_iload_n 3 rfl rfl dX12_roadsFor_4 ?_
    refine G_aload_n 0 rfl rfl dX12_roadsFor_5 ?_
    refine G_get (k := 0) (kd := (2, 75)) (v := aR 75) gf_X12_7 rfl rfl rfl rfl dX12_roadsFor_6 ?_
    refine G_iconst dX12_roadsFor_9 ?_
    refine G_iald (n := 2119) rfl (by decide) (by decide) dX12_roadsFor_10 ?_
    refine G_icmp_ge hv3 (OKm.i hO 75 0 (isLg_row (show shp 75 = (1, 2119, []) from rfl) _)) dX12_roadsFor_11 (tgt := 39) (by decide) (fun c1 => ?_) (fun c1 => ?_)
    · have h := h.1 c1
      refine G_iload_n 2 rfl rfl dX12_roadsFor_39 ?_
      exact G_iret rfl hv2 dX12_roadsFor_40 ⟨_, rfl, h⟩ hO
    · have h := h.2 c1
      refine G_iload_n 2 rfl rfl dX12_roadsFor_14 ?_
      refine G_aload_n 0 rfl rfl dX12_roadsFor_15 ?_
      refine G_iload_n 1 rfl rfl dX12_roadsFor_16 ?_
      refine G_iload_n 3 rfl rfl dX12_roadsFor_17 ?_
      obtain ⟨g2, g3, c4, h⟩ := h
      refine G_callV (as := [_, _]) cf_X12_352 rfl rfl rfl (sp_X12_canGo (d - 1) (by omega) _ hO _ hv1 _ hv3 g2 g3 c4) (by omega) rfl rfl (Nat.le_of_ble_eq_true rfl) dX12_roadsFor_18 ?_
      rintro _ σ7 ⟨u8, rfl, z9⟩ o6 r5
      have h := h _ _ (r5 _ rfl) o6 z9
      refine G_if_eq (r5 _ rfl) dX12_roadsFor_21 (tgt := 30) (by decide) (fun c10 => ?_) (fun c10 => ?_)
      · have h := h.1 c10
        refine G_iconst dX12_roadsFor_30 ?_
        refine G_ior dX12_roadsFor_31 ?_
        refine G_istore_n (lv' := [(2, aI ((bOr v2 0))), (0, aR (74)), (1, aI (v1)), (3, aI (v3))]) rfl rfl (by decide) dX12_roadsFor_32 ?_
        refine G_iinc (lv' := [(3, aI ((v3 + 1))), (2, aI ((bOr v2 0))), (0, aR (74)), (1, aI (v1))]) (k := 3) rfl rfl (by decide) dX12_roadsFor_33 ?_
        refine G_goto (tgt := 4) dX12_roadsFor_36 (by decide) ?_
        obtain ⟨c11, h⟩ := h
        exact G_pick [2, 3, 1, 0] rfl (h hv1 (r32_of _) c11 o6)
      · have h := h.2 c10
        refine G_iconst dX12_roadsFor_24 ?_
        refine G_iload_n 3 rfl rfl dX12_roadsFor_25 ?_
        refine G_ishl dX12_roadsFor_26 ?_
        refine G_goto (tgt := 31) dX12_roadsFor_27 (by decide) ?_
        refine G_ior dX12_roadsFor_31 ?_
        refine G_istore_n (lv' := [(2, aI ((bOr v2 (bShl 1 v3)))), (0, aR (74)), (1, aI (v1)), (3, aI (v3))]) rfl rfl (by decide) dX12_roadsFor_32 ?_
        refine G_iinc (lv' := [(3, aI ((v3 + 1))), (2, aI ((bOr v2 (bShl 1 v3)))), (0, aR (74)), (1, aI (v1))]) (k := 3) rfl rfl (by decide) dX12_roadsFor_33 ?_
        refine G_goto (tgt := 4) dX12_roadsFor_36 (by decide) ?_
        obtain ⟨c12, h⟩ := h
        exact G_pick [2, 3, 1, 0] rfl (h hv1 (r32_of _) c12 o6)

theorem sp_X12_roadsFor (d : Nat) (hd : 7 ≤ d) (σ : Mem) (hO : OKm σ) (x1 : Int) (hx1 : R32 x1) (A : Mem) (tx : Nat → Txt) (hpre : vwM σ A tx ∧ (0 ≤ x1 ∧ x1 < A 10 1)) : Mt yX12_roadsFor cX12_roadsFor 4 (some .int) d [aR (74), aI (x1)] σ (QI (fun v σ' => v = opS A tx x1 ∧ vwM σ' A tx ∧ Fr F80 σ σ')) := mt_X12_roadsFor hd hx1 hO (by
  unfold wp_X12_roadsFor
  intro P4 h4
  obtain ⟨hV, hg⟩ := hpre
  have hIA := hV.2.2.1
  have hns := hIA.1
  have H : ∀ (n : Nat) (k : Int) (o : Int) (τ : Mem), k + n = A 10 0 → (0 ≤ k ∧ o = opN A tx x1 k.toNat ∧ vwM τ A tx ∧ Fr F80 σ τ) → P4 x1 o k τ := by
    intro n
    induction n with
    | zero =>
      intro k o τ hk hI
      refine h4 _ _ _ _ (fun _ _ _ hOt => ?_)
      refine ⟨fun hh => ?_, fun hh => absurd hh (by rw [hI.2.2.1.1.1.1]; omega)⟩
      have : k = A 10 0 := by omega
      subst this
      exact ⟨hI.2.1, hI.2.2⟩
    | succ n ih =>
      intro k o τ hk hI
      refine h4 _ _ _ _ (fun _ _ _ hOt => ?_)
      refine ⟨fun hh => absurd hh (by rw [hI.2.2.1.1.1.1]; omega), fun hh => ?_⟩
      have hr := opN_r A tx x1 k.toNat
      have hR : R32 (k + 1) := by unfold R32; omega
      refine ⟨A, tx, hI.2.2.1, ?_⟩
      intro u σ1 hu hO1 ⟨eu, hV1, hF⟩
      rw [canGoV_in hg (by omega)] at eu
      cases hc : canGo A tx x1 k with
      | false =>
        rw [hc] at eu
        have eu : u = 0 := by simpa using eu
        refine ⟨fun h2 => ⟨hR, ih _ _ _ (by omega) ⟨by omega, ?_, hV1, hI.2.2.2.tr hF⟩⟩, fun h2 => absurd eu h2⟩
        have hR2 : R32 o := by assumption
        rw [bOr_0 hR2, opN_f (by omega) hc, hI.2.1]
      | true =>
        rw [hc, if_pos rfl] at eu
        refine ⟨fun h2 => absurd h2 (by omega), fun h2 => ⟨hR, ih _ _ _ (by omega) ⟨by omega, ?_, hV1, hI.2.2.2.tr hF⟩⟩⟩
        rw [opN_t (by omega) hc, hI.2.1, bOr_bit hr.1 (by omega) (by omega) hr.2]
  exact H (A 10 0).toNat 0 0 σ (by omega) ⟨by omega, rfl, hV, Fr.rf _ _⟩)
