theorem tmodP {a b : Int} (h : 0 ≤ a) : Int.tmod a b = a % b := Int.tmod_eq_emod_of_nonneg h
theorem tdivP {a b : Int} (h : 0 ≤ a) : Int.tdiv a b = a / b := Int.tdiv_eq_ediv_of_nonneg h
def nxt (x : Int) : Int := (x * 547 + 421) % 30727
theorem nxt_r (x : Int) : 0 ≤ nxt x ∧ nxt x ≤ 30726 := by unfold nxt; omega

def wp_X6_draw (x1 : Int) (σ : Mem) (Q : Int → Mem → Prop) : Prop :=
  ((x1 ≤ 0) →
    R32 (((σ 10 8) * 547) + 421) ∧
    R32 (Int.tmod (((σ 10 8) * 547) + 421) 30727) ∧
    ∀ σ3 : Mem, σ3 = mset σ 10 8 (Int.tmod (((σ 10 8) * 547) + 421) 30727) →
    Q 0 σ3) ∧
   ((0 < x1) →
    (x1 ≠ 0) ∧
    R32 (((σ 10 8) * 547) + 421) ∧
    R32 (Int.tmod (((σ 10 8) * 547) + 421) 30727) ∧
    ∀ σ9 : Mem, σ9 = mset σ 10 8 (Int.tmod (((σ 10 8) * 547) + 421) 30727) →
    R32 (Int.tmod (σ 10 8) x1) ∧
    Q (Int.tmod (σ 10 8) x1) σ9)
theorem mt_X6_draw {d : Nat} (hd : 0 ≤ d) {x1 : Int} {σ : Mem} {Q : Int → Mem → Prop} (hx1 : R32 x1) (hO : OKm σ) (h : wp_X6_draw x1 σ Q) : Mt yX6_draw cX6_draw 3 (some .int) d [aR (10), aI (x1)] σ (QI Q) := by
  refine Mt.intro (by decide +kernel) (Nat.le_of_ble_eq_true rfl) [(0, aR (10)), (1, aI (x1))] rfl ?_
  unfold wp_X6_draw at h
  refine G_iload_n 1 rfl rfl dX6_draw_0 ?_
  refine G_if_le hx1 dX6_draw_1 (tgt := 13) (by decide) (fun c1 => ?_) (fun c1 => ?_)
  · have h := h.1 c1
    refine G_iconst dX6_draw_13 ?_
    refine G_istore_n (lv' := [(2, aI (0)), (0, aR (10)), (1, aI (x1))]) rfl rfl (by decide) dX6_draw_14 ?_
    refine G_aload_n 1 rfl rfl dX6_draw_15 ?_
    refine G_aload_n 1 rfl rfl dX6_draw_16 ?_
    refine G_get (k := 8) (kd := (0, 0)) (v := aI (σ 10 8)) gf_X6_37 rfl rfl rfl rfl dX6_draw_17 ?_
    refine G_sipush (by decide) dX6_draw_20 ?_
    refine G_imul dX6_draw_23 ?_
    refine G_sipush (by decide) dX6_draw_24 ?_
    refine G_iadd dX6_draw_27 ?_
    refine G_sipush (by decide) dX6_draw_28 ?_
    obtain ⟨c2, h⟩ := h
    refine G_irem c2 (rL 30727 rfl) (by decide) dX6_draw_31 ?_
    obtain ⟨c4, h⟩ := h
    obtain ⟨σ3, e6⟩ : ∃ τ : Mem, τ = mset σ 10 8 (Int.tmod (((σ 10 8) * 547) + 421) 30727) := ⟨_, rfl⟩
    have h := h σ3 e6
    have o5 : OKm σ3 := by rw [e6]; exact OKm.seti hO _ _ _ c4 rfl
    refine G_put (k := 8) (ki := 8) (kd := (0, 0)) (x := _) pf_X6_37 rfl rfl rfl rfl (fa_i (mset_self _ _ _ _)) (fun _ => rfl) (fun _ => rfl) dX6_draw_32 ?_
    rw [← e6]
    refine G_iload_n 0 rfl rfl dX6_draw_35 ?_
    exact G_iret rfl (rL 0 rfl) dX6_draw_36 ⟨_, rfl, h⟩ o5
  · have h := h.2 c1
    refine G_aload_n 0 rfl rfl dX6_draw_4 ?_
    refine G_get (k := 8) (kd := (0, 0)) (v := aI (σ 10 8)) gf_X6_37 rfl rfl rfl rfl dX6_draw_5 ?_
    refine G_iload_n 1 rfl rfl dX6_draw_8 ?_
    obtain ⟨c7, h⟩ := h
    refine G_irem (OKm.i hO 10 8 rfl) hx1 c7 dX6_draw_9 ?_
    refine G_goto (tgt := 14) dX6_draw_10 (by decide) ?_
    refine G_istore_n (lv' := [(2, aI ((Int.tmod (σ 10 8) x1))), (0, aR (10)), (1, aI (x1))]) rfl rfl (by decide) dX6_draw_14 ?_
    refine G_aload_n 1 rfl rfl dX6_draw_15 ?_
    refine G_aload_n 1 rfl rfl dX6_draw_16 ?_
    refine G_get (k := 8) (kd := (0, 0)) (v := aI (σ 10 8)) gf_X6_37 rfl rfl rfl rfl dX6_draw_17 ?_
    refine G_sipush (by decide) dX6_draw_20 ?_
    refine G_imul dX6_draw_23 ?_
    refine G_sipush (by decide) dX6_draw_24 ?_
    refine G_iadd dX6_draw_27 ?_
    refine G_sipush (by decide) dX6_draw_28 ?_
    obtain ⟨c8, h⟩ := h
    refine G_irem c8 (rL 30727 rfl) (by decide) dX6_draw_31 ?_
    obtain ⟨c10, h⟩ := h
    obtain ⟨σ9, e12⟩ : ∃ τ : Mem, τ = mset σ 10 8 (Int.tmod (((σ 10 8) * 547) + 421) 30727) := ⟨_, rfl⟩
    have h := h σ9 e12
    have o11 : OKm σ9 := by rw [e12]; exact OKm.seti hO _ _ _ c10 rfl
    refine G_put (k := 8) (ki := 8) (kd := (0, 0)) (x := _) pf_X6_37 rfl rfl rfl rfl (fa_i (mset_self _ _ _ _)) (fun _ => rfl) (fun _ => rfl) dX6_draw_32 ?_
    rw [← e12]
    refine G_iload_n 0 rfl rfl dX6_draw_35 ?_
    obtain ⟨c13, h⟩ := h
    exact G_iret rfl c13 dX6_draw_36 ⟨_, rfl, h⟩ o11

theorem sp_X6_draw (d : Nat) (hd : 0 ≤ d) (σ : Mem) (hO : OKm σ) (x1 : Int) (hx1 : R32 x1) (hpre : 0 ≤ σ 10 8 ∧ σ 10 8 ≤ 30726) : Mt yX6_draw cX6_draw 3 (some .int) d [aR (10), aI (x1)] σ (QI (fun v σ' => v = (if 0 < x1 then σ 10 8 % x1 else 0) ∧ σ' = (mset σ 10 8 (nxt (σ 10 8))))) := mt_X6_draw hd hx1 hO (by
  unfold wp_X6_draw
  have e1 := tmodP (a := σ 10 8) (b := x1) hpre.1
  have e2 := tmodP (a := σ 10 8 * 547 + 421) (b := 30727) (by omega)
  have hb : 0 < x1 → 0 ≤ σ 10 8 % x1 ∧ σ 10 8 % x1 < x1 := fun h => ⟨Int.emod_nonneg _ (by omega), Int.emod_lt_of_pos _ h⟩
  unfold R32 at *
  unfold nxt
  rw [e1, e2]
  grind)

def wp_X6_sow (x1 : Int) (σ : Mem) (Q : Mem → Prop) : Prop :=
  R32 ((x1 * 2) + 283) ∧
   ∀ σ1 : Mem, σ1 = mset σ 10 8 ((x1 * 2) + 283) →
   Q σ1
theorem mt_X6_sow {d : Nat} (hd : 0 ≤ d) {x1 : Int} {σ : Mem} {Q : Mem → Prop} (hx1 : R32 x1) (hO : OKm σ) (h : wp_X6_sow x1 σ Q) : Mt yX6_sow cX6_sow 2 none d [aR (10), aI (x1)] σ (QV Q) := by
  refine Mt.intro (by decide +kernel) (Nat.le_of_ble_eq_true rfl) [(0, aR (10)), (1, aI (x1))] rfl ?_
  unfold wp_X6_sow at h
  refine G_aload_n 0 rfl rfl dX6_sow_0 ?_
  refine G_iload_n 1 rfl rfl dX6_sow_1 ?_
  refine G_iconst dX6_sow_2 ?_
  refine G_imul dX6_sow_3 ?_
  refine G_sipush (by decide) dX6_sow_4 ?_
  refine G_iadd dX6_sow_7 ?_
  obtain ⟨c2, h⟩ := h
  obtain ⟨σ1, e4⟩ : ∃ τ : Mem, τ = mset σ 10 8 ((x1 * 2) + 283) := ⟨_, rfl⟩
  have h := h σ1 e4
  have o3 : OKm σ1 := by rw [e4]; exact OKm.seti hO _ _ _ c2 rfl
  refine G_put (k := 8) (ki := 8) (kd := (0, 0)) (x := _) pf_X6_37 rfl rfl rfl rfl (fa_i (mset_self _ _ _ _)) (fun _ => rfl) (fun _ => rfl) dX6_sow_8 ?_
  rw [← e4]
  exact G_vret rfl dX6_sow_11 ⟨rfl, h⟩ o3

theorem sp_X6_sow (d : Nat) (hd : 0 ≤ d) (σ : Mem) (hO : OKm σ) (x1 : Int) (hx1 : R32 x1) (hpre : 0 ≤ x1 ∧ x1 ≤ 9999) : Mt yX6_sow cX6_sow 2 none d [aR (10), aI (x1)] σ (QV (fun σ' => σ' = (mset σ 10 8 (x1 * 2 + 283)))) := mt_X6_sow hd hx1 hO (by
  unfold wp_X6_sow
  unfold R32 at *
  grind)

def wp_X6_keep_k (x2 : Int) (σ : Mem) (Q : Mem → Prop) : Prop :=
  ((x2 < 0) →
    Q σ) ∧
   ((0 ≤ x2) →
    ((x2 ≤ (65 - 65)) →
     ((0 : Int) ≤ 0 ∧ (0 : Int) ≤ x2 ∧ (0 : Int) ≤ 16 ∧ (0 + 16 : Int) ≤ 16 ∧ (x2 + 16 : Int) ≤ 65) ∧
     ∀ σ4 : Mem, σ4 = mcpy σ 11 0 39 x2 16 →
     ((0 : Int) ≤ 0 ∧ (0 : Int) ≤ (x2 + 16) ∧ (0 : Int) ≤ 6 ∧ (0 + 6 : Int) ≤ 6 ∧ ((x2 + 16) + 6 : Int) ≤ 65) ∧
     ∀ σ8 : Mem, σ8 = mcpy σ4 12 0 39 (x2 + 16) 6 →
     ((0 : Int) ≤ 0 ∧ (0 : Int) ≤ (x2 + 22) ∧ (0 : Int) ≤ 6 ∧ (0 + 6 : Int) ≤ 6 ∧ ((x2 + 22) + 6 : Int) ≤ 65) ∧
     ∀ σ12 : Mem, σ12 = mcpy σ8 13 0 39 (x2 + 22) 6 →
     ((0 : Int) ≤ 0 ∧ (0 : Int) ≤ (x2 + 28) ∧ (0 : Int) ≤ 30 ∧ (0 + 30 : Int) ≤ 30 ∧ ((x2 + 28) + 30 : Int) ≤ 65) ∧
     ∀ σ16 : Mem, σ16 = mcpy σ12 14 0 39 (x2 + 28) 30 →
     (0 ≤ (x2 + 58) ∧ (x2 + 58) < 65) ∧
     ∀ σ20 : Mem, σ20 = mset σ16 39 (x2 + 58) (σ16 10 5) →
     (0 ≤ (x2 + 59) ∧ (x2 + 59) < 65) ∧
     ∀ σ24 : Mem, σ24 = mset σ20 39 (x2 + 59) (σ20 10 6) →
     (0 ≤ (x2 + 60) ∧ (x2 + 60) < 65) ∧
     ∀ σ28 : Mem, σ28 = mset σ24 39 (x2 + 60) (σ24 10 7) →
     (0 ≤ (x2 + 61) ∧ (x2 + 61) < 65) ∧
     ∀ σ32 : Mem, σ32 = mset σ28 39 (x2 + 61) (σ28 10 8) →
     (0 ≤ (x2 + 62) ∧ (x2 + 62) < 65) ∧
     ∀ σ36 : Mem, σ36 = mset σ32 39 (x2 + 62) (σ32 10 4) →
     (0 ≤ (x2 + 63) ∧ (x2 + 63) < 65) ∧
     ∀ σ40 : Mem, σ40 = mset σ36 39 (x2 + 63) (σ36 1 8) →
     (0 ≤ (x2 + 64) ∧ (x2 + 64) < 65) ∧
     ∀ σ44 : Mem, σ44 = mset σ40 39 (x2 + 64) (σ40 1 9) →
     Q σ44) ∧
    (((65 - 65) < x2) →
     Q σ))
theorem mt_X6_keep_k {d : Nat} (hd : 0 ≤ d) {x2 : Int} {σ : Mem} {Q : Mem → Prop} (hx2 : R32 x2) (hO : OKm σ) (h : wp_X6_keep_k x2 σ Q) : Mt yX6_keep cX6_keep 4 none d [aR (10), aR (39), aI (x2), aR (1)] σ (QV Q) := by
  refine Mt.intro (by decide +kernel) (Nat.le_of_ble_eq_true rfl) [(0, aR (10)), (1, aR (39)), (2, aI (x2)), (3, aR (1))] rfl ?_
  unfold wp_X6_keep_k at h
  refine G_iload_n 2 rfl rfl dX6_keep_0 ?_
  refine G_if_lt hx2 dX6_keep_1 (tgt := 13) (by decide) (fun c1 => ?_) (fun c1 => ?_)
  · have h := h.1 c1
    exact G_vret rfl dX6_keep_13 ⟨rfl, h⟩ hO
  · have h := h.2 c1
    refine G_iload_n 2 rfl rfl dX6_keep_4 ?_
    refine G_aload_n 1 rfl rfl dX6_keep_5 ?_
    refine G_alen (v := 65) (n := 65) rfl (by decide) (by decide) rfl dX6_keep_6 ?_
    refine G_bipush (by decide) dX6_keep_7 ?_
    refine G_isub dX6_keep_9 ?_
    refine G_icmp_le hx2 (rL (65 - 65) rfl) dX6_keep_10 (tgt := 14) (by decide) (fun c2 => ?_) (fun c2 => ?_)
    · have h := h.1 c2
      refine G_aload_n 0 rfl rfl dX6_keep_14 ?_
      refine G_get (k := 0) (kd := (3, 1)) (v := aR (11)) gf_X6_11 rfl rfl rfl rfl dX6_keep_15 ?_
      refine G_iconst dX6_keep_18 ?_
      refine G_aload_n 1 rfl rfl dX6_keep_19 ?_
      refine G_iload_n 2 rfl rfl dX6_keep_20 ?_
      refine G_aload_n 0 rfl rfl dX6_keep_21 ?_
      refine G_get (k := 0) (kd := (3, 1)) (v := aR (11)) gf_X6_11 rfl rfl rfl rfl dX6_keep_22 ?_
      refine G_alen (v := 16) (n := 16) rfl (by decide) (by decide) rfl dX6_keep_25 ?_
      obtain ⟨c3, h⟩ := h
      obtain ⟨σ4, e6⟩ : ∃ τ : Mem, τ = mcpy σ 11 0 39 x2 16 := ⟨_, rfl⟩
      have h := h σ4 e6
      have o5 : OKm σ4 := by rw [e6]; exact OKm.cpy hO (isLg_row (show shp 11 = (1, 16, []) from rfl)) (isLg_row (show shp 39 = (1, 65, []) from rfl))
      refine G_copy rfl (show shp 11 = (1, 16, []) from rfl) (show shp 39 = (1, 65, []) from rfl) (by decide) (by decide) c3.1 c3.2.1 c3.2.2.1 c3.2.2.2.1 c3.2.2.2.2 (Nat.le_of_ble_eq_true rfl) sf_X6_46 dX6_keep_26 ?_
      rw [← e6]
      refine G_aload_n 0 rfl rfl dX6_keep_29 ?_
      refine G_get (k := 1) (kd := (3, 2)) (v := aR (12)) gf_X6_15 rfl rfl rfl rfl dX6_keep_30 ?_
      refine G_iconst dX6_keep_33 ?_
      refine G_aload_n 1 rfl rfl dX6_keep_34 ?_
      refine G_iload_n 2 rfl rfl dX6_keep_35 ?_
      refine G_bipush (by decide) dX6_keep_36 ?_
      refine G_iadd dX6_keep_38 ?_
      refine G_aload_n 0 rfl rfl dX6_keep_39 ?_
      refine G_get (k := 1) (kd := (3, 2)) (v := aR (12)) gf_X6_15 rfl rfl rfl rfl dX6_keep_40 ?_
      refine G_alen (v := 6) (n := 6) rfl (by decide) (by decide) rfl dX6_keep_43 ?_
      obtain ⟨c7, h⟩ := h
      obtain ⟨σ8, e10⟩ : ∃ τ : Mem, τ = mcpy σ4 12 0 39 (x2 + 16) 6 := ⟨_, rfl⟩
      have h := h σ8 e10
      have o9 : OKm σ8 := by rw [e10]; exact OKm.cpy o5 (isLg_row (show shp 12 = (1, 6, []) from rfl)) (isLg_row (show shp 39 = (1, 65, []) from rfl))
      refine G_copy rfl (show shp 12 = (1, 6, []) from rfl) (show shp 39 = (1, 65, []) from rfl) (by decide) (by decide) c7.1 c7.2.1 c7.2.2.1 c7.2.2.2.1 c7.2.2.2.2 (Nat.le_of_ble_eq_true rfl) sf_X6_46 dX6_keep_44 ?_
      rw [← e10]
      refine G_aload_n 0 rfl rfl dX6_keep_47 ?_
      refine G_get (k := 2) (kd := (3, 3)) (v := aR (13)) gf_X6_18 rfl rfl rfl rfl dX6_keep_48 ?_
      refine G_iconst dX6_keep_51 ?_
      refine G_aload_n 1 rfl rfl dX6_keep_52 ?_
      refine G_iload_n 2 rfl rfl dX6_keep_53 ?_
      refine G_bipush (by decide) dX6_keep_54 ?_
      refine G_iadd dX6_keep_56 ?_
      refine G_aload_n 0 rfl rfl dX6_keep_57 ?_
      refine G_get (k := 2) (kd := (3, 3)) (v := aR (13)) gf_X6_18 rfl rfl rfl rfl dX6_keep_58 ?_
      refine G_alen (v := 6) (n := 6) rfl (by decide) (by decide) rfl dX6_keep_61 ?_
      obtain ⟨c11, h⟩ := h
      obtain ⟨σ12, e14⟩ : ∃ τ : Mem, τ = mcpy σ8 13 0 39 (x2 + 22) 6 := ⟨_, rfl⟩
      have h := h σ12 e14
      have o13 : OKm σ12 := by rw [e14]; exact OKm.cpy o9 (isLg_row (show shp 13 = (1, 6, []) from rfl)) (isLg_row (show shp 39 = (1, 65, []) from rfl))
      refine G_copy rfl (show shp 13 = (1, 6, []) from rfl) (show shp 39 = (1, 65, []) from rfl) (by decide) (by decide) c11.1 c11.2.1 c11.2.2.1 c11.2.2.2.1 c11.2.2.2.2 (Nat.le_of_ble_eq_true rfl) sf_X6_46 dX6_keep_62 ?_
      rw [← e14]
      refine G_aload_n 0 rfl rfl dX6_keep_65 ?_
      refine G_get (k := 3) (kd := (3, 4)) (v := aR (14)) gf_X6_21 rfl rfl rfl rfl dX6_keep_66 ?_
      refine G_iconst dX6_keep_69 ?_
      refine G_aload_n 1 rfl rfl dX6_keep_70 ?_
      refine G_iload_n 2 rfl rfl dX6_keep_71 ?_
      refine G_bipush (by decide) dX6_keep_72 ?_
      refine G_iadd dX6_keep_74 ?_
      refine G_aload_n 0 rfl rfl dX6_keep_75 ?_
      refine G_get (k := 3) (kd := (3, 4)) (v := aR (14)) gf_X6_21 rfl rfl rfl rfl dX6_keep_76 ?_
      refine G_alen (v := 30) (n := 30) rfl (by decide) (by decide) rfl dX6_keep_79 ?_
      obtain ⟨c15, h⟩ := h
      obtain ⟨σ16, e18⟩ : ∃ τ : Mem, τ = mcpy σ12 14 0 39 (x2 + 28) 30 := ⟨_, rfl⟩
      have h := h σ16 e18
      have o17 : OKm σ16 := by rw [e18]; exact OKm.cpy o13 (isLg_row (show shp 14 = (1, 30, []) from rfl)) (isLg_row (show shp 39 = (1, 65, []) from rfl))
      refine G_copy rfl (show shp 14 = (1, 30, []) from rfl) (show shp 39 = (1, 65, []) from rfl) (by decide) (by decide) c15.1 c15.2.1 c15.2.2.1 c15.2.2.2.1 c15.2.2.2.2 (Nat.le_of_ble_eq_true rfl) sf_X6_46 dX6_keep_80 ?_
      rw [← e18]
      refine G_aload_n 1 rfl rfl dX6_keep_83 ?_
      refine G_iload_n 2 rfl rfl dX6_keep_84 ?_
      refine G_bipush (by decide) dX6_keep_85 ?_
      refine G_iadd dX6_keep_87 ?_
      refine G_aload_n 0 rfl rfl dX6_keep_88 ?_
      refine G_get (k := 5) (kd := (0, 0)) (v := aI (σ16 10 5)) gf_X6_28 rfl rfl rfl rfl dX6_keep_89 ?_
      obtain ⟨c19, h⟩ := h
      obtain ⟨σ20, e22⟩ : ∃ τ : Mem, τ = mset σ16 39 (x2 + 58) (σ16 10 5) := ⟨_, rfl⟩
      have h := h σ20 e22
      have o21 : OKm σ20 := by rw [e22]; exact OKm.seti o17 _ _ _ (OKm.i o17 10 5 rfl) (isLg_row (show shp 39 = (1, 65, []) from rfl) _)
      refine G_iast (n := 65) rfl c19.1 c19.2 dX6_keep_92 ?_
      rw [← e22]
      refine G_aload_n 1 rfl rfl dX6_keep_93 ?_
      refine G_iload_n 2 rfl rfl dX6_keep_94 ?_
      refine G_bipush (by decide) dX6_keep_95 ?_
      refine G_iadd dX6_keep_97 ?_
      refine G_aload_n 0 rfl rfl dX6_keep_98 ?_
      refine G_get (k := 6) (kd := (0, 0)) (v := aI (σ20 10 6)) gf_X6_31 rfl rfl rfl rfl dX6_keep_99 ?_
      obtain ⟨c23, h⟩ := h
      obtain ⟨σ24, e26⟩ : ∃ τ : Mem, τ = mset σ20 39 (x2 + 59) (σ20 10 6) := ⟨_, rfl⟩
      have h := h σ24 e26
      have o25 : OKm σ24 := by rw [e26]; exact OKm.seti o21 _ _ _ (OKm.i o21 10 6 rfl) (isLg_row (show shp 39 = (1, 65, []) from rfl) _)
      refine G_iast (n := 65) rfl c23.1 c23.2 dX6_keep_102 ?_
      rw [← e26]
      refine G_aload_n 1 rfl rfl dX6_keep_103 ?_
      refine G_iload_n 2 rfl rfl dX6_keep_104 ?_
      refine G_bipush (by decide) dX6_keep_105 ?_
      refine G_iadd dX6_keep_107 ?_
      refine G_aload_n 0 rfl rfl dX6_keep_108 ?_
      refine G_get (k := 7) (kd := (0, 0)) (v := aI (σ24 10 7)) gf_X6_34 rfl rfl rfl rfl dX6_keep_109 ?_
      obtain ⟨c27, h⟩ := h
      obtain ⟨σ28, e30⟩ : ∃ τ : Mem, τ = mset σ24 39 (x2 + 60) (σ24 10 7) := ⟨_, rfl⟩
      have h := h σ28 e30
      have o29 : OKm σ28 := by rw [e30]; exact OKm.seti o25 _ _ _ (OKm.i o25 10 7 rfl) (isLg_row (show shp 39 = (1, 65, []) from rfl) _)
      refine G_iast (n := 65) rfl c27.1 c27.2 dX6_keep_112 ?_
      rw [← e30]
      refine G_aload_n 1 rfl rfl dX6_keep_113 ?_
      refine G_iload_n 2 rfl rfl dX6_keep_114 ?_
      refine G_bipush (by decide) dX6_keep_115 ?_
      refine G_iadd dX6_keep_117 ?_
      refine G_aload_n 0 rfl rfl dX6_keep_118 ?_
      refine G_get (k := 8) (kd := (0, 0)) (v := aI (σ28 10 8)) gf_X6_37 rfl rfl rfl rfl dX6_keep_119 ?_
      obtain ⟨c31, h⟩ := h
      obtain ⟨σ32, e34⟩ : ∃ τ : Mem, τ = mset σ28 39 (x2 + 61) (σ28 10 8) := ⟨_, rfl⟩
      have h := h σ32 e34
      have o33 : OKm σ32 := by rw [e34]; exact OKm.seti o29 _ _ _ (OKm.i o29 10 8 rfl) (isLg_row (show shp 39 = (1, 65, []) from rfl) _)
      refine G_iast (n := 65) rfl c31.1 c31.2 dX6_keep_122 ?_
      rw [← e34]
      refine G_aload_n 1 rfl rfl dX6_keep_123 ?_
      refine G_iload_n 2 rfl rfl dX6_keep_124 ?_
      refine G_bipush (by decide) dX6_keep_125 ?_
      refine G_iadd dX6_keep_127 ?_
      refine G_aload_n 0 rfl rfl dX6_keep_128 ?_
      refine G_get (k := 4) (kd := (0, 0)) (v := aI (σ32 10 4)) gf_X6_24 rfl rfl rfl rfl dX6_keep_129 ?_
      obtain ⟨c35, h⟩ := h
      obtain ⟨σ36, e38⟩ : ∃ τ : Mem, τ = mset σ32 39 (x2 + 62) (σ32 10 4) := ⟨_, rfl⟩
      have h := h σ36 e38
      have o37 : OKm σ36 := by rw [e38]; exact OKm.seti o33 _ _ _ (OKm.i o33 10 4 rfl) (isLg_row (show shp 39 = (1, 65, []) from rfl) _)
      refine G_iast (n := 65) rfl c35.1 c35.2 dX6_keep_132 ?_
      rw [← e38]
      refine G_aload_n 1 rfl rfl dX6_keep_133 ?_
      refine G_iload_n 2 rfl rfl dX6_keep_134 ?_
      refine G_bipush (by decide) dX6_keep_135 ?_
      refine G_iadd dX6_keep_137 ?_
      refine G_aload_n 3 rfl rfl dX6_keep_138 ?_
      refine G_get (k := 8) (kd := (0, 0)) (v := aI (σ36 1 8)) gf_X6_52 rfl rfl rfl rfl dX6_keep_139 ?_
      obtain ⟨c39, h⟩ := h
      obtain ⟨σ40, e42⟩ : ∃ τ : Mem, τ = mset σ36 39 (x2 + 63) (σ36 1 8) := ⟨_, rfl⟩
      have h := h σ40 e42
      have o41 : OKm σ40 := by rw [e42]; exact OKm.seti o37 _ _ _ (OKm.i o37 1 8 rfl) (isLg_row (show shp 39 = (1, 65, []) from rfl) _)
      refine G_iast (n := 65) rfl c39.1 c39.2 dX6_keep_142 ?_
      rw [← e42]
      refine G_aload_n 1 rfl rfl dX6_keep_143 ?_
      refine G_iload_n 2 rfl rfl dX6_keep_144 ?_
      refine G_bipush (by decide) dX6_keep_145 ?_
      refine G_iadd dX6_keep_147 ?_
      refine G_aload_n 3 rfl rfl dX6_keep_148 ?_
      refine G_get (k := 9) (kd := (0, 0)) (v := aI (σ40 1 9)) gf_X6_57 rfl rfl rfl rfl dX6_keep_149 ?_
      obtain ⟨c43, h⟩ := h
      obtain ⟨σ44, e46⟩ : ∃ τ : Mem, τ = mset σ40 39 (x2 + 64) (σ40 1 9) := ⟨_, rfl⟩
      have h := h σ44 e46
      have o45 : OKm σ44 := by rw [e46]; exact OKm.seti o41 _ _ _ (OKm.i o41 1 9 rfl) (isLg_row (show shp 39 = (1, 65, []) from rfl) _)
      refine G_iast (n := 65) rfl c43.1 c43.2 dX6_keep_152 ?_
      rw [← e46]
      exact G_vret rfl dX6_keep_153 ⟨rfl, h⟩ o45
    · have h := h.2 c2
      exact G_vret rfl dX6_keep_13 ⟨rfl, h⟩ hO

theorem sp_X6_keep_k (d : Nat) (hd : 0 ≤ d) (σ : Mem) (hO : OKm σ) (x2 : Int) (hx2 : R32 x2) (A : Mem) (hpre : nowC σ A ∧ σ 1 8 = A 10 0 ∧ σ 1 9 = A 10 1 ∧ Cnt A ∧ (0 ≤ x2 ∧ x2 + 65 ≤ 65)) : Mt yX6_keep cX6_keep 4 none d [aR (10), aR (39), aI (x2), aR (1)] σ (QV (fun σ' => rowC σ' 39 x2 A ∧ Fr [39] σ σ' ∧ ∀ i : Int, (i < x2 ∨ x2 + 65 ≤ i) → σ' 39 i = σ 39 i)) := mt_X6_keep_k hd hx2 hO (by
  unfold wp_X6_keep_k
  have hr1 := hO.i 1 8 rfl
  have hr2 := hO.i 1 9 rfl
  obtain ⟨⟨hN0, hN1, hN2, hN3⟩, h18, h19, hC, hx⟩ := hpre
  unfold Cnt at hC
  unfold R32 at *
  refine ⟨fun h => ?_, fun h => ⟨fun h2 => ?_, fun h2 => ?_⟩⟩
  · omega
  rotate_left
  · omega
  repeat' (first | (intro _ e; subst e) | (refine And.intro ?_ ?_; first | omega | (simp (disch := omega) only [mset_off, mset_hit, mset_miss, mcpy_off, mcpy_hit, mcpy_miss, mrow_off, mrow_same]; omega)))
  refine ⟨⟨?_, fun r h1 h2 => ?_, fun g h1 h2 => ?_, fun i h1 h2 => ?_⟩, ?_, fun i hi => ?_⟩
  · simp (disch := omega) only [mset_off, mset_hit, mset_miss, mcpy_off, mcpy_hit, mcpy_miss, mrow_off, mrow_same]
    exact ⟨hN0.1, hN0.2.1, hN0.2.2.1, hN0.2.2.2.1, hN0.2.2.2.2, h18, h19⟩
  · simp (disch := omega) only [mset_off, mset_hit, mset_miss, mcpy_off, mcpy_hit, mcpy_miss, mrow_off, mrow_same]
    rw [← hN1 r h1 h2]; congr 1; omega
  · simp (disch := omega) only [mset_off, mset_hit, mset_miss, mcpy_off, mcpy_hit, mcpy_miss, mrow_off, mrow_same]
    rw [← (hN2 g h1 h2).1, ← (hN2 g h1 h2).2]
    constructor <;> (congr 1; omega)
  · simp (disch := omega) only [mset_off, mset_hit, mset_miss, mcpy_off, mcpy_hit, mcpy_miss, mrow_off, mrow_same]
    rw [← hN3 i h1 h2]; congr 1; omega
  · intro q hq
    have hq : q ≠ 39 := by simpa using hq
    funext j
    simp (disch := omega) only [mset_off, mset_hit, mset_miss, mcpy_off, mcpy_hit, mcpy_miss, mrow_off, mrow_same]
  · simp (disch := omega) only [mset_off, mset_hit, mset_miss, mcpy_off, mcpy_hit, mcpy_miss, mrow_off, mrow_same])

def wp_X6_keep_i (x2 : Int) (σ : Mem) (Q : Mem → Prop) : Prop :=
  ((x2 < 0) →
    Q σ) ∧
   ((0 ≤ x2) →
    ((x2 ≤ (65 - 65)) →
     ((0 : Int) ≤ 0 ∧ (0 : Int) ≤ x2 ∧ (0 : Int) ≤ 16 ∧ (0 + 16 : Int) ≤ 16 ∧ (x2 + 16 : Int) ≤ 65) ∧
     ∀ σ4 : Mem, σ4 = mcpy σ 11 0 26 x2 16 →
     ((0 : Int) ≤ 0 ∧ (0 : Int) ≤ (x2 + 16) ∧ (0 : Int) ≤ 6 ∧ (0 + 6 : Int) ≤ 6 ∧ ((x2 + 16) + 6 : Int) ≤ 65) ∧
     ∀ σ8 : Mem, σ8 = mcpy σ4 12 0 26 (x2 + 16) 6 →
     ((0 : Int) ≤ 0 ∧ (0 : Int) ≤ (x2 + 22) ∧ (0 : Int) ≤ 6 ∧ (0 + 6 : Int) ≤ 6 ∧ ((x2 + 22) + 6 : Int) ≤ 65) ∧
     ∀ σ12 : Mem, σ12 = mcpy σ8 13 0 26 (x2 + 22) 6 →
     ((0 : Int) ≤ 0 ∧ (0 : Int) ≤ (x2 + 28) ∧ (0 : Int) ≤ 30 ∧ (0 + 30 : Int) ≤ 30 ∧ ((x2 + 28) + 30 : Int) ≤ 65) ∧
     ∀ σ16 : Mem, σ16 = mcpy σ12 14 0 26 (x2 + 28) 30 →
     (0 ≤ (x2 + 58) ∧ (x2 + 58) < 65) ∧
     ∀ σ20 : Mem, σ20 = mset σ16 26 (x2 + 58) (σ16 10 5) →
     (0 ≤ (x2 + 59) ∧ (x2 + 59) < 65) ∧
     ∀ σ24 : Mem, σ24 = mset σ20 26 (x2 + 59) (σ20 10 6) →
     (0 ≤ (x2 + 60) ∧ (x2 + 60) < 65) ∧
     ∀ σ28 : Mem, σ28 = mset σ24 26 (x2 + 60) (σ24 10 7) →
     (0 ≤ (x2 + 61) ∧ (x2 + 61) < 65) ∧
     ∀ σ32 : Mem, σ32 = mset σ28 26 (x2 + 61) (σ28 10 8) →
     (0 ≤ (x2 + 62) ∧ (x2 + 62) < 65) ∧
     ∀ σ36 : Mem, σ36 = mset σ32 26 (x2 + 62) (σ32 10 4) →
     (0 ≤ (x2 + 63) ∧ (x2 + 63) < 65) ∧
     ∀ σ40 : Mem, σ40 = mset σ36 26 (x2 + 63) (σ36 1 8) →
     (0 ≤ (x2 + 64) ∧ (x2 + 64) < 65) ∧
     ∀ σ44 : Mem, σ44 = mset σ40 26 (x2 + 64) (σ40 1 9) →
     Q σ44) ∧
    (((65 - 65) < x2) →
     Q σ))
theorem mt_X6_keep_i {d : Nat} (hd : 0 ≤ d) {x2 : Int} {σ : Mem} {Q : Mem → Prop} (hx2 : R32 x2) (hO : OKm σ) (h : wp_X6_keep_i x2 σ Q) : Mt yX6_keep cX6_keep 4 none d [aR (10), aR (26), aI (x2), aR (1)] σ (QV Q) := by
  refine Mt.intro (by decide +kernel) (Nat.le_of_ble_eq_true rfl) [(0, aR (10)), (1, aR (26)), (2, aI (x2)), (3, aR (1))] rfl ?_
  unfold wp_X6_keep_i at h
  refine G_iload_n 2 rfl rfl dX6_keep_0 ?_
  refine G_if_lt hx2 dX6_keep_1 (tgt := 13) (by decide) (fun c1 => ?_) (fun c1 => ?_)
  · have h := h.1 c1
    exact G_vret rfl dX6_keep_13 ⟨rfl, h⟩ hO
  · have h := h.2 c1
    refine G_iload_n 2 rfl rfl dX6_keep_4 ?_
    refine G_aload_n 1 rfl rfl dX6_keep_5 ?_
    refine G_alen (v := 65) (n := 65) rfl (by decide) (by decide) rfl dX6_keep_6 ?_
    refine G_bipush (by decide) dX6_keep_7 ?_
    refine G_isub dX6_keep_9 ?_
    refine G_icmp_le hx2 (rL (65 - 65) rfl) dX6_keep_10 (tgt := 14) (by decide) (fun c2 => ?_) (fun c2 => ?_)
    · have h := h.1 c2
      refine G_aload_n 0 rfl rfl dX6_keep_14 ?_
      refine G_get (k := 0) (kd := (3, 1)) (v := aR (11)) gf_X6_11 rfl rfl rfl rfl dX6_keep_15 ?_
      refine G_iconst dX6_keep_18 ?_
      refine G_aload_n 1 rfl rfl dX6_keep_19 ?_
      refine G_iload_n 2 rfl rfl dX6_keep_20 ?_
      refine G_aload_n 0 rfl rfl dX6_keep_21 ?_
      refine G_get (k := 0) (kd := (3, 1)) (v := aR (11)) gf_X6_11 rfl rfl rfl rfl dX6_keep_22 ?_
      refine G_alen (v := 16) (n := 16) rfl (by decide) (by decide) rfl dX6_keep_25 ?_
      obtain ⟨c3, h⟩ := h
      obtain ⟨σ4, e6⟩ : ∃ τ : Mem, τ = mcpy σ 11 0 26 x2 16 := ⟨_, rfl⟩
      have h := h σ4 e6
      have o5 : OKm σ4 := by rw [e6]; exact OKm.cpy hO (isLg_row (show shp 11 = (1, 16, []) from rfl)) (isLg_row (show shp 26 = (1, 65, []) from rfl))
      refine G_copy rfl (show shp 11 = (1, 16, []) from rfl) (show shp 26 = (1, 65, []) from rfl) (by decide) (by decide) c3.1 c3.2.1 c3.2.2.1 c3.2.2.2.1 c3.2.2.2.2 (Nat.le_of_ble_eq_true rfl) sf_X6_46 dX6_keep_26 ?_
      rw [← e6]
      refine G_aload_n 0 rfl rfl dX6_keep_29 ?_
      refine G_get (k := 1) (kd := (3, 2)) (v := aR (12)) gf_X6_15 rfl rfl rfl rfl dX6_keep_30 ?_
      refine G_iconst dX6_keep_33 ?_
      refine G_aload_n 1 rfl rfl dX6_keep_34 ?_
      refine G_iload_n 2 rfl rfl dX6_keep_35 ?_
      refine G_bipush (by decide) dX6_keep_36 ?_
      refine G_iadd dX6_keep_38 ?_
      refine G_aload_n 0 rfl rfl dX6_keep_39 ?_
      refine G_get (k := 1) (kd := (3, 2)) (v := aR (12)) gf_X6_15 rfl rfl rfl rfl dX6_keep_40 ?_
      refine G_alen (v := 6) (n := 6) rfl (by decide) (by decide) rfl dX6_keep_43 ?_
      obtain ⟨c7, h⟩ := h
      obtain ⟨σ8, e10⟩ : ∃ τ : Mem, τ = mcpy σ4 12 0 26 (x2 + 16) 6 := ⟨_, rfl⟩
      have h := h σ8 e10
      have o9 : OKm σ8 := by rw [e10]; exact OKm.cpy o5 (isLg_row (show shp 12 = (1, 6, []) from rfl)) (isLg_row (show shp 26 = (1, 65, []) from rfl))
      refine G_copy rfl (show shp 12 = (1, 6, []) from rfl) (show shp 26 = (1, 65, []) from rfl) (by decide) (by decide) c7.1 c7.2.1 c7.2.2.1 c7.2.2.2.1 c7.2.2.2.2 (Nat.le_of_ble_eq_true rfl) sf_X6_46 dX6_keep_44 ?_
      rw [← e10]
      refine G_aload_n 0 rfl rfl dX6_keep_47 ?_
      refine G_get (k := 2) (kd := (3, 3)) (v := aR (13)) gf_X6_18 rfl rfl rfl rfl dX6_keep_48 ?_
      refine G_iconst dX6_keep_51 ?_
      refine G_aload_n 1 rfl rfl dX6_keep_52 ?_
      refine G_iload_n 2 rfl rfl dX6_keep_53 ?_
      refine G_bipush (by decide) dX6_keep_54 ?_
      refine G_iadd dX6_keep_56 ?_
      refine G_aload_n 0 rfl rfl dX6_keep_57 ?_
      refine G_get (k := 2) (kd := (3, 3)) (v := aR (13)) gf_X6_18 rfl rfl rfl rfl dX6_keep_58 ?_
      refine G_alen (v := 6) (n := 6) rfl (by decide) (by decide) rfl dX6_keep_61 ?_
      obtain ⟨c11, h⟩ := h
      obtain ⟨σ12, e14⟩ : ∃ τ : Mem, τ = mcpy σ8 13 0 26 (x2 + 22) 6 := ⟨_, rfl⟩
      have h := h σ12 e14
      have o13 : OKm σ12 := by rw [e14]; exact OKm.cpy o9 (isLg_row (show shp 13 = (1, 6, []) from rfl)) (isLg_row (show shp 26 = (1, 65, []) from rfl))
      refine G_copy rfl (show shp 13 = (1, 6, []) from rfl) (show shp 26 = (1, 65, []) from rfl) (by decide) (by decide) c11.1 c11.2.1 c11.2.2.1 c11.2.2.2.1 c11.2.2.2.2 (Nat.le_of_ble_eq_true rfl) sf_X6_46 dX6_keep_62 ?_
      rw [← e14]
      refine G_aload_n 0 rfl rfl dX6_keep_65 ?_
      refine G_get (k := 3) (kd := (3, 4)) (v := aR (14)) gf_X6_21 rfl rfl rfl rfl dX6_keep_66 ?_
      refine G_iconst dX6_keep_69 ?_
      refine G_aload_n 1 rfl rfl dX6_keep_70 ?_
      refine G_iload_n 2 rfl rfl dX6_keep_71 ?_
      refine G_bipush (by decide) dX6_keep_72 ?_
      refine G_iadd dX6_keep_74 ?_
      refine G_aload_n 0 rfl rfl dX6_keep_75 ?_
      refine G_get (k := 3) (kd := (3, 4)) (v := aR (14)) gf_X6_21 rfl rfl rfl rfl dX6_keep_76 ?_
      refine G_alen (v := 30) (n := 30) rfl (by decide) (by decide) rfl dX6_keep_79 ?_
      obtain ⟨c15, h⟩ := h
      obtain ⟨σ16, e18⟩ : ∃ τ : Mem, τ = mcpy σ12 14 0 26 (x2 + 28) 30 := ⟨_, rfl⟩
      have h := h σ16 e18
      have o17 : OKm σ16 := by rw [e18]; exact OKm.cpy o13 (isLg_row (show shp 14 = (1, 30, []) from rfl)) (isLg_row (show shp 26 = (1, 65, []) from rfl))
      refine G_copy rfl (show shp 14 = (1, 30, []) from rfl) (show shp 26 = (1, 65, []) from rfl) (by decide) (by decide) c15.1 c15.2.1 c15.2.2.1 c15.2.2.2.1 c15.2.2.2.2 (Nat.le_of_ble_eq_true rfl) sf_X6_46 dX6_keep_80 ?_
      rw [← e18]
      refine G_aload_n 1 rfl rfl dX6_keep_83 ?_
      refine G_iload_n 2 rfl rfl dX6_keep_84 ?_
      refine G_bipush (by decide) dX6_keep_85 ?_
      refine G_iadd dX6_keep_87 ?_
      refine G_aload_n 0 rfl rfl dX6_keep_88 ?_
      refine G_get (k := 5) (kd := (0, 0)) (v := aI (σ16 10 5)) gf_X6_28 rfl rfl rfl rfl dX6_keep_89 ?_
      obtain ⟨c19, h⟩ := h
      obtain ⟨σ20, e22⟩ : ∃ τ : Mem, τ = mset σ16 26 (x2 + 58) (σ16 10 5) := ⟨_, rfl⟩
      have h := h σ20 e22
      have o21 : OKm σ20 := by rw [e22]; exact OKm.seti o17 _ _ _ (OKm.i o17 10 5 rfl) (isLg_row (show shp 26 = (1, 65, []) from rfl) _)
      refine G_iast (n := 65) rfl c19.1 c19.2 dX6_keep_92 ?_
      rw [← e22]
      refine G_aload_n 1 rfl rfl dX6_keep_93 ?_
      refine G_iload_n 2 rfl rfl dX6_keep_94 ?_
      refine G_bipush (by decide) dX6_keep_95 ?_
      refine G_iadd dX6_keep_97 ?_
      refine G_aload_n 0 rfl rfl dX6_keep_98 ?_
      refine G_get (k := 6) (kd := (0, 0)) (v := aI (σ20 10 6)) gf_X6_31 rfl rfl rfl rfl dX6_keep_99 ?_
      obtain ⟨c23, h⟩ := h
      obtain ⟨σ24, e26⟩ : ∃ τ : Mem, τ = mset σ20 26 (x2 + 59) (σ20 10 6) := ⟨_, rfl⟩
      have h := h σ24 e26
      have o25 : OKm σ24 := by rw [e26]; exact OKm.seti o21 _ _ _ (OKm.i o21 10 6 rfl) (isLg_row (show shp 26 = (1, 65, []) from rfl) _)
      refine G_iast (n := 65) rfl c23.1 c23.2 dX6_keep_102 ?_
      rw [← e26]
      refine G_aload_n 1 rfl rfl dX6_keep_103 ?_
      refine G_iload_n 2 rfl rfl dX6_keep_104 ?_
      refine G_bipush (by decide) dX6_keep_105 ?_
      refine G_iadd dX6_keep_107 ?_
      refine G_aload_n 0 rfl rfl dX6_keep_108 ?_
      refine G_get (k := 7) (kd := (0, 0)) (v := aI (σ24 10 7)) gf_X6_34 rfl rfl rfl rfl dX6_keep_109 ?_
      obtain ⟨c27, h⟩ := h
      obtain ⟨σ28, e30⟩ : ∃ τ : Mem, τ = mset σ24 26 (x2 + 60) (σ24 10 7) := ⟨_, rfl⟩
      have h := h σ28 e30
      have o29 : OKm σ28 := by rw [e30]; exact OKm.seti o25 _ _ _ (OKm.i o25 10 7 rfl) (isLg_row (show shp 26 = (1, 65, []) from rfl) _)
      refine G_iast (n := 65) rfl c27.1 c27.2 dX6_keep_112 ?_
      rw [← e30]
      refine G_aload_n 1 rfl rfl dX6_keep_113 ?_
      refine G_iload_n 2 rfl rfl dX6_keep_114 ?_
      refine G_bipush (by decide) dX6_keep_115 ?_
      refine G_iadd dX6_keep_117 ?_
      refine G_aload_n 0 rfl rfl dX6_keep_118 ?_
      refine G_get (k := 8) (kd := (0, 0)) (v := aI (σ28 10 8)) gf_X6_37 rfl rfl rfl rfl dX6_keep_119 ?_
      obtain ⟨c31, h⟩ := h
      obtain ⟨σ32, e34⟩ : ∃ τ : Mem, τ = mset σ28 26 (x2 + 61) (σ28 10 8) := ⟨_, rfl⟩
      have h := h σ32 e34
      have o33 : OKm σ32 := by rw [e34]; exact OKm.seti o29 _ _ _ (OKm.i o29 10 8 rfl) (isLg_row (show shp 26 = (1, 65, []) from rfl) _)
      refine G_iast (n := 65) rfl c31.1 c31.2 dX6_keep_122 ?_
      rw [← e34]
      refine G_aload_n 1 rfl rfl dX6_keep_123 ?_
      refine G_iload_n 2 rfl rfl dX6_keep_124 ?_
      refine G_bipush (by decide) dX6_keep_125 ?_
      refine G_iadd dX6_keep_127 ?_
      refine G_aload_n 0 rfl rfl dX6_keep_128 ?_
      refine G_get (k := 4) (kd := (0, 0)) (v := aI (σ32 10 4)) gf_X6_24 rfl rfl rfl rfl dX6_keep_129 ?_
      obtain ⟨c35, h⟩ := h
      obtain ⟨σ36, e38⟩ : ∃ τ : Mem, τ = mset σ32 26 (x2 + 62) (σ32 10 4) := ⟨_, rfl⟩
      have h := h σ36 e38
      have o37 : OKm σ36 := by rw [e38]; exact OKm.seti o33 _ _ _ (OKm.i o33 10 4 rfl) (isLg_row (show shp 26 = (1, 65, []) from rfl) _)
      refine G_iast (n := 65) rfl c35.1 c35.2 dX6_keep_132 ?_
      rw [← e38]
      refine G_aload_n 1 rfl rfl dX6_keep_133 ?_
      refine G_iload_n 2 rfl rfl dX6_keep_134 ?_
      refine G_bipush (by decide) dX6_keep_135 ?_
      refine G_iadd dX6_keep_137 ?_
      refine G_aload_n 3 rfl rfl dX6_keep_138 ?_
      refine G_get (k := 8) (kd := (0, 0)) (v := aI (σ36 1 8)) gf_X6_52 rfl rfl rfl rfl dX6_keep_139 ?_
      obtain ⟨c39, h⟩ := h
      obtain ⟨σ40, e42⟩ : ∃ τ : Mem, τ = mset σ36 26 (x2 + 63) (σ36 1 8) := ⟨_, rfl⟩
      have h := h σ40 e42
      have o41 : OKm σ40 := by rw [e42]; exact OKm.seti o37 _ _ _ (OKm.i o37 1 8 rfl) (isLg_row (show shp 26 = (1, 65, []) from rfl) _)
      refine G_iast (n := 65) rfl c39.1 c39.2 dX6_keep_142 ?_
      rw [← e42]
      refine G_aload_n 1 rfl rfl dX6_keep_143 ?_
      refine G_iload_n 2 rfl rfl dX6_keep_144 ?_
      refine G_bipush (by decide) dX6_keep_145 ?_
      refine G_iadd dX6_keep_147 ?_
      refine G_aload_n 3 rfl rfl dX6_keep_148 ?_
      refine G_get (k := 9) (kd := (0, 0)) (v := aI (σ40 1 9)) gf_X6_57 rfl rfl rfl rfl dX6_keep_149 ?_
      obtain ⟨c43, h⟩ := h
      obtain ⟨σ44, e46⟩ : ∃ τ : Mem, τ = mset σ40 26 (x2 + 64) (σ40 1 9) := ⟨_, rfl⟩
      have h := h σ44 e46
      have o45 : OKm σ44 := by rw [e46]; exact OKm.seti o41 _ _ _ (OKm.i o41 1 9 rfl) (isLg_row (show shp 26 = (1, 65, []) from rfl) _)
      refine G_iast (n := 65) rfl c43.1 c43.2 dX6_keep_152 ?_
      rw [← e46]
      exact G_vret rfl dX6_keep_153 ⟨rfl, h⟩ o45
    · have h := h.2 c2
      exact G_vret rfl dX6_keep_13 ⟨rfl, h⟩ hO

theorem sp_X6_keep_i (d : Nat) (hd : 0 ≤ d) (σ : Mem) (hO : OKm σ) (x2 : Int) (hx2 : R32 x2) (A : Mem) (hpre : nowC σ A ∧ σ 1 8 = A 10 0 ∧ σ 1 9 = A 10 1 ∧ Cnt A ∧ (0 ≤ x2 ∧ x2 + 65 ≤ 65)) : Mt yX6_keep cX6_keep 4 none d [aR (10), aR (26), aI (x2), aR (1)] σ (QV (fun σ' => rowC σ' 26 x2 A ∧ Fr [26] σ σ' ∧ ∀ i : Int, (i < x2 ∨ x2 + 65 ≤ i) → σ' 26 i = σ 26 i)) := mt_X6_keep_i hd hx2 hO (by
  unfold wp_X6_keep_i
  have hr1 := hO.i 1 8 rfl
  have hr2 := hO.i 1 9 rfl
  obtain ⟨⟨hN0, hN1, hN2, hN3⟩, h18, h19, hC, hx⟩ := hpre
  unfold Cnt at hC
  unfold R32 at *
  refine ⟨fun h => ?_, fun h => ⟨fun h2 => ?_, fun h2 => ?_⟩⟩
  · omega
  rotate_left
  · omega
  repeat' (first | (intro _ e; subst e) | (refine And.intro ?_ ?_; first | omega | (simp (disch := omega) only [mset_off, mset_hit, mset_miss, mcpy_off, mcpy_hit, mcpy_miss, mrow_off, mrow_same]; omega)))
  refine ⟨⟨?_, fun r h1 h2 => ?_, fun g h1 h2 => ?_, fun i h1 h2 => ?_⟩, ?_, fun i hi => ?_⟩
  · simp (disch := omega) only [mset_off, mset_hit, mset_miss, mcpy_off, mcpy_hit, mcpy_miss, mrow_off, mrow_same]
    exact ⟨hN0.1, hN0.2.1, hN0.2.2.1, hN0.2.2.2.1, hN0.2.2.2.2, h18, h19⟩
  · simp (disch := omega) only [mset_off, mset_hit, mset_miss, mcpy_off, mcpy_hit, mcpy_miss, mrow_off, mrow_same]
    rw [← hN1 r h1 h2]; congr 1; omega
  · simp (disch := omega) only [mset_off, mset_hit, mset_miss, mcpy_off, mcpy_hit, mcpy_miss, mrow_off, mrow_same]
    rw [← (hN2 g h1 h2).1, ← (hN2 g h1 h2).2]
    constructor <;> (congr 1; omega)
  · simp (disch := omega) only [mset_off, mset_hit, mset_miss, mcpy_off, mcpy_hit, mcpy_miss, mrow_off, mrow_same]
    rw [← hN3 i h1 h2]; congr 1; omega
  · intro q hq
    have hq : q ≠ 26 := by simpa using hq
    funext j
    simp (disch := omega) only [mset_off, mset_hit, mset_miss, mcpy_off, mcpy_hit, mcpy_miss, mrow_off, mrow_same]
  · simp (disch := omega) only [mset_off, mset_hit, mset_miss, mcpy_off, mcpy_hit, mcpy_miss, mrow_off, mrow_same])

def wp_X6_keep_s (x2 : Int) (σ : Mem) (Q : Mem → Prop) : Prop :=
  ((x2 < 0) →
    Q σ) ∧
   ((0 ≤ x2) →
    ((x2 ≤ (1950 - 65)) →
     ((0 : Int) ≤ 0 ∧ (0 : Int) ≤ x2 ∧ (0 : Int) ≤ 16 ∧ (0 + 16 : Int) ≤ 16 ∧ (x2 + 16 : Int) ≤ 1950) ∧
     ∀ σ4 : Mem, σ4 = mcpy σ 11 0 16 x2 16 →
     ((0 : Int) ≤ 0 ∧ (0 : Int) ≤ (x2 + 16) ∧ (0 : Int) ≤ 6 ∧ (0 + 6 : Int) ≤ 6 ∧ ((x2 + 16) + 6 : Int) ≤ 1950) ∧
     ∀ σ8 : Mem, σ8 = mcpy σ4 12 0 16 (x2 + 16) 6 →
     ((0 : Int) ≤ 0 ∧ (0 : Int) ≤ (x2 + 22) ∧ (0 : Int) ≤ 6 ∧ (0 + 6 : Int) ≤ 6 ∧ ((x2 + 22) + 6 : Int) ≤ 1950) ∧
     ∀ σ12 : Mem, σ12 = mcpy σ8 13 0 16 (x2 + 22) 6 →
     ((0 : Int) ≤ 0 ∧ (0 : Int) ≤ (x2 + 28) ∧ (0 : Int) ≤ 30 ∧ (0 + 30 : Int) ≤ 30 ∧ ((x2 + 28) + 30 : Int) ≤ 1950) ∧
     ∀ σ16 : Mem, σ16 = mcpy σ12 14 0 16 (x2 + 28) 30 →
     (0 ≤ (x2 + 58) ∧ (x2 + 58) < 1950) ∧
     ∀ σ20 : Mem, σ20 = mset σ16 16 (x2 + 58) (σ16 10 5) →
     (0 ≤ (x2 + 59) ∧ (x2 + 59) < 1950) ∧
     ∀ σ24 : Mem, σ24 = mset σ20 16 (x2 + 59) (σ20 10 6) →
     (0 ≤ (x2 + 60) ∧ (x2 + 60) < 1950) ∧
     ∀ σ28 : Mem, σ28 = mset σ24 16 (x2 + 60) (σ24 10 7) →
     (0 ≤ (x2 + 61) ∧ (x2 + 61) < 1950) ∧
     ∀ σ32 : Mem, σ32 = mset σ28 16 (x2 + 61) (σ28 10 8) →
     (0 ≤ (x2 + 62) ∧ (x2 + 62) < 1950) ∧
     ∀ σ36 : Mem, σ36 = mset σ32 16 (x2 + 62) (σ32 10 4) →
     (0 ≤ (x2 + 63) ∧ (x2 + 63) < 1950) ∧
     ∀ σ40 : Mem, σ40 = mset σ36 16 (x2 + 63) (σ36 1 8) →
     (0 ≤ (x2 + 64) ∧ (x2 + 64) < 1950) ∧
     ∀ σ44 : Mem, σ44 = mset σ40 16 (x2 + 64) (σ40 1 9) →
     Q σ44) ∧
    (((1950 - 65) < x2) →
     Q σ))
theorem mt_X6_keep_s {d : Nat} (hd : 0 ≤ d) {x2 : Int} {σ : Mem} {Q : Mem → Prop} (hx2 : R32 x2) (hO : OKm σ) (h : wp_X6_keep_s x2 σ Q) : Mt yX6_keep cX6_keep 4 none d [aR (10), aR (16), aI (x2), aR (1)] σ (QV Q) := by
  refine Mt.intro (by decide +kernel) (Nat.le_of_ble_eq_true rfl) [(0, aR (10)), (1, aR (16)), (2, aI (x2)), (3, aR (1))] rfl ?_
  unfold wp_X6_keep_s at h
  refine G_iload_n 2 rfl rfl dX6_keep_0 ?_
  refine G_if_lt hx2 dX6_keep_1 (tgt := 13) (by decide) (fun c1 => ?_) (fun c1 => ?_)
  · have h := h.1 c1
    exact G_vret rfl dX6_keep_13 ⟨rfl, h⟩ hO
  · have h := h.2 c1
    refine G_iload_n 2 rfl rfl dX6_keep_4 ?_
    refine G_aload_n 1 rfl rfl dX6_keep_5 ?_
    refine G_alen (v := 1950) (n := 1950) rfl (by decide) (by decide) rfl dX6_keep_6 ?_
    refine G_bipush (by decide) dX6_keep_7 ?_
    refine G_isub dX6_keep_9 ?_
    refine G_icmp_le hx2 (rL (1950 - 65) rfl) dX6_keep_10 (tgt := 14) (by decide) (fun c2 => ?_) (fun c2 => ?_)
    · have h := h.1 c2
      refine G_aload_n 0 rfl rfl dX6_keep_14 ?_
      refine G_get (k := 0) (kd := (3, 1)) (v := aR (11)) gf_X6_11 rfl rfl rfl rfl dX6_keep_15 ?_
      refine G_iconst dX6_keep_18 ?_
      refine G_aload_n 1 rfl rfl dX6_keep_19 ?_
      refine G_iload_n 2 rfl rfl dX6_keep_20 ?_
      refine G_aload_n 0 rfl rfl dX6_keep_21 ?_
      refine G_get (k := 0) (kd := (3, 1)) (v := aR (11)) gf_X6_11 rfl rfl rfl rfl dX6_keep_22 ?_
      refine G_alen (v := 16) (n := 16) rfl (by decide) (by decide) rfl dX6_keep_25 ?_
      obtain ⟨c3, h⟩ := h
      obtain ⟨σ4, e6⟩ : ∃ τ : Mem, τ = mcpy σ 11 0 16 x2 16 := ⟨_, rfl⟩
      have h := h σ4 e6
      have o5 : OKm σ4 := by rw [e6]; exact OKm.cpy hO (isLg_row (show shp 11 = (1, 16, []) from rfl)) (isLg_row (show shp 16 = (1, 1950, []) from rfl))
      refine G_copy rfl (show shp 11 = (1, 16, []) from rfl) (show shp 16 = (1, 1950, []) from rfl) (by decide) (by decide) c3.1 c3.2.1 c3.2.2.1 c3.2.2.2.1 c3.2.2.2.2 (Nat.le_of_ble_eq_true rfl) sf_X6_46 dX6_keep_26 ?_
      rw [← e6]
      refine G_aload_n 0 rfl rfl dX6_keep_29 ?_
      refine G_get (k := 1) (kd := (3, 2)) (v := aR (12)) gf_X6_15 rfl rfl rfl rfl dX6_keep_30 ?_
      refine G_iconst dX6_keep_33 ?_
      refine G_aload_n 1 rfl rfl dX6_keep_34 ?_
      refine G_iload_n 2 rfl rfl dX6_keep_35 ?_
      refine G_bipush (by decide) dX6_keep_36 ?_
      refine G_iadd dX6_keep_38 ?_
      refine G_aload_n 0 rfl rfl dX6_keep_39 ?_
      refine G_get (k := 1) (kd := (3, 2)) (v := aR (12)) gf_X6_15 rfl rfl rfl rfl dX6_keep_40 ?_
      refine G_alen (v := 6) (n := 6) rfl (by decide) (by decide) rfl dX6_keep_43 ?_
      obtain ⟨c7, h⟩ := h
      obtain ⟨σ8, e10⟩ : ∃ τ : Mem, τ = mcpy σ4 12 0 16 (x2 + 16) 6 := ⟨_, rfl⟩
      have h := h σ8 e10
      have o9 : OKm σ8 := by rw [e10]; exact OKm.cpy o5 (isLg_row (show shp 12 = (1, 6, []) from rfl)) (isLg_row (show shp 16 = (1, 1950, []) from rfl))
      refine G_copy rfl (show shp 12 = (1, 6, []) from rfl) (show shp 16 = (1, 1950, []) from rfl) (by decide) (by decide) c7.1 c7.2.1 c7.2.2.1 c7.2.2.2.1 c7.2.2.2.2 (Nat.le_of_ble_eq_true rfl) sf_X6_46 dX6_keep_44 ?_
      rw [← e10]
      refine G_aload_n 0 rfl rfl dX6_keep_47 ?_
      refine G_get (k := 2) (kd := (3, 3)) (v := aR (13)) gf_X6_18 rfl rfl rfl rfl dX6_keep_48 ?_
      refine G_iconst dX6_keep_51 ?_
      refine G_aload_n 1 rfl rfl dX6_keep_52 ?_
      refine G_iload_n 2 rfl rfl dX6_keep_53 ?_
      refine G_bipush (by decide) dX6_keep_54 ?_
      refine G_iadd dX6_keep_56 ?_
      refine G_aload_n 0 rfl rfl dX6_keep_57 ?_
      refine G_get (k := 2) (kd := (3, 3)) (v := aR (13)) gf_X6_18 rfl rfl rfl rfl dX6_keep_58 ?_
      refine G_alen (v := 6) (n := 6) rfl (by decide) (by decide) rfl dX6_keep_61 ?_
      obtain ⟨c11, h⟩ := h
      obtain ⟨σ12, e14⟩ : ∃ τ : Mem, τ = mcpy σ8 13 0 16 (x2 + 22) 6 := ⟨_, rfl⟩
      have h := h σ12 e14
      have o13 : OKm σ12 := by rw [e14]; exact OKm.cpy o9 (isLg_row (show shp 13 = (1, 6, []) from rfl)) (isLg_row (show shp 16 = (1, 1950, []) from rfl))
      refine G_copy rfl (show shp 13 = (1, 6, []) from rfl) (show shp 16 = (1, 1950, []) from rfl) (by decide) (by decide) c11.1 c11.2.1 c11.2.2.1 c11.2.2.2.1 c11.2.2.2.2 (Nat.le_of_ble_eq_true rfl) sf_X6_46 dX6_keep_62 ?_
      rw [← e14]
      refine G_aload_n 0 rfl rfl dX6_keep_65 ?_
      refine G_get (k := 3) (kd := (3, 4)) (v := aR (14)) gf_X6_21 rfl rfl rfl rfl dX6_keep_66 ?_
      refine G_iconst dX6_keep_69 ?_
      refine G_aload_n 1 rfl rfl dX6_keep_70 ?_
      refine G_iload_n 2 rfl rfl dX6_keep_71 ?_
      refine G_bipush (by decide) dX6_keep_72 ?_
      refine G_iadd dX6_keep_74 ?_
      refine G_aload_n 0 rfl rfl dX6_keep_75 ?_
      refine G_get (k := 3) (kd := (3, 4)) (v := aR (14)) gf_X6_21 rfl rfl rfl rfl dX6_keep_76 ?_
      refine G_alen (v := 30) (n := 30) rfl (by decide) (by decide) rfl dX6_keep_79 ?_
      obtain ⟨c15, h⟩ := h
      obtain ⟨σ16, e18⟩ : ∃ τ : Mem, τ = mcpy σ12 14 0 16 (x2 + 28) 30 := ⟨_, rfl⟩
      have h := h σ16 e18
      have o17 : OKm σ16 := by rw [e18]; exact OKm.cpy o13 (isLg_row (show shp 14 = (1, 30, []) from rfl)) (isLg_row (show shp 16 = (1, 1950, []) from rfl))
      refine G_copy rfl (show shp 14 = (1, 30, []) from rfl) (show shp 16 = (1, 1950, []) from rfl) (by decide) (by decide) c15.1 c15.2.1 c15.2.2.1 c15.2.2.2.1 c15.2.2.2.2 (Nat.le_of_ble_eq_true rfl) sf_X6_46 dX6_keep_80 ?_
      rw [← e18]
      refine G_aload_n 1 rfl rfl dX6_keep_83 ?_
      refine G_iload_n 2 rfl rfl dX6_keep_84 ?_
      refine G_bipush (by decide) dX6_keep_85 ?_
      refine G_iadd dX6_keep_87 ?_
      refine G_aload_n 0 rfl rfl dX6_keep_88 ?_
      refine G_get (k := 5) (kd := (0, 0)) (v := aI (σ16 10 5)) gf_X6_28 rfl rfl rfl rfl dX6_keep_89 ?_
      obtain ⟨c19, h⟩ := h
      obtain ⟨σ20, e22⟩ : ∃ τ : Mem, τ = mset σ16 16 (x2 + 58) (σ16 10 5) := ⟨_, rfl⟩
      have h := h σ20 e22
      have o21 : OKm σ20 := by rw [e22]; exact OKm.seti o17 _ _ _ (OKm.i o17 10 5 rfl) (isLg_row (show shp 16 = (1, 1950, []) from rfl) _)
      refine G_iast (n := 1950) rfl c19.1 c19.2 dX6_keep_92 ?_
      rw [← e22]
      refine G_aload_n 1 rfl rfl dX6_keep_93 ?_
      refine G_iload_n 2 rfl rfl dX6_keep_94 ?_
      refine G_bipush (by decide) dX6_keep_95 ?_
      refine G_iadd dX6_keep_97 ?_
      refine G_aload_n 0 rfl rfl dX6_keep_98 ?_
      refine G_get (k := 6) (kd := (0, 0)) (v := aI (σ20 10 6)) gf_X6_31 rfl rfl rfl rfl dX6_keep_99 ?_
      obtain ⟨c23, h⟩ := h
      obtain ⟨σ24, e26⟩ : ∃ τ : Mem, τ = mset σ20 16 (x2 + 59) (σ20 10 6) := ⟨_, rfl⟩
      have h := h σ24 e26
      have o25 : OKm σ24 := by rw [e26]; exact OKm.seti o21 _ _ _ (OKm.i o21 10 6 rfl) (isLg_row (show shp 16 = (1, 1950, []) from rfl) _)
      refine G_iast (n := 1950) rfl c23.1 c23.2 dX6_keep_102 ?_
      rw [← e26]
      refine G_aload_n 1 rfl rfl dX6_keep_103 ?_
      refine G_iload_n 2 rfl rfl dX6_keep_104 ?_
      refine G_bipush (by decide) dX6_keep_105 ?_
      refine G_iadd dX6_keep_107 ?_
      refine G_aload_n 0 rfl rfl dX6_keep_108 ?_
      refine G_get (k := 7) (kd := (0, 0)) (v := aI (σ24 10 7)) gf_X6_34 rfl rfl rfl rfl dX6_keep_109 ?_
      obtain ⟨c27, h⟩ := h
      obtain ⟨σ28, e30⟩ : ∃ τ : Mem, τ = mset σ24 16 (x2 + 60) (σ24 10 7) := ⟨_, rfl⟩
      have h := h σ28 e30
      have o29 : OKm σ28 := by rw [e30]; exact OKm.seti o25 _ _ _ (OKm.i o25 10 7 rfl) (isLg_row (show shp 16 = (1, 1950, []) from rfl) _)
      refine G_iast (n := 1950) rfl c27.1 c27.2 dX6_keep_112 ?_
      rw [← e30]
      refine G_aload_n 1 rfl rfl dX6_keep_113 ?_
      refine G_iload_n 2 rfl rfl dX6_keep_114 ?_
      refine G_bipush (by decide) dX6_keep_115 ?_
      refine G_iadd dX6_keep_117 ?_
      refine G_aload_n 0 rfl rfl dX6_keep_118 ?_
      refine G_get (k := 8) (kd := (0, 0)) (v := aI (σ28 10 8)) gf_X6_37 rfl rfl rfl rfl dX6_keep_119 ?_
      obtain ⟨c31, h⟩ := h
      obtain ⟨σ32, e34⟩ : ∃ τ : Mem, τ = mset σ28 16 (x2 + 61) (σ28 10 8) := ⟨_, rfl⟩
      have h := h σ32 e34
      have o33 : OKm σ32 := by rw [e34]; exact OKm.seti o29 _ _ _ (OKm.i o29 10 8 rfl) (isLg_row (show shp 16 = (1, 1950, []) from rfl) _)
      refine G_iast (n := 1950) rfl c31.1 c31.2 dX6_keep_122 ?_
      rw [← e34]
      refine G_aload_n 1 rfl rfl dX6_keep_123 ?_
      refine G_iload_n 2 rfl rfl dX6_keep_124 ?_
      refine G_bipush (by decide) dX6_keep_125 ?_
      refine G_iadd dX6_keep_127 ?_
      refine G_aload_n 0 rfl rfl dX6_keep_128 ?_
      refine G_get (k := 4) (kd := (0, 0)) (v := aI (σ32 10 4)) gf_X6_24 rfl rfl rfl rfl dX6_keep_129 ?_
      obtain ⟨c35, h⟩ := h
      obtain ⟨σ36, e38⟩ : ∃ τ : Mem, τ = mset σ32 16 (x2 + 62) (σ32 10 4) := ⟨_, rfl⟩
      have h := h σ36 e38
      have o37 : OKm σ36 := by rw [e38]; exact OKm.seti o33 _ _ _ (OKm.i o33 10 4 rfl) (isLg_row (show shp 16 = (1, 1950, []) from rfl) _)
      refine G_iast (n := 1950) rfl c35.1 c35.2 dX6_keep_132 ?_
      rw [← e38]
      refine G_aload_n 1 rfl rfl dX6_keep_133 ?_
      refine G_iload_n 2 rfl rfl dX6_keep_134 ?_
      refine G_bipush (by decide) dX6_keep_135 ?_
      refine G_iadd dX6_keep_137 ?_
      refine G_aload_n 3 rfl rfl dX6_keep_138 ?_
      refine G_get (k := 8) (kd := (0, 0)) (v := aI (σ36 1 8)) gf_X6_52 rfl rfl rfl rfl dX6_keep_139 ?_
      obtain ⟨c39, h⟩ := h
      obtain ⟨σ40, e42⟩ : ∃ τ : Mem, τ = mset σ36 16 (x2 + 63) (σ36 1 8) := ⟨_, rfl⟩
      have h := h σ40 e42
      have o41 : OKm σ40 := by rw [e42]; exact OKm.seti o37 _ _ _ (OKm.i o37 1 8 rfl) (isLg_row (show shp 16 = (1, 1950, []) from rfl) _)
      refine G_iast (n := 1950) rfl c39.1 c39.2 dX6_keep_142 ?_
      rw [← e42]
      refine G_aload_n 1 rfl rfl dX6_keep_143 ?_
      refine G_iload_n 2 rfl rfl dX6_keep_144 ?_
      refine G_bipush (by decide) dX6_keep_145 ?_
      refine G_iadd dX6_keep_147 ?_
      refine G_aload_n 3 rfl rfl dX6_keep_148 ?_
      refine G_get (k := 9) (kd := (0, 0)) (v := aI (σ40 1 9)) gf_X6_57 rfl rfl rfl rfl dX6_keep_149 ?_
      obtain ⟨c43, h⟩ := h
      obtain ⟨σ44, e46⟩ : ∃ τ : Mem, τ = mset σ40 16 (x2 + 64) (σ40 1 9) := ⟨_, rfl⟩
      have h := h σ44 e46
      have o45 : OKm σ44 := by rw [e46]; exact OKm.seti o41 _ _ _ (OKm.i o41 1 9 rfl) (isLg_row (show shp 16 = (1, 1950, []) from rfl) _)
      refine G_iast (n := 1950) rfl c43.1 c43.2 dX6_keep_152 ?_
      rw [← e46]
      exact G_vret rfl dX6_keep_153 ⟨rfl, h⟩ o45
    · have h := h.2 c2
      exact G_vret rfl dX6_keep_13 ⟨rfl, h⟩ hO

theorem sp_X6_keep_s (d : Nat) (hd : 0 ≤ d) (σ : Mem) (hO : OKm σ) (x2 : Int) (hx2 : R32 x2) (A : Mem) (hpre : nowC σ A ∧ σ 1 8 = A 10 0 ∧ σ 1 9 = A 10 1 ∧ Cnt A ∧ (0 ≤ x2 ∧ x2 + 65 ≤ 1950)) : Mt yX6_keep cX6_keep 4 none d [aR (10), aR (16), aI (x2), aR (1)] σ (QV (fun σ' => rowC σ' 16 x2 A ∧ Fr [16] σ σ' ∧ ∀ i : Int, (i < x2 ∨ x2 + 65 ≤ i) → σ' 16 i = σ 16 i)) := mt_X6_keep_s hd hx2 hO (by
  unfold wp_X6_keep_s
  have hr1 := hO.i 1 8 rfl
  have hr2 := hO.i 1 9 rfl
  obtain ⟨⟨hN0, hN1, hN2, hN3⟩, h18, h19, hC, hx⟩ := hpre
  unfold Cnt at hC
  unfold R32 at *
  refine ⟨fun h => ?_, fun h => ⟨fun h2 => ?_, fun h2 => ?_⟩⟩
  · omega
  rotate_left
  · omega
  repeat' (first | (intro _ e; subst e) | (refine And.intro ?_ ?_; first | omega | (simp (disch := omega) only [mset_off, mset_hit, mset_miss, mcpy_off, mcpy_hit, mcpy_miss, mrow_off, mrow_same]; omega)))
  refine ⟨⟨?_, fun r h1 h2 => ?_, fun g h1 h2 => ?_, fun i h1 h2 => ?_⟩, ?_, fun i hi => ?_⟩
  · simp (disch := omega) only [mset_off, mset_hit, mset_miss, mcpy_off, mcpy_hit, mcpy_miss, mrow_off, mrow_same]
    exact ⟨hN0.1, hN0.2.1, hN0.2.2.1, hN0.2.2.2.1, hN0.2.2.2.2, h18, h19⟩
  · simp (disch := omega) only [mset_off, mset_hit, mset_miss, mcpy_off, mcpy_hit, mcpy_miss, mrow_off, mrow_same]
    rw [← hN1 r h1 h2]; congr 1; omega
  · simp (disch := omega) only [mset_off, mset_hit, mset_miss, mcpy_off, mcpy_hit, mcpy_miss, mrow_off, mrow_same]
    rw [← (hN2 g h1 h2).1, ← (hN2 g h1 h2).2]
    constructor <;> (congr 1; omega)
  · simp (disch := omega) only [mset_off, mset_hit, mset_miss, mcpy_off, mcpy_hit, mcpy_miss, mrow_off, mrow_same]
    rw [← hN3 i h1 h2]; congr 1; omega
  · intro q hq
    have hq : q ≠ 16 := by simpa using hq
    funext j
    simp (disch := omega) only [mset_off, mset_hit, mset_miss, mcpy_off, mcpy_hit, mcpy_miss, mrow_off, mrow_same]
  · simp (disch := omega) only [mset_off, mset_hit, mset_miss, mcpy_off, mcpy_hit, mcpy_miss, mrow_off, mrow_same])

theorem bk_enc {dd g r s : Int} (h : 0 ≤ dd ∧ dd ≤ 9999 ∧ 0 ≤ g ∧ g ≤ 5 ∧ 0 ≤ r ∧ r ≤ 15 ∧ 0 ≤ s ∧ s ≤ 99) : bOr (bOr (bOr (bShl dd 14) (bShl g 11)) (bShl r 7)) s = dd * 16384 + g * 2048 + r * 128 + s := by
  have e1 : bShl dd 14 = dd * 2 ^ 14 := bShl_i 14 (by omega) (by omega) (by omega)
  have e2 : bShl g 11 = g * 2 ^ 11 := bShl_i 11 (by omega) (by omega) (by omega)
  have e3 : bShl r 7 = r * 2 ^ 7 := bShl_i 7 (by omega) (by omega) (by omega)
  rw [e1, e2, e3, bOr_add 14 (by omega) (by omega) (by omega) (by omega) (by omega)]
  have e4 : dd * 2 ^ 14 + g * 2 ^ 11 = (dd * 8 + g) * 2 ^ 11 := by omega
  rw [e4, bOr_add 11 (by omega) (by omega) (by omega) (by omega) (by omega)]
  have e5 : (dd * 8 + g) * 2 ^ 11 + r * 2 ^ 7 = ((dd * 8 + g) * 16 + r) * 2 ^ 7 := by omega
  rw [e5, bOr_add 7 (by omega) (by omega) (by omega) (by omega) (by omega)]
  omega
/-- one going: by g over r to town t, much sucked -/
def bkS (A : Mem) (g r much : Int) : Mem :=
  if A 0 4 < 30 then mset (mset (mset (mset (mset A 4 (A 0 4) (A 0 2)) 5 (A 0 4) g) 6 (A 0 4) r) 7 (A 0 4) much) 0 4 (A 0 4 + 1)
  else mrow (mrow (mrow (mrow A 4 (fun i => if i = 29 then A 0 2 else A 4 (i + 1))) 5 (fun i => if i = 29 then g else A 5 (i + 1))) 6 (fun i => if i = 29 then r else A 6 (i + 1))) 7 (fun i => if i = 29 then much else A 7 (i + 1))
def walkS (A : Mem) (g r t much : Int) : Mem := mset (mset (mset (bkS A g r much) 1 r (A 1 r - much)) 2 g t) 3 g (min 9999 (A 3 g + 1))
theorem bkS_off {A : Mem} {g r much : Int} {q : Nat} (h : q ≠ 0 ∧ q ≠ 4 ∧ q ≠ 5 ∧ q ≠ 6 ∧ q ≠ 7) : bkS A g r much q = A q := by
  funext j
  unfold bkS
  split <;> (simp (disch := omega) only [mset_off, mrow_off])
theorem bkS_0 {A : Mem} {g r much j : Int} (h : j ≠ 4) : bkS A g r much 0 j = A 0 j := by
  unfold bkS
  split <;> (simp (disch := omega) only [mset_off, mset_miss, mrow_off])
theorem bkS_n {A : Mem} {g r much : Int} (h : A 0 4 ≤ 30) : bkS A g r much 0 4 = (if A 0 4 < 30 then A 0 4 + 1 else 30) := by
  unfold bkS
  split
  · simp (disch := omega) only [mset_hit]
  · simp (disch := omega) only [mrow_off]; omega
theorem bkS_c {A : Mem} {g r much : Int} (h : 0 ≤ A 0 4 ∧ A 0 4 ≤ 30) (i : Int) (h0 : 0 ≤ i) : i < bkS A g r much 0 4 → bkC (bkS A g r much) i = (if A 0 4 < 30 then (if i = A 0 4 then A 0 2 * 16384 + g * 2048 + r * 128 + much else bkC A i) else (if i = 29 then A 0 2 * 16384 + g * 2048 + r * 128 + much else bkC A (i + 1))) := by
  rw [bkS_n h.2]
  unfold bkC bkS
  split
  · intro hi
    by_cases e : i = A 0 4
    · rw [if_pos e]
      simp (disch := omega) only [mset_off, mset_hit]
    · rw [if_neg e]
      simp (disch := omega) only [mset_off, mset_miss]
  · intro hi
    simp (disch := omega) only [mrow_off, mrow_same]
    by_cases e : i = 29
    · simp only [if_pos e]
    · simp only [if_neg e]

def wp_X6_walk (x1 : Int) (x2 : Int) (x3 : Int) (x4 : Int) (σ : Mem) (Q : Mem → Prop) : Prop :=
  (0 ≤ x2 ∧ x2 < 16) ∧
   (0 ≤ x2 ∧ x2 < 16) ∧
   R32 ((σ 11 x2) - x4) ∧
   ∀ σ4 : Mem, σ4 = mset σ 11 x2 ((σ 11 x2) - x4) →
   (0 ≤ x1 ∧ x1 < 6) ∧
   ∀ σ8 : Mem, σ8 = mset σ4 12 x1 x3 →
   (0 ≤ x1 ∧ x1 < 6) ∧
   R32 ((σ8 13 x1) + 1) ∧
   (0 ≤ x1 ∧ x1 < 6) ∧
   ∀ σ14 : Mem, σ14 = mset σ8 13 x1 (min 9999 ((σ8 13 x1) + 1)) →
   (((σ14 10 4) < 30) →
    (0 ≤ (σ14 10 4) ∧ (σ14 10 4) < 30) ∧
    ∀ σ19 : Mem, σ19 = mset σ14 14 (σ14 10 4) (bOr (bOr (bOr (bShl (σ14 10 7) 14) (bShl x1 11)) (bShl x2 7)) x4) →
    R32 ((σ19 10 4) + 1) ∧
    ∀ σ22 : Mem, σ22 = mset σ19 10 4 ((σ19 10 4) + 1) →
    Q σ22) ∧
   ((30 ≤ (σ14 10 4)) →
    ((0 : Int) ≤ 1 ∧ (0 : Int) ≤ 0 ∧ (0 : Int) ≤ 29 ∧ (1 + 29 : Int) ≤ 30 ∧ (0 + 29 : Int) ≤ 30) ∧
    ∀ σ27 : Mem, σ27 = mcpy σ14 14 1 14 0 29 →
    ∀ σ30 : Mem, σ30 = mset σ27 10 4 29 →
    (0 ≤ (σ30 10 4) ∧ (σ30 10 4) < 30) ∧
    ∀ σ34 : Mem, σ34 = mset σ30 14 (σ30 10 4) (bOr (bOr (bOr (bShl (σ30 10 7) 14) (bShl x1 11)) (bShl x2 7)) x4) →
    R32 ((σ34 10 4) + 1) ∧
    ∀ σ37 : Mem, σ37 = mset σ34 10 4 ((σ34 10 4) + 1) →
    Q σ37)
theorem mt_X6_walk {d : Nat} (hd : 0 ≤ d) {x1 : Int} {x2 : Int} {x3 : Int} {x4 : Int} {σ : Mem} {Q : Mem → Prop} (hx1 : R32 x1) (hx2 : R32 x2) (hx3 : R32 x3) (hx4 : R32 x4) (hO : OKm σ) (h : wp_X6_walk x1 x2 x3 x4 σ Q) : Mt yX6_walk cX6_walk 5 none d [aR (10), aI (x1), aI (x2), aI (x3), aI (x4)] σ (QV Q) := by
  refine Mt.intro (by decide +kernel) (Nat.le_of_ble_eq_true rfl) [(0, aR (10)), (1, aI (x1)), (2, aI (x2)), (3, aI (x3)), (4, aI (x4))] rfl ?_
  unfold wp_X6_walk at h
  refine G_aload_n 0 rfl rfl dX6_walk_0 ?_
  refine G_get (k := 0) (kd := (3, 1)) (v := aR (11)) gf_X6_11 rfl rfl rfl rfl dX6_walk_1 ?_
  refine G_iload_n 2 rfl rfl dX6_walk_4 ?_
  refine G_dup2 rfl rfl dX6_walk_5 ?_
  obtain ⟨c1, h⟩ := h
  refine G_iald (n := 16) rfl c1.1 c1.2 dX6_walk_6 ?_
  refine G_iload 4 rfl dX6_walk_7 ?_
  refine G_isub dX6_walk_9 ?_
  obtain ⟨c2, h⟩ := h
  obtain ⟨c3, h⟩ := h
  obtain ⟨σ4, e6⟩ : ∃ τ : Mem, τ = mset σ 11 x2 ((σ 11 x2) - x4) := ⟨_, rfl⟩
  have h := h σ4 e6
  have o5 : OKm σ4 := by rw [e6]; exact OKm.seti hO _ _ _ c3 (isLg_row (show shp 11 = (1, 16, []) from rfl) _)
  refine G_iast (n := 16) rfl c2.1 c2.2 dX6_walk_10 ?_
  rw [← e6]
  refine G_aload_n 0 rfl rfl dX6_walk_11 ?_
  refine G_get (k := 1) (kd := (3, 2)) (v := aR (12)) gf_X6_15 rfl rfl rfl rfl dX6_walk_12 ?_
  refine G_iload_n 1 rfl rfl dX6_walk_15 ?_
  refine G_iload_n 3 rfl rfl dX6_walk_16 ?_
  obtain ⟨c7, h⟩ := h
  obtain ⟨σ8, e10⟩ : ∃ τ : Mem, τ = mset σ4 12 x1 x3 := ⟨_, rfl⟩
  have h := h σ8 e10
  have o9 : OKm σ8 := by rw [e10]; exact OKm.seti o5 _ _ _ hx3 (isLg_row (show shp 12 = (1, 6, []) from rfl) _)
  refine G_iast (n := 6) rfl c7.1 c7.2 dX6_walk_17 ?_
  rw [← e10]
  refine G_aload_n 0 rfl rfl dX6_walk_18 ?_
  refine G_get (k := 2) (kd := (3, 3)) (v := aR (13)) gf_X6_18 rfl rfl rfl rfl dX6_walk_19 ?_
  refine G_iload_n 1 rfl rfl dX6_walk_22 ?_
  refine G_sipush (by decide) dX6_walk_23 ?_
  refine G_aload_n 0 rfl rfl dX6_walk_26 ?_
  refine G_get (k := 2) (kd := (3, 3)) (v := aR (13)) gf_X6_18 rfl rfl rfl rfl dX6_walk_27 ?_
  refine G_iload_n 1 rfl rfl dX6_walk_30 ?_
  obtain ⟨c11, h⟩ := h
  refine G_iald (n := 6) rfl c11.1 c11.2 dX6_walk_31 ?_
  refine G_iconst dX6_walk_32 ?_
  refine G_iadd dX6_walk_33 ?_
  obtain ⟨c12, h⟩ := h
  refine G_mmin rfl (rL 9999 rfl) c12 (Nat.le_of_ble_eq_true rfl) sf_X6_40 dX6_walk_34 ?_
  obtain ⟨c13, h⟩ := h
  obtain ⟨σ14, e16⟩ : ∃ τ : Mem, τ = mset σ8 13 x1 (min 9999 ((σ8 13 x1) + 1)) := ⟨_, rfl⟩
  have h := h σ14 e16
  have o15 : OKm σ14 := by rw [e16]; exact OKm.seti o9 _ _ _ (r32_min (rL 9999 rfl) c12) (isLg_row (show shp 13 = (1, 6, []) from rfl) _)
  refine G_iast (n := 6) rfl c13.1 c13.2 dX6_walk_37 ?_
  rw [← e16]
  refine G_aload_n 0 rfl rfl dX6_walk_38 ?_
  refine G_get (k := 4) (kd := (0, 0)) (v := aI (σ14 10 4)) gf_X6_24 rfl rfl rfl rfl dX6_walk_39 ?_
  refine G_bipush (by decide) dX6_walk_42 ?_
  refine G_icmp_lt (OKm.i o15 10 4 rfl) (rL 30 rfl) dX6_walk_44 (tgt := 68) (by decide) (fun c17 => ?_) (fun c17 => ?_)
  · have h := h.1 c17
    refine G_aload_n 0 rfl rfl dX6_walk_68 ?_
    refine G_get (k := 3) (kd := (3, 4)) (v := aR (14)) gf_X6_21 rfl rfl rfl rfl dX6_walk_69 ?_
    refine G_aload_n 0 rfl rfl dX6_walk_72 ?_
    refine G_get (k := 4) (kd := (0, 0)) (v := aI (σ14 10 4)) gf_X6_24 rfl rfl rfl rfl dX6_walk_73 ?_
    refine G_aload_n 0 rfl rfl dX6_walk_76 ?_
    refine G_get (k := 7) (kd := (0, 0)) (v := aI (σ14 10 7)) gf_X6_34 rfl rfl rfl rfl dX6_walk_77 ?_
    refine G_bipush (by decide) dX6_walk_80 ?_
    refine G_ishl dX6_walk_82 ?_
    refine G_iload_n 1 rfl rfl dX6_walk_83 ?_
    refine G_bipush (by decide) dX6_walk_84 ?_
    refine G_ishl dX6_walk_86 ?_
    refine G_ior dX6_walk_87 ?_
    refine G_iload_n 2 rfl rfl dX6_walk_88 ?_
    refine G_bipush (by decide) dX6_walk_89 ?_
    refine G_ishl dX6_walk_91 ?_
    refine G_ior dX6_walk_92 ?_
    refine G_iload 4 rfl dX6_walk_93 ?_
    refine G_ior dX6_walk_95 ?_
    obtain ⟨c18, h⟩ := h
    obtain ⟨σ19, e21⟩ : ∃ τ : Mem, τ = mset σ14 14 (σ14 10 4) (bOr (bOr (bOr (bShl (σ14 10 7) 14) (bShl x1 11)) (bShl x2 7)) x4) := ⟨_, rfl⟩
    have h := h σ19 e21
    have o20 : OKm σ19 := by rw [e21]; exact OKm.seti o15 _ _ _ (r32_of _) (isLg_row (show shp 14 = (1, 30, []) from rfl) _)
    refine G_iast (n := 30) rfl c18.1 c18.2 dX6_walk_96 ?_
    rw [← e21]
    refine G_aload_n 0 rfl rfl dX6_walk_97 ?_
    refine G_dup rfl dX6_walk_98 ?_
    refine G_get (k := 4) (kd := (0, 0)) (v := aI (σ19 10 4)) gf_X6_24 rfl rfl rfl rfl dX6_walk_99 ?_
    refine G_iconst dX6_walk_102 ?_
    refine G_iadd dX6_walk_103 ?_
    obtain ⟨c23, h⟩ := h
    obtain ⟨σ22, e25⟩ : ∃ τ : Mem, τ = mset σ19 10 4 ((σ19 10 4) + 1) := ⟨_, rfl⟩
    have h := h σ22 e25
    have o24 : OKm σ22 := by rw [e25]; exact OKm.seti o20 _ _ _ c23 rfl
    refine G_put (k := 4) (ki := 4) (kd := (0, 0)) (x := _) pf_X6_24 rfl rfl rfl rfl (fa_i (mset_self _ _ _ _)) (fun _ => rfl) (fun _ => rfl) dX6_walk_104 ?_
    rw [← e25]
    exact G_vret rfl dX6_walk_107 ⟨rfl, h⟩ o24
  · have h := h.2 c17
    refine G_aload_n 0 rfl rfl dX6_walk_47 ?_
    refine G_get (k := 3) (kd := (3, 4)) (v := aR (14)) gf_X6_21 rfl rfl rfl rfl dX6_walk_48 ?_
    refine G_iconst dX6_walk_51 ?_
    refine G_aload_n 0 rfl rfl dX6_walk_52 ?_
    refine G_get (k := 3) (kd := (3, 4)) (v := aR (14)) gf_X6_21 rfl rfl rfl rfl dX6_walk_53 ?_
    refine G_iconst dX6_walk_56 ?_
    refine G_bipush (by decide) dX6_walk_57 ?_
    obtain ⟨c26, h⟩ := h
    obtain ⟨σ27, e29⟩ : ∃ τ : Mem, τ = mcpy σ14 14 1 14 0 29 := ⟨_, rfl⟩
    have h := h σ27 e29
    have o28 : OKm σ27 := by rw [e29]; exact OKm.cpy o15 (isLg_row (show shp 14 = (1, 30, []) from rfl)) (isLg_row (show shp 14 = (1, 30, []) from rfl))
    refine G_copy rfl (show shp 14 = (1, 30, []) from rfl) (show shp 14 = (1, 30, []) from rfl) (by decide) (by decide) c26.1 c26.2.1 c26.2.2.1 c26.2.2.2.1 c26.2.2.2.2 (Nat.le_of_ble_eq_true rfl) sf_X6_46 dX6_walk_59 ?_
    rw [← e29]
    refine G_aload_n 0 rfl rfl dX6_walk_62 ?_
    refine G_bipush (by decide) dX6_walk_63 ?_
    obtain ⟨σ30, e32⟩ : ∃ τ : Mem, τ = mset σ27 10 4 29 := ⟨_, rfl⟩
    have h := h σ30 e32
    have o31 : OKm σ30 := by rw [e32]; exact OKm.seti o28 _ _ _ (rL 29 rfl) rfl
    refine G_put (k := 4) (ki := 4) (kd := (0, 0)) (x := _) pf_X6_24 rfl rfl rfl rfl (fa_i (mset_self _ _ _ _)) (fun _ => rfl) (fun _ => rfl) dX6_walk_65 ?_
    rw [← e32]
    refine G_aload_n 0 rfl rfl dX6_walk_68 ?_
    refine G_get (k := 3) (kd := (3, 4)) (v := aR (14)) gf_X6_21 rfl rfl rfl rfl dX6_walk_69 ?_
    refine G_aload_n 0 rfl rfl dX6_walk_72 ?_
    refine G_get (k := 4) (kd := (0, 0)) (v := aI (σ30 10 4)) gf_X6_24 rfl rfl rfl rfl dX6_walk_73 ?_
    refine G_aload_n 0 rfl rfl dX6_walk_76 ?_
    refine G_get (k := 7) (kd := (0, 0)) (v := aI (σ30 10 7)) gf_X6_34 rfl rfl rfl rfl dX6_walk_77 ?_
    refine G_bipush (by decide) dX6_walk_80 ?_
    refine G_ishl dX6_walk_82 ?_
    refine G_iload_n 1 rfl rfl dX6_walk_83 ?_
    refine G_bipush (by decide) dX6_walk_84 ?_
    refine G_ishl dX6_walk_86 ?_
    refine G_ior dX6_walk_87 ?_
    refine G_iload_n 2 rfl rfl dX6_walk_88 ?_
    refine G_bipush (by decide) dX6_walk_89 ?_
    refine G_ishl dX6_walk_91 ?_
    refine G_ior dX6_walk_92 ?_
    refine G_iload 4 rfl dX6_walk_93 ?_
    refine G_ior dX6_walk_95 ?_
    obtain ⟨c33, h⟩ := h
    obtain ⟨σ34, e36⟩ : ∃ τ : Mem, τ = mset σ30 14 (σ30 10 4) (bOr (bOr (bOr (bShl (σ30 10 7) 14) (bShl x1 11)) (bShl x2 7)) x4) := ⟨_, rfl⟩
    have h := h σ34 e36
    have o35 : OKm σ34 := by rw [e36]; exact OKm.seti o31 _ _ _ (r32_of _) (isLg_row (show shp 14 = (1, 30, []) from rfl) _)
    refine G_iast (n := 30) rfl c33.1 c33.2 dX6_walk_96 ?_
    rw [← e36]
    refine G_aload_n 0 rfl rfl dX6_walk_97 ?_
    refine G_dup rfl dX6_walk_98 ?_
    refine G_get (k := 4) (kd := (0, 0)) (v := aI (σ34 10 4)) gf_X6_24 rfl rfl rfl rfl dX6_walk_99 ?_
    refine G_iconst dX6_walk_102 ?_
    refine G_iadd dX6_walk_103 ?_
    obtain ⟨c38, h⟩ := h
    obtain ⟨σ37, e40⟩ : ∃ τ : Mem, τ = mset σ34 10 4 ((σ34 10 4) + 1) := ⟨_, rfl⟩
    have h := h σ37 e40
    have o39 : OKm σ37 := by rw [e40]; exact OKm.seti o35 _ _ _ c38 rfl
    refine G_put (k := 4) (ki := 4) (kd := (0, 0)) (x := _) pf_X6_24 rfl rfl rfl rfl (fa_i (mset_self _ _ _ _)) (fun _ => rfl) (fun _ => rfl) dX6_walk_104 ?_
    rw [← e40]
    exact G_vret rfl dX6_walk_107 ⟨rfl, h⟩ o39

theorem sp_X6_walk (d : Nat) (hd : 0 ≤ d) (σ : Mem) (hO : OKm σ) (x1 : Int) (hx1 : R32 x1) (x2 : Int) (hx2 : R32 x2) (x3 : Int) (hx3 : R32 x3) (x4 : Int) (hx4 : R32 x4) (A : Mem) (hpre : nowC σ A ∧ Cnt A ∧ (0 ≤ x1 ∧ x1 < A 10 1) ∧ (0 ≤ x2 ∧ x2 < A 10 0) ∧ (0 ≤ x4 ∧ x4 ≤ 99) ∧ (0 ≤ A 0 2 ∧ A 0 2 ≤ 9999) ∧ (0 ≤ A 1 x2 ∧ A 1 x2 ≤ 99) ∧ (0 ≤ A 3 x1 ∧ A 3 x1 ≤ 9999)) : Mt yX6_walk cX6_walk 5 none d [aR (10), aI (x1), aI (x2), aI (x3), aI (x4)] σ (QV (fun σ' => nowC σ' (walkS A x1 x2 x3 x4) ∧ Fr [10, 11, 12, 13, 14] σ σ')) := mt_X6_walk hd hx1 hx2 hx3 hx4 hO (by
  unfold wp_X6_walk
  obtain ⟨hN, hC, hg, hr, hs, hd2, hthk, hwent⟩ := hpre
  obtain ⟨hN0, hN1, hN2, hN3⟩ := hN
  unfold Cnt at hC
  have e1 := hN1 x2 hr.1 hr.2
  have e2 := hN2 x1 hg.1 hg.2
  have hbk := bk_enc (dd := A 0 2) (g := x1) (r := x2) (s := x4) (by omega)
  unfold R32 at *
  repeat' (first | (intro _ e; subst e) | (refine And.intro ?_ ?_; first | omega | (simp (disch := omega) only [mset_off, mset_hit, mset_miss, mcpy_off, mcpy_hit, mcpy_miss, mrow_off, mrow_same]; omega)))
  refine And.intro (fun hh => ?_) (fun hh => ?_)
  · simp (disch := omega) only [mset_off] at hh
    have h4 : σ 10 4 < 30 := hh
    refine And.intro ?_ ?_
    · simp (disch := omega) only [mset_off]; omega
    intro _ e; subst e
    refine And.intro ?_ ?_
    · simp (disch := omega) only [mset_off]; omega
    intro _ e; subst e
    refine ⟨⟨?_, fun r h1 h2 => ?_, fun g h1 h2 => ?_, fun i h1 h2 => ?_⟩, ?_⟩
    · unfold walkS
      simp (disch := omega) only [mset_off, mset_hit, mset_miss, bkS_0, bkS_n]
      omega
    · unfold walkS at h2 ⊢
      simp (disch := omega) only [mset_off] at h2
      rw [bkS_off (by omega)] at h2
      simp (disch := omega) only [mset_off]
      by_cases e : r = x2
      · subst e; simp (disch := omega) only [mset_hit, e1]
      · simp (disch := omega) only [mset_off, mset_miss, bkS_off]; exact hN1 r h1 h2
    · unfold walkS at h2 ⊢
      simp (disch := omega) only [mset_off] at h2
      rw [bkS_off (by omega)] at h2
      simp (disch := omega) only [mset_off]
      by_cases e : g = x1
      · subst e; simp (disch := omega) only [mset_hit, e2, and_self]
      · simp (disch := omega) only [mset_off, mset_miss, bkS_off]; exact hN2 g h1 h2
    · unfold walkS at h2 ⊢
      simp (disch := omega) only [mset_off] at h2
      have hc := bkS_c (g := x1) (r := x2) (much := x4) (A := A) (by omega) i h1 h2
      have hb2 : ∀ B : Mem, bkC (mset (mset (mset B 1 x2 (A 1 x2 - x4)) 2 x1 x3) 3 x1 (min 9999 (A 3 x1 + 1))) i = bkC B i := fun B => by
        unfold bkC; simp (disch := omega) only [mset_off]
      rw [hb2, hc, if_pos (by omega)]
      rw [bkS_n (by omega), if_pos (by omega)] at h2
      by_cases e : i = A 0 4
      · simp (disch := omega) only [mset_off, mset_hit, if_pos]
        rw [hN0.2.2.1, hbk]
      · simp (disch := omega) only [mset_off, mset_miss, if_neg]
        exact hN3 i h1 (by omega)
    · intro q hq
      simp only [List.mem_cons, List.not_mem_nil, or_false, not_or] at hq
      funext j
      simp (disch := omega) only [mset_off]
  · simp (disch := omega) only [mset_off] at hh
    have h4 : 30 ≤ σ 10 4 := hh
    refine And.intro ?_ ?_
    · omega
    intro _ e; subst e
    intro _ e; subst e
    refine And.intro ?_ ?_
    · simp (disch := omega) only [mset_off, mset_hit]; omega
    intro _ e; subst e
    refine And.intro ?_ ?_
    · simp (disch := omega) only [mset_off, mset_hit]; omega
    intro _ e; subst e
    refine ⟨⟨?_, fun r h1 h2 => ?_, fun g h1 h2 => ?_, fun i h1 h2 => ?_⟩, ?_⟩
    · unfold walkS
      simp (disch := omega) only [mset_off, mset_hit, mset_miss, mcpy_off, bkS_0, bkS_n]
      omega
    · unfold walkS at h2 ⊢
      simp (disch := omega) only [mset_off] at h2
      rw [bkS_off (by omega)] at h2
      simp (disch := omega) only [mset_off, mcpy_off]
      by_cases e : r = x2
      · subst e; simp (disch := omega) only [mset_hit, e1]
      · simp (disch := omega) only [mset_off, mset_miss, bkS_off]; exact hN1 r h1 h2
    · unfold walkS at h2 ⊢
      simp (disch := omega) only [mset_off] at h2
      rw [bkS_off (by omega)] at h2
      simp (disch := omega) only [mset_off, mcpy_off]
      by_cases e : g = x1
      · subst e; simp (disch := omega) only [mset_hit, e2, and_self]
      · simp (disch := omega) only [mset_off, mset_miss, bkS_off]; exact hN2 g h1 h2
    · unfold walkS at h2 ⊢
      simp (disch := omega) only [mset_off] at h2
      have hc := bkS_c (g := x1) (r := x2) (much := x4) (A := A) (by omega) i h1 h2
      have hb2 : ∀ B : Mem, bkC (mset (mset (mset B 1 x2 (A 1 x2 - x4)) 2 x1 x3) 3 x1 (min 9999 (A 3 x1 + 1))) i = bkC B i := fun B => by
        unfold bkC; simp (disch := omega) only [mset_off]
      rw [hb2, hc, if_neg (by omega)]
      rw [bkS_n (by omega), if_neg (by omega)] at h2
      by_cases e : i = 29
      · simp (disch := omega) only [mset_off, mset_hit, mset_miss, mcpy_off, if_pos]
        rw [hN0.2.2.1, hbk]
      · simp (disch := omega) only [mset_off, mset_hit, mset_miss, mcpy_off, mcpy_hit, if_neg]
        rw [← hN3 (i + 1) (by omega) (by omega)]
        congr 1
        omega
    · intro q hq
      simp only [List.mem_cons, List.not_mem_nil, or_false, not_or] at hq
      funext j
      simp (disch := omega) only [mset_off, mcpy_off])

def wp_X6_restore_k (x2 : Int) (σ : Mem) (Q : Mem → Prop) : Prop :=
  ((x2 < 0) →
    Q σ) ∧
   ((0 ≤ x2) →
    ((x2 ≤ (65 - 65)) →
     (0 ≤ (x2 + 63) ∧ (x2 + 63) < 65) ∧
     (0 ≤ (x2 + 64) ∧ (x2 + 64) < 65) ∧
     ((0 : Int) ≤ x2 ∧ (0 : Int) ≤ 0 ∧ (0 : Int) ≤ (σ 39 (x2 + 63)) ∧ (x2 + (σ 39 (x2 + 63)) : Int) ≤ 65 ∧ (0 + (σ 39 (x2 + 63)) : Int) ≤ 16) ∧
     ∀ σ6 : Mem, σ6 = mcpy σ 39 x2 11 0 (σ 39 (x2 + 63)) →
     ((0 : Int) ≤ (x2 + 16) ∧ (0 : Int) ≤ 0 ∧ (0 : Int) ≤ (σ 39 (x2 + 64)) ∧ ((x2 + 16) + (σ 39 (x2 + 64)) : Int) ≤ 65 ∧ (0 + (σ 39 (x2 + 64)) : Int) ≤ 6) ∧
     ∀ σ10 : Mem, σ10 = mcpy σ6 39 (x2 + 16) 12 0 (σ 39 (x2 + 64)) →
     ((0 : Int) ≤ (x2 + 22) ∧ (0 : Int) ≤ 0 ∧ (0 : Int) ≤ (σ 39 (x2 + 64)) ∧ ((x2 + 22) + (σ 39 (x2 + 64)) : Int) ≤ 65 ∧ (0 + (σ 39 (x2 + 64)) : Int) ≤ 6) ∧
     ∀ σ14 : Mem, σ14 = mcpy σ10 39 (x2 + 22) 13 0 (σ 39 (x2 + 64)) →
     ((0 : Int) ≤ (x2 + 28) ∧ (0 : Int) ≤ 0 ∧ (0 : Int) ≤ 30 ∧ ((x2 + 28) + 30 : Int) ≤ 65 ∧ (0 + 30 : Int) ≤ 30) ∧
     ∀ σ18 : Mem, σ18 = mcpy σ14 39 (x2 + 28) 14 0 30 →
     (0 ≤ (x2 + 58) ∧ (x2 + 58) < 65) ∧
     ∀ σ22 : Mem, σ22 = mset σ18 10 5 (σ18 39 (x2 + 58)) →
     (0 ≤ (x2 + 59) ∧ (x2 + 59) < 65) ∧
     ∀ σ26 : Mem, σ26 = mset σ22 10 6 (σ22 39 (x2 + 59)) →
     (0 ≤ (x2 + 60) ∧ (x2 + 60) < 65) ∧
     ∀ σ30 : Mem, σ30 = mset σ26 10 7 (σ26 39 (x2 + 60)) →
     (0 ≤ (x2 + 61) ∧ (x2 + 61) < 65) ∧
     ∀ σ34 : Mem, σ34 = mset σ30 10 8 (σ30 39 (x2 + 61)) →
     (0 ≤ (x2 + 62) ∧ (x2 + 62) < 65) ∧
     ∀ σ38 : Mem, σ38 = mset σ34 10 4 (σ34 39 (x2 + 62)) →
     Q σ38) ∧
    (((65 - 65) < x2) →
     Q σ))
theorem mt_X6_restore_k {d : Nat} (hd : 0 ≤ d) {x2 : Int} {σ : Mem} {Q : Mem → Prop} (hx2 : R32 x2) (hO : OKm σ) (h : wp_X6_restore_k x2 σ Q) : Mt yX6_restore cX6_restore 5 none d [aR (10), aR (39), aI (x2)] σ (QV Q) := by
  refine Mt.intro (by decide +kernel) (Nat.le_of_ble_eq_true rfl) [(0, aR (10)), (1, aR (39)), (2, aI (x2))] rfl ?_
  unfold wp_X6_restore_k at h
  refine G_iload_n 2 rfl rfl dX6_restore_0 ?_
  refine G_if_lt hx2 dX6_restore_1 (tgt := 13) (by decide) (fun c1 => ?_) (fun c1 => ?_)
  · have h := h.1 c1
    exact G_vret rfl dX6_restore_13 ⟨rfl, h⟩ hO
  · have h := h.2 c1
    refine G_iload_n 2 rfl rfl dX6_restore_4 ?_
    refine G_aload_n 1 rfl rfl dX6_restore_5 ?_
    refine G_alen (v := 65) (n := 65) rfl (by decide) (by decide) rfl dX6_restore_6 ?_
    refine G_bipush (by decide) dX6_restore_7 ?_
    refine G_isub dX6_restore_9 ?_
    refine G_icmp_le hx2 (rL (65 - 65) rfl) dX6_restore_10 (tgt := 14) (by decide) (fun c2 => ?_) (fun c2 => ?_)
    · have h := h.1 c2
      refine G_aload_n 1 rfl rfl dX6_restore_14 ?_
      refine G_iload_n 2 rfl rfl dX6_restore_15 ?_
      refine G_bipush (by decide) dX6_restore_16 ?_
      refine G_iadd dX6_restore_18 ?_
      obtain ⟨c3, h⟩ := h
      refine G_iald (n := 65) rfl c3.1 c3.2 dX6_restore_19 ?_
      refine G_istore_n (lv' := [(3, aI ((σ 39 (x2 + 63)))), (0, aR (10)), (1, aR (39)), (2, aI (x2))]) rfl rfl (by decide) dX6_restore_20 ?_
      refine G_aload_n 2 rfl rfl dX6_restore_21 ?_
      refine G_iload_n 3 rfl rfl dX6_restore_22 ?_
      refine G_bipush (by decide) dX6_restore_23 ?_
      refine G_iadd dX6_restore_25 ?_
      obtain ⟨c4, h⟩ := h
      refine G_iald (n := 65) rfl c4.1 c4.2 dX6_restore_26 ?_
      refine G_istore (lv' := [(4, aI ((σ 39 (x2 + 64)))), (3, aI ((σ 39 (x2 + 63)))), (0, aR (10)), (1, aR (39)), (2, aI (x2))]) rfl (by decide) dX6_restore_27 ?_
      refine G_aload_n 3 rfl rfl dX6_restore_29 ?_
      refine G_iload_n 4 rfl rfl dX6_restore_30 ?_
      refine G_aload_n 2 rfl rfl dX6_restore_31 ?_
      refine G_get (k := 0) (kd := (3, 1)) (v := aR (11)) gf_X6_11 rfl rfl rfl rfl dX6_restore_32 ?_
      refine G_iconst dX6_restore_35 ?_
      refine G_iload_n 1 rfl rfl dX6_restore_36 ?_
      obtain ⟨c5, h⟩ := h
      obtain ⟨σ6, e8⟩ : ∃ τ : Mem, τ = mcpy σ 39 x2 11 0 (σ 39 (x2 + 63)) := ⟨_, rfl⟩
      have h := h σ6 e8
      have o7 : OKm σ6 := by rw [e8]; exact OKm.cpy hO (isLg_row (show shp 39 = (1, 65, []) from rfl)) (isLg_row (show shp 11 = (1, 16, []) from rfl))
      refine G_copy rfl (show shp 39 = (1, 65, []) from rfl) (show shp 11 = (1, 16, []) from rfl) (by decide) (by decide) c5.1 c5.2.1 c5.2.2.1 c5.2.2.2.1 c5.2.2.2.2 (Nat.le_of_ble_eq_true rfl) sf_X6_46 dX6_restore_37 ?_
      rw [← e8]
      refine G_aload_n 3 rfl rfl dX6_restore_40 ?_
      refine G_iload_n 4 rfl rfl dX6_restore_41 ?_
      refine G_bipush (by decide) dX6_restore_42 ?_
      refine G_iadd dX6_restore_44 ?_
      refine G_aload_n 2 rfl rfl dX6_restore_45 ?_
      refine G_get (k := 1) (kd := (3, 2)) (v := aR (12)) gf_X6_15 rfl rfl rfl rfl dX6_restore_46 ?_
      refine G_iconst dX6_restore_49 ?_
      refine G_iload 0 rfl dX6_restore_50 ?_
      obtain ⟨c9, h⟩ := h
      obtain ⟨σ10, e12⟩ : ∃ τ : Mem, τ = mcpy σ6 39 (x2 + 16) 12 0 (σ 39 (x2 + 64)) := ⟨_, rfl⟩
      have h := h σ10 e12
      have o11 : OKm σ10 := by rw [e12]; exact OKm.cpy o7 (isLg_row (show shp 39 = (1, 65, []) from rfl)) (isLg_row (show shp 12 = (1, 6, []) from rfl))
      refine G_copy rfl (show shp 39 = (1, 65, []) from rfl) (show shp 12 = (1, 6, []) from rfl) (by decide) (by decide) c9.1 c9.2.1 c9.2.2.1 c9.2.2.2.1 c9.2.2.2.2 (Nat.le_of_ble_eq_true rfl) sf_X6_46 dX6_restore_52 ?_
      rw [← e12]
      refine G_aload_n 3 rfl rfl dX6_restore_55 ?_
      refine G_iload_n 4 rfl rfl dX6_restore_56 ?_
      refine G_bipush (by decide) dX6_restore_57 ?_
      refine G_iadd dX6_restore_59 ?_
      refine G_aload_n 2 rfl rfl dX6_restore_60 ?_
      refine G_get (k := 2) (kd := (3, 3)) (v := aR (13)) gf_X6_18 rfl rfl rfl rfl dX6_restore_61 ?_
      refine G_iconst dX6_restore_64 ?_
      refine G_iload 0 rfl dX6_restore_65 ?_
      obtain ⟨c13, h⟩ := h
      obtain ⟨σ14, e16⟩ : ∃ τ : Mem, τ = mcpy σ10 39 (x2 + 22) 13 0 (σ 39 (x2 + 64)) := ⟨_, rfl⟩
      have h := h σ14 e16
      have o15 : OKm σ14 := by rw [e16]; exact OKm.cpy o11 (isLg_row (show shp 39 = (1, 65, []) from rfl)) (isLg_row (show shp 13 = (1, 6, []) from rfl))
      refine G_copy rfl (show shp 39 = (1, 65, []) from rfl) (show shp 13 = (1, 6, []) from rfl) (by decide) (by decide) c13.1 c13.2.1 c13.2.2.1 c13.2.2.2.1 c13.2.2.2.2 (Nat.le_of_ble_eq_true rfl) sf_X6_46 dX6_restore_67 ?_
      rw [← e16]
      refine G_aload_n 3 rfl rfl dX6_restore_70 ?_
      refine G_iload_n 4 rfl rfl dX6_restore_71 ?_
      refine G_bipush (by decide) dX6_restore_72 ?_
      refine G_iadd dX6_restore_74 ?_
      refine G_aload_n 2 rfl rfl dX6_restore_75 ?_
      refine G_get (k := 3) (kd := (3, 4)) (v := aR (14)) gf_X6_21 rfl rfl rfl rfl dX6_restore_76 ?_
      refine G_iconst dX6_restore_79 ?_
      refine G_aload_n 2 rfl rfl dX6_restore_80 ?_
      refine G_get (k := 3) (kd := (3, 4)) (v := aR (14)) gf_X6_21 rfl rfl rfl rfl dX6_restore_81 ?_
      refine G_alen (v := 30) (n := 30) rfl (by decide) (by decide) rfl dX6_restore_84 ?_
      obtain ⟨c17, h⟩ := h
      obtain ⟨σ18, e20⟩ : ∃ τ : Mem, τ = mcpy σ14 39 (x2 + 28) 14 0 30 := ⟨_, rfl⟩
      have h := h σ18 e20
      have o19 : OKm σ18 := by rw [e20]; exact OKm.cpy o15 (isLg_row (show shp 39 = (1, 65, []) from rfl)) (isLg_row (show shp 14 = (1, 30, []) from rfl))
      refine G_copy rfl (show shp 39 = (1, 65, []) from rfl) (show shp 14 = (1, 30, []) from rfl) (by decide) (by decide) c17.1 c17.2.1 c17.2.2.1 c17.2.2.2.1 c17.2.2.2.2 (Nat.le_of_ble_eq_true rfl) sf_X6_46 dX6_restore_85 ?_
      rw [← e20]
      refine G_aload_n 2 rfl rfl dX6_restore_88 ?_
      refine G_aload_n 3 rfl rfl dX6_restore_89 ?_
      refine G_iload_n 4 rfl rfl dX6_restore_90 ?_
      refine G_bipush (by decide) dX6_restore_91 ?_
      refine G_iadd dX6_restore_93 ?_
      obtain ⟨c21, h⟩ := h
      refine G_iald (n := 65) rfl c21.1 c21.2 dX6_restore_94 ?_
      obtain ⟨σ22, e24⟩ : ∃ τ : Mem, τ = mset σ18 10 5 (σ18 39 (x2 + 58)) := ⟨_, rfl⟩
      have h := h σ22 e24
      have o23 : OKm σ22 := by rw [e24]; exact OKm.seti o19 _ _ _ (OKm.i o19 39 (x2 + 58) (isLg_row (show shp 39 = (1, 65, []) from rfl) _)) rfl
      refine G_put (k := 5) (ki := 5) (kd := (0, 0)) (x := _) pf_X6_28 rfl rfl rfl rfl (fa_i (mset_self _ _ _ _)) (fun _ => rfl) (fun _ => rfl) dX6_restore_95 ?_
      rw [← e24]
      refine G_aload_n 2 rfl rfl dX6_restore_98 ?_
      refine G_aload_n 3 rfl rfl dX6_restore_99 ?_
      refine G_iload_n 4 rfl rfl dX6_restore_100 ?_
      refine G_bipush (by decide) dX6_restore_101 ?_
      refine G_iadd dX6_restore_103 ?_
      obtain ⟨c25, h⟩ := h
      refine G_iald (n := 65) rfl c25.1 c25.2 dX6_restore_104 ?_
      obtain ⟨σ26, e28⟩ : ∃ τ : Mem, τ = mset σ22 10 6 (σ22 39 (x2 + 59)) := ⟨_, rfl⟩
      have h := h σ26 e28
      have o27 : OKm σ26 := by rw [e28]; exact OKm.seti o23 _ _ _ (OKm.i o23 39 (x2 + 59) (isLg_row (show shp 39 = (1, 65, []) from rfl) _)) rfl
      refine G_put (k := 6) (ki := 6) (kd := (0, 0)) (x := _) pf_X6_31 rfl rfl rfl rfl (fa_i (mset_self _ _ _ _)) (fun _ => rfl) (fun _ => rfl) dX6_restore_105 ?_
      rw [← e28]
      refine G_aload_n 2 rfl rfl dX6_restore_108 ?_
      refine G_aload_n 3 rfl rfl dX6_restore_109 ?_
      refine G_iload_n 4 rfl rfl dX6_restore_110 ?_
      refine G_bipush (by decide) dX6_restore_111 ?_
      refine G_iadd dX6_restore_113 ?_
      obtain ⟨c29, h⟩ := h
      refine G_iald (n := 65) rfl c29.1 c29.2 dX6_restore_114 ?_
      obtain ⟨σ30, e32⟩ : ∃ τ : Mem, τ = mset σ26 10 7 (σ26 39 (x2 + 60)) := ⟨_, rfl⟩
      have h := h σ30 e32
      have o31 : OKm σ30 := by rw [e32]; exact OKm.seti o27 _ _ _ (OKm.i o27 39 (x2 + 60) (isLg_row (show shp 39 = (1, 65, []) from rfl) _)) rfl
      refine G_put (k := 7) (ki := 7) (kd := (0, 0)) (x := _) pf_X6_34 rfl rfl rfl rfl (fa_i (mset_self _ _ _ _)) (fun _ => rfl) (fun _ => rfl) dX6_restore_115 ?_
      rw [← e32]
      refine G_aload_n 2 rfl rfl dX6_restore_118 ?_
      refine G_aload_n 3 rfl rfl dX6_restore_119 ?_
      refine G_iload_n 4 rfl rfl dX6_restore_120 ?_
      refine G_bipush (by decide) dX6_restore_121 ?_
      refine G_iadd dX6_restore_123 ?_
      obtain ⟨c33, h⟩ := h
      refine G_iald (n := 65) rfl c33.1 c33.2 dX6_restore_124 ?_
      obtain ⟨σ34, e36⟩ : ∃ τ : Mem, τ = mset σ30 10 8 (σ30 39 (x2 + 61)) := ⟨_, rfl⟩
      have h := h σ34 e36
      have o35 : OKm σ34 := by rw [e36]; exact OKm.seti o31 _ _ _ (OKm.i o31 39 (x2 + 61) (isLg_row (show shp 39 = (1, 65, []) from rfl) _)) rfl
      refine G_put (k := 8) (ki := 8) (kd := (0, 0)) (x := _) pf_X6_37 rfl rfl rfl rfl (fa_i (mset_self _ _ _ _)) (fun _ => rfl) (fun _ => rfl) dX6_restore_125 ?_
      rw [← e36]
      refine G_aload_n 2 rfl rfl dX6_restore_128 ?_
      refine G_aload_n 3 rfl rfl dX6_restore_129 ?_
      refine G_iload_n 4 rfl rfl dX6_restore_130 ?_
      refine G_bipush (by decide) dX6_restore_131 ?_
      refine G_iadd dX6_restore_133 ?_
      obtain ⟨c37, h⟩ := h
      refine G_iald (n := 65) rfl c37.1 c37.2 dX6_restore_134 ?_
      obtain ⟨σ38, e40⟩ : ∃ τ : Mem, τ = mset σ34 10 4 (σ34 39 (x2 + 62)) := ⟨_, rfl⟩
      have h := h σ38 e40
      have o39 : OKm σ38 := by rw [e40]; exact OKm.seti o35 _ _ _ (OKm.i o35 39 (x2 + 62) (isLg_row (show shp 39 = (1, 65, []) from rfl) _)) rfl
      refine G_put (k := 4) (ki := 4) (kd := (0, 0)) (x := _) pf_X6_24 rfl rfl rfl rfl (fa_i (mset_self _ _ _ _)) (fun _ => rfl) (fun _ => rfl) dX6_restore_135 ?_
      rw [← e40]
      exact G_vret rfl dX6_restore_138 ⟨rfl, h⟩ o39
    · have h := h.2 c2
      exact G_vret rfl dX6_restore_13 ⟨rfl, h⟩ hO

theorem sp_X6_restore_k (d : Nat) (hd : 0 ≤ d) (σ : Mem) (hO : OKm σ) (x2 : Int) (hx2 : R32 x2) (B : Mem) (hpre : rowC σ 39 x2 B ∧ Cnt B ∧ (0 ≤ x2 ∧ x2 + 65 ≤ 65)) : Mt yX6_restore cX6_restore 5 none d [aR (10), aR (39), aI (x2)] σ (QV (fun σ' => restC σ σ' B ∧ Fr [10, 11, 12, 13, 14] σ σ')) := mt_X6_restore_k hd hx2 hO (by
  unfold wp_X6_restore_k
  obtain ⟨⟨hN0, hN1, hN2, hN3⟩, hC, hx⟩ := hpre
  unfold Cnt at hC
  unfold R32 at *
  have h63 := hN0.2.2.2.2.2.1
  have h64 := hN0.2.2.2.2.2.2
  refine ⟨fun h => ?_, fun h => ⟨fun h2 => ?_, fun h2 => ?_⟩⟩
  · omega
  rotate_left
  · omega
  repeat' (first | (intro _ e; subst e) | (refine And.intro ?_ ?_; first | omega | (simp (disch := omega) only [mset_off, mset_hit, mset_miss, mcpy_off, mcpy_hit, mcpy_miss, mrow_off, mrow_same]; omega)))
  refine ⟨⟨?_, fun r h1 h2 => ?_, fun r h1 => ?_, fun g h1 h2 => ?_, fun g h1 => ?_, fun i h1 h2 => ?_⟩, ?_⟩
  · simp (disch := omega) only [mset_off, mset_hit, mset_miss, mcpy_off, mcpy_hit, mcpy_miss, mrow_off, mrow_same]
    exact ⟨hN0.1, hN0.2.1, hN0.2.2.1, hN0.2.2.2.1, hN0.2.2.2.2.1⟩
  · simp (disch := omega) only [mset_off, mset_hit, mset_miss, mcpy_off, mcpy_hit, mcpy_miss, mrow_off, mrow_same]
    rw [← hN1 r h1 h2]; congr 1; omega
  · simp (disch := omega) only [mset_off, mset_hit, mset_miss, mcpy_off, mcpy_hit, mcpy_miss, mrow_off, mrow_same]
  · simp (disch := omega) only [mset_off, mset_hit, mset_miss, mcpy_off, mcpy_hit, mcpy_miss, mrow_off, mrow_same]
    rw [← (hN2 g h1 h2).1, ← (hN2 g h1 h2).2]
    constructor <;> (congr 1; omega)
  · simp (disch := omega) only [mset_off, mset_hit, mset_miss, mcpy_off, mcpy_hit, mcpy_miss, mrow_off, mrow_same]
    exact ⟨trivial, trivial⟩
  · simp (disch := omega) only [mset_off, mset_hit, mset_miss, mcpy_off, mcpy_hit, mcpy_miss, mrow_off, mrow_same]
    rw [← hN3 i h1 h2]; congr 1; omega
  · intro q hq
    simp only [List.mem_cons, List.not_mem_nil, or_false, not_or] at hq
    funext j
    simp (disch := omega) only [mset_off, mset_hit, mset_miss, mcpy_off, mcpy_hit, mcpy_miss, mrow_off, mrow_same])

def wp_X6_restore_i (x2 : Int) (σ : Mem) (Q : Mem → Prop) : Prop :=
  ((x2 < 0) →
    Q σ) ∧
   ((0 ≤ x2) →
    ((x2 ≤ (65 - 65)) →
     (0 ≤ (x2 + 63) ∧ (x2 + 63) < 65) ∧
     (0 ≤ (x2 + 64) ∧ (x2 + 64) < 65) ∧
     ((0 : Int) ≤ x2 ∧ (0 : Int) ≤ 0 ∧ (0 : Int) ≤ (σ 26 (x2 + 63)) ∧ (x2 + (σ 26 (x2 + 63)) : Int) ≤ 65 ∧ (0 + (σ 26 (x2 + 63)) : Int) ≤ 16) ∧
     ∀ σ6 : Mem, σ6 = mcpy σ 26 x2 11 0 (σ 26 (x2 + 63)) →
     ((0 : Int) ≤ (x2 + 16) ∧ (0 : Int) ≤ 0 ∧ (0 : Int) ≤ (σ 26 (x2 + 64)) ∧ ((x2 + 16) + (σ 26 (x2 + 64)) : Int) ≤ 65 ∧ (0 + (σ 26 (x2 + 64)) : Int) ≤ 6) ∧
     ∀ σ10 : Mem, σ10 = mcpy σ6 26 (x2 + 16) 12 0 (σ 26 (x2 + 64)) →
     ((0 : Int) ≤ (x2 + 22) ∧ (0 : Int) ≤ 0 ∧ (0 : Int) ≤ (σ 26 (x2 + 64)) ∧ ((x2 + 22) + (σ 26 (x2 + 64)) : Int) ≤ 65 ∧ (0 + (σ 26 (x2 + 64)) : Int) ≤ 6) ∧
     ∀ σ14 : Mem, σ14 = mcpy σ10 26 (x2 + 22) 13 0 (σ 26 (x2 + 64)) →
     ((0 : Int) ≤ (x2 + 28) ∧ (0 : Int) ≤ 0 ∧ (0 : Int) ≤ 30 ∧ ((x2 + 28) + 30 : Int) ≤ 65 ∧ (0 + 30 : Int) ≤ 30) ∧
     ∀ σ18 : Mem, σ18 = mcpy σ14 26 (x2 + 28) 14 0 30 →
     (0 ≤ (x2 + 58) ∧ (x2 + 58) < 65) ∧
     ∀ σ22 : Mem, σ22 = mset σ18 10 5 (σ18 26 (x2 + 58)) →
     (0 ≤ (x2 + 59) ∧ (x2 + 59) < 65) ∧
     ∀ σ26 : Mem, σ26 = mset σ22 10 6 (σ22 26 (x2 + 59)) →
     (0 ≤ (x2 + 60) ∧ (x2 + 60) < 65) ∧
     ∀ σ30 : Mem, σ30 = mset σ26 10 7 (σ26 26 (x2 + 60)) →
     (0 ≤ (x2 + 61) ∧ (x2 + 61) < 65) ∧
     ∀ σ34 : Mem, σ34 = mset σ30 10 8 (σ30 26 (x2 + 61)) →
     (0 ≤ (x2 + 62) ∧ (x2 + 62) < 65) ∧
     ∀ σ38 : Mem, σ38 = mset σ34 10 4 (σ34 26 (x2 + 62)) →
     Q σ38) ∧
    (((65 - 65) < x2) →
     Q σ))
theorem mt_X6_restore_i {d : Nat} (hd : 0 ≤ d) {x2 : Int} {σ : Mem} {Q : Mem → Prop} (hx2 : R32 x2) (hO : OKm σ) (h : wp_X6_restore_i x2 σ Q) : Mt yX6_restore cX6_restore 5 none d [aR (10), aR (26), aI (x2)] σ (QV Q) := by
  refine Mt.intro (by decide +kernel) (Nat.le_of_ble_eq_true rfl) [(0, aR (10)), (1, aR (26)), (2, aI (x2))] rfl ?_
  unfold wp_X6_restore_i at h
  refine G_iload_n 2 rfl rfl dX6_restore_0 ?_
  refine G_if_lt hx2 dX6_restore_1 (tgt := 13) (by decide) (fun c1 => ?_) (fun c1 => ?_)
  · have h := h.1 c1
    exact G_vret rfl dX6_restore_13 ⟨rfl, h⟩ hO
  · have h := h.2 c1
    refine G_iload_n 2 rfl rfl dX6_restore_4 ?_
    refine G_aload_n 1 rfl rfl dX6_restore_5 ?_
    refine G_alen (v := 65) (n := 65) rfl (by decide) (by decide) rfl dX6_restore_6 ?_
    refine G_bipush (by decide) dX6_restore_7 ?_
    refine G_isub dX6_restore_9 ?_
    refine G_icmp_le hx2 (rL (65 - 65) rfl) dX6_restore_10 (tgt := 14) (by decide) (fun c2 => ?_) (fun c2 => ?_)
    · have h := h.1 c2
      refine G_aload_n 1 rfl rfl dX6_restore_14 ?_
      refine G_iload_n 2 rfl rfl dX6_restore_15 ?_
      refine G_bipush (by decide) dX6_restore_16 ?_
      refine G_iadd dX6_restore_18 ?_
      obtain ⟨c3, h⟩ := h
      refine G_iald (n := 65) rfl c3.1 c3.2 dX6_restore_19 ?_
      refine G_istore_n (lv' := [(3, aI ((σ 26 (x2 + 63)))), (0, aR (10)), (1, aR (26)), (2, aI (x2))]) rfl rfl (by decide) dX6_restore_20 ?_
      refine G_aload_n 2 rfl rfl dX6_restore_21 ?_
      refine G_iload_n 3 rfl rfl dX6_restore_22 ?_
      refine G_bipush (by decide) dX6_restore_23 ?_
      refine G_iadd dX6_restore_25 ?_
      obtain ⟨c4, h⟩ := h
      refine G_iald (n := 65) rfl c4.1 c4.2 dX6_restore_26 ?_
      refine G_istore (lv' := [(4, aI ((σ 26 (x2 + 64)))), (3, aI ((σ 26 (x2 + 63)))), (0, aR (10)), (1, aR (26)), (2, aI (x2))]) rfl (by decide) dX6_restore_27 ?_
      refine G_aload_n 3 rfl rfl dX6_restore_29 ?_
      refine G_iload_n 4 rfl rfl dX6_restore_30 ?_
      refine G_aload_n 2 rfl rfl dX6_restore_31 ?_
      refine G_get (k := 0) (kd := (3, 1)) (v := aR (11)) gf_X6_11 rfl rfl rfl rfl dX6_restore_32 ?_
      refine G_iconst dX6_restore_35 ?_
      refine G_iload_n 1 rfl rfl dX6_restore_36 ?_
      obtain ⟨c5, h⟩ := h
      obtain ⟨σ6, e8⟩ : ∃ τ : Mem, τ = mcpy σ 26 x2 11 0 (σ 26 (x2 + 63)) := ⟨_, rfl⟩
      have h := h σ6 e8
      have o7 : OKm σ6 := by rw [e8]; exact OKm.cpy hO (isLg_row (show shp 26 = (1, 65, []) from rfl)) (isLg_row (show shp 11 = (1, 16, []) from rfl))
      refine G_copy rfl (show shp 26 = (1, 65, []) from rfl) (show shp 11 = (1, 16, []) from rfl) (by decide) (by decide) c5.1 c5.2.1 c5.2.2.1 c5.2.2.2.1 c5.2.2.2.2 (Nat.le_of_ble_eq_true rfl) sf_X6_46 dX6_restore_37 ?_
      rw [← e8]
      refine G_aload_n 3 rfl rfl dX6_restore_40 ?_
      refine G_iload_n 4 rfl rfl dX6_restore_41 ?_
      refine G_bipush (by decide) dX6_restore_42 ?_
      refine G_iadd dX6_restore_44 ?_
      refine G_aload_n 2 rfl rfl dX6_restore_45 ?_
      refine G_get (k := 1) (kd := (3, 2)) (v := aR (12)) gf_X6_15 rfl rfl rfl rfl dX6_restore_46 ?_
      refine G_iconst dX6_restore_49 ?_
      refine G_iload 0 rfl dX6_restore_50 ?_
      obtain ⟨c9, h⟩ := h
      obtain ⟨σ10, e12⟩ : ∃ τ : Mem, τ = mcpy σ6 26 (x2 + 16) 12 0 (σ 26 (x2 + 64)) := ⟨_, rfl⟩
      have h := h σ10 e12
      have o11 : OKm σ10 := by rw [e12]; exact OKm.cpy o7 (isLg_row (show shp 26 = (1, 65, []) from rfl)) (isLg_row (show shp 12 = (1, 6, []) from rfl))
      refine G_copy rfl (show shp 26 = (1, 65, []) from rfl) (show shp 12 = (1, 6, []) from rfl) (by decide) (by decide) c9.1 c9.2.1 c9.2.2.1 c9.2.2.2.1 c9.2.2.2.2 (Nat.le_of_ble_eq_true rfl) sf_X6_46 dX6_restore_52 ?_
      rw [← e12]
      refine G_aload_n 3 rfl rfl dX6_restore_55 ?_
      refine G_iload_n 4 rfl rfl dX6_restore_56 ?_
      refine G_bipush (by decide) dX6_restore_57 ?_
      refine G_iadd dX6_restore_59 ?_
      refine G_aload_n 2 rfl rfl dX6_restore_60 ?_
      refine G_get (k := 2) (kd := (3, 3)) (v := aR (13)) gf_X6_18 rfl rfl rfl rfl dX6_restore_61 ?_
      refine G_iconst dX6_restore_64 ?_
      refine G_iload 0 rfl dX6_restore_65 ?_
      obtain ⟨c13, h⟩ := h
      obtain ⟨σ14, e16⟩ : ∃ τ : Mem, τ = mcpy σ10 26 (x2 + 22) 13 0 (σ 26 (x2 + 64)) := ⟨_, rfl⟩
      have h := h σ14 e16
      have o15 : OKm σ14 := by rw [e16]; exact OKm.cpy o11 (isLg_row (show shp 26 = (1, 65, []) from rfl)) (isLg_row (show shp 13 = (1, 6, []) from rfl))
      refine G_copy rfl (show shp 26 = (1, 65, []) from rfl) (show shp 13 = (1, 6, []) from rfl) (by decide) (by decide) c13.1 c13.2.1 c13.2.2.1 c13.2.2.2.1 c13.2.2.2.2 (Nat.le_of_ble_eq_true rfl) sf_X6_46 dX6_restore_67 ?_
      rw [← e16]
      refine G_aload_n 3 rfl rfl dX6_restore_70 ?_
      refine G_iload_n 4 rfl rfl dX6_restore_71 ?_
      refine G_bipush (by decide) dX6_restore_72 ?_
      refine G_iadd dX6_restore_74 ?_
      refine G_aload_n 2 rfl rfl dX6_restore_75 ?_
      refine G_get (k := 3) (kd := (3, 4)) (v := aR (14)) gf_X6_21 rfl rfl rfl rfl dX6_restore_76 ?_
      refine G_iconst dX6_restore_79 ?_
      refine G_aload_n 2 rfl rfl dX6_restore_80 ?_
      refine G_get (k := 3) (kd := (3, 4)) (v := aR (14)) gf_X6_21 rfl rfl rfl rfl dX6_restore_81 ?_
      refine G_alen (v := 30) (n := 30) rfl (by decide) (by decide) rfl dX6_restore_84 ?_
      obtain ⟨c17, h⟩ := h
      obtain ⟨σ18, e20⟩ : ∃ τ : Mem, τ = mcpy σ14 26 (x2 + 28) 14 0 30 := ⟨_, rfl⟩
      have h := h σ18 e20
      have o19 : OKm σ18 := by rw [e20]; exact OKm.cpy o15 (isLg_row (show shp 26 = (1, 65, []) from rfl)) (isLg_row (show shp 14 = (1, 30, []) from rfl))
      refine G_copy rfl (show shp 26 = (1, 65, []) from rfl) (show shp 14 = (1, 30, []) from rfl) (by decide) (by decide) c17.1 c17.2.1 c17.2.2.1 c17.2.2.2.1 c17.2.2.2.2 (Nat.le_of_ble_eq_true rfl) sf_X6_46 dX6_restore_85 ?_
      rw [← e20]
      refine G_aload_n 2 rfl rfl dX6_restore_88 ?_
      refine G_aload_n 3 rfl rfl dX6_restore_89 ?_
      refine G_iload_n 4 rfl rfl dX6_restore_90 ?_
      refine G_bipush (by decide) dX6_restore_91 ?_
      refine G_iadd dX6_restore_93 ?_
      obtain ⟨c21, h⟩ := h
      refine G_iald (n := 65) rfl c21.1 c21.2 dX6_restore_94 ?_
      obtain ⟨σ22, e24⟩ : ∃ τ : Mem, τ = mset σ18 10 5 (σ18 26 (x2 + 58)) := ⟨_, rfl⟩
      have h := h σ22 e24
      have o23 : OKm σ22 := by rw [e24]; exact OKm.seti o19 _ _ _ (OKm.i o19 26 (x2 + 58) (isLg_row (show shp 26 = (1, 65, []) from rfl) _)) rfl
      refine G_put (k := 5) (ki := 5) (kd := (0, 0)) (x := _) pf_X6_28 rfl rfl rfl rfl (fa_i (mset_self _ _ _ _)) (fun _ => rfl) (fun _ => rfl) dX6_restore_95 ?_
      rw [← e24]
      refine G_aload_n 2 rfl rfl dX6_restore_98 ?_
      refine G_aload_n 3 rfl rfl dX6_restore_99 ?_
      refine G_iload_n 4 rfl rfl dX6_restore_100 ?_
      refine G_bipush (by decide) dX6_restore_101 ?_
      refine G_iadd dX6_restore_103 ?_
      obtain ⟨c25, h⟩ := h
      refine G_iald (n := 65) rfl c25.1 c25.2 dX6_restore_104 ?_
      obtain ⟨σ26, e28⟩ : ∃ τ : Mem, τ = mset σ22 10 6 (σ22 26 (x2 + 59)) := ⟨_, rfl⟩
      have h := h σ26 e28
      have o27 : OKm σ26 := by rw [e28]; exact OKm.seti o23 _ _ _ (OKm.i o23 26 (x2 + 59) (isLg_row (show shp 26 = (1, 65, []) from rfl) _)) rfl
      refine G_put (k := 6) (ki := 6) (kd := (0, 0)) (x := _) pf_X6_31 rfl rfl rfl rfl (fa_i (mset_self _ _ _ _)) (fun _ => rfl) (fun _ => rfl) dX6_restore_105 ?_
      rw [← e28]
      refine G_aload_n 2 rfl rfl dX6_restore_108 ?_
      refine G_aload_n 3 rfl rfl dX6_restore_109 ?_
      refine G_iload_n 4 rfl rfl dX6_restore_110 ?_
      refine G_bipush (by decide) dX6_restore_111 ?_
      refine G_iadd dX6_restore_113 ?_
      obtain ⟨c29, h⟩ := h
      refine G_iald (n := 65) rfl c29.1 c29.2 dX6_restore_114 ?_
      obtain ⟨σ30, e32⟩ : ∃ τ : Mem, τ = mset σ26 10 7 (σ26 26 (x2 + 60)) := ⟨_, rfl⟩
      have h := h σ30 e32
      have o31 : OKm σ30 := by rw [e32]; exact OKm.seti o27 _ _ _ (OKm.i o27 26 (x2 + 60) (isLg_row (show shp 26 = (1, 65, []) from rfl) _)) rfl
      refine G_put (k := 7) (ki := 7) (kd := (0, 0)) (x := _) pf_X6_34 rfl rfl rfl rfl (fa_i (mset_self _ _ _ _)) (fun _ => rfl) (fun _ => rfl) dX6_restore_115 ?_
      rw [← e32]
      refine G_aload_n 2 rfl rfl dX6_restore_118 ?_
      refine G_aload_n 3 rfl rfl dX6_restore_119 ?_
      refine G_iload_n 4 rfl rfl dX6_restore_120 ?_
      refine G_bipush (by decide) dX6_restore_121 ?_
      refine G_iadd dX6_restore_123 ?_
      obtain ⟨c33, h⟩ := h
      refine G_iald (n := 65) rfl c33.1 c33.2 dX6_restore_124 ?_
      obtain ⟨σ34, e36⟩ : ∃ τ : Mem, τ = mset σ30 10 8 (σ30 26 (x2 + 61)) := ⟨_, rfl⟩
      have h := h σ34 e36
      have o35 : OKm σ34 := by rw [e36]; exact OKm.seti o31 _ _ _ (OKm.i o31 26 (x2 + 61) (isLg_row (show shp 26 = (1, 65, []) from rfl) _)) rfl
      refine G_put (k := 8) (ki := 8) (kd := (0, 0)) (x := _) pf_X6_37 rfl rfl rfl rfl (fa_i (mset_self _ _ _ _)) (fun _ => rfl) (fun _ => rfl) dX6_restore_125 ?_
      rw [← e36]
      refine G_aload_n 2 rfl rfl dX6_restore_128 ?_
      refine G_aload_n 3 rfl rfl dX6_restore_129 ?_
      refine G_iload_n 4 rfl rfl dX6_restore_130 ?_
      refine G_bipush (by decide) dX6_restore_131 ?_
      refine G_iadd dX6_restore_133 ?_
      obtain ⟨c37, h⟩ := h
      refine G_iald (n := 65) rfl c37.1 c37.2 dX6_restore_134 ?_
      obtain ⟨σ38, e40⟩ : ∃ τ : Mem, τ = mset σ34 10 4 (σ34 26 (x2 + 62)) := ⟨_, rfl⟩
      have h := h σ38 e40
      have o39 : OKm σ38 := by rw [e40]; exact OKm.seti o35 _ _ _ (OKm.i o35 26 (x2 + 62) (isLg_row (show shp 26 = (1, 65, []) from rfl) _)) rfl
      refine G_put (k := 4) (ki := 4) (kd := (0, 0)) (x := _) pf_X6_24 rfl rfl rfl rfl (fa_i (mset_self _ _ _ _)) (fun _ => rfl) (fun _ => rfl) dX6_restore_135 ?_
      rw [← e40]
      exact G_vret rfl dX6_restore_138 ⟨rfl, h⟩ o39
    · have h := h.2 c2
      exact G_vret rfl dX6_restore_13 ⟨rfl, h⟩ hO

theorem sp_X6_restore_i (d : Nat) (hd : 0 ≤ d) (σ : Mem) (hO : OKm σ) (x2 : Int) (hx2 : R32 x2) (B : Mem) (hpre : rowC σ 26 x2 B ∧ Cnt B ∧ (0 ≤ x2 ∧ x2 + 65 ≤ 65)) : Mt yX6_restore cX6_restore 5 none d [aR (10), aR (26), aI (x2)] σ (QV (fun σ' => restC σ σ' B ∧ Fr [10, 11, 12, 13, 14] σ σ')) := mt_X6_restore_i hd hx2 hO (by
  unfold wp_X6_restore_i
  obtain ⟨⟨hN0, hN1, hN2, hN3⟩, hC, hx⟩ := hpre
  unfold Cnt at hC
  unfold R32 at *
  have h63 := hN0.2.2.2.2.2.1
  have h64 := hN0.2.2.2.2.2.2
  refine ⟨fun h => ?_, fun h => ⟨fun h2 => ?_, fun h2 => ?_⟩⟩
  · omega
  rotate_left
  · omega
  repeat' (first | (intro _ e; subst e) | (refine And.intro ?_ ?_; first | omega | (simp (disch := omega) only [mset_off, mset_hit, mset_miss, mcpy_off, mcpy_hit, mcpy_miss, mrow_off, mrow_same]; omega)))
  refine ⟨⟨?_, fun r h1 h2 => ?_, fun r h1 => ?_, fun g h1 h2 => ?_, fun g h1 => ?_, fun i h1 h2 => ?_⟩, ?_⟩
  · simp (disch := omega) only [mset_off, mset_hit, mset_miss, mcpy_off, mcpy_hit, mcpy_miss, mrow_off, mrow_same]
    exact ⟨hN0.1, hN0.2.1, hN0.2.2.1, hN0.2.2.2.1, hN0.2.2.2.2.1⟩
  · simp (disch := omega) only [mset_off, mset_hit, mset_miss, mcpy_off, mcpy_hit, mcpy_miss, mrow_off, mrow_same]
    rw [← hN1 r h1 h2]; congr 1; omega
  · simp (disch := omega) only [mset_off, mset_hit, mset_miss, mcpy_off, mcpy_hit, mcpy_miss, mrow_off, mrow_same]
  · simp (disch := omega) only [mset_off, mset_hit, mset_miss, mcpy_off, mcpy_hit, mcpy_miss, mrow_off, mrow_same]
    rw [← (hN2 g h1 h2).1, ← (hN2 g h1 h2).2]
    constructor <;> (congr 1; omega)
  · simp (disch := omega) only [mset_off, mset_hit, mset_miss, mcpy_off, mcpy_hit, mcpy_miss, mrow_off, mrow_same]
    exact ⟨trivial, trivial⟩
  · simp (disch := omega) only [mset_off, mset_hit, mset_miss, mcpy_off, mcpy_hit, mcpy_miss, mrow_off, mrow_same]
    rw [← hN3 i h1 h2]; congr 1; omega
  · intro q hq
    simp only [List.mem_cons, List.not_mem_nil, or_false, not_or] at hq
    funext j
    simp (disch := omega) only [mset_off, mset_hit, mset_miss, mcpy_off, mcpy_hit, mcpy_miss, mrow_off, mrow_same])

def wp_X6_restore_s (x2 : Int) (σ : Mem) (Q : Mem → Prop) : Prop :=
  ((x2 < 0) →
    Q σ) ∧
   ((0 ≤ x2) →
    ((x2 ≤ (1950 - 65)) →
     (0 ≤ (x2 + 63) ∧ (x2 + 63) < 1950) ∧
     (0 ≤ (x2 + 64) ∧ (x2 + 64) < 1950) ∧
     ((0 : Int) ≤ x2 ∧ (0 : Int) ≤ 0 ∧ (0 : Int) ≤ (σ 16 (x2 + 63)) ∧ (x2 + (σ 16 (x2 + 63)) : Int) ≤ 1950 ∧ (0 + (σ 16 (x2 + 63)) : Int) ≤ 16) ∧
     ∀ σ6 : Mem, σ6 = mcpy σ 16 x2 11 0 (σ 16 (x2 + 63)) →
     ((0 : Int) ≤ (x2 + 16) ∧ (0 : Int) ≤ 0 ∧ (0 : Int) ≤ (σ 16 (x2 + 64)) ∧ ((x2 + 16) + (σ 16 (x2 + 64)) : Int) ≤ 1950 ∧ (0 + (σ 16 (x2 + 64)) : Int) ≤ 6) ∧
     ∀ σ10 : Mem, σ10 = mcpy σ6 16 (x2 + 16) 12 0 (σ 16 (x2 + 64)) →
     ((0 : Int) ≤ (x2 + 22) ∧ (0 : Int) ≤ 0 ∧ (0 : Int) ≤ (σ 16 (x2 + 64)) ∧ ((x2 + 22) + (σ 16 (x2 + 64)) : Int) ≤ 1950 ∧ (0 + (σ 16 (x2 + 64)) : Int) ≤ 6) ∧
     ∀ σ14 : Mem, σ14 = mcpy σ10 16 (x2 + 22) 13 0 (σ 16 (x2 + 64)) →
     ((0 : Int) ≤ (x2 + 28) ∧ (0 : Int) ≤ 0 ∧ (0 : Int) ≤ 30 ∧ ((x2 + 28) + 30 : Int) ≤ 1950 ∧ (0 + 30 : Int) ≤ 30) ∧
     ∀ σ18 : Mem, σ18 = mcpy σ14 16 (x2 + 28) 14 0 30 →
     (0 ≤ (x2 + 58) ∧ (x2 + 58) < 1950) ∧
     ∀ σ22 : Mem, σ22 = mset σ18 10 5 (σ18 16 (x2 + 58)) →
     (0 ≤ (x2 + 59) ∧ (x2 + 59) < 1950) ∧
     ∀ σ26 : Mem, σ26 = mset σ22 10 6 (σ22 16 (x2 + 59)) →
     (0 ≤ (x2 + 60) ∧ (x2 + 60) < 1950) ∧
     ∀ σ30 : Mem, σ30 = mset σ26 10 7 (σ26 16 (x2 + 60)) →
     (0 ≤ (x2 + 61) ∧ (x2 + 61) < 1950) ∧
     ∀ σ34 : Mem, σ34 = mset σ30 10 8 (σ30 16 (x2 + 61)) →
     (0 ≤ (x2 + 62) ∧ (x2 + 62) < 1950) ∧
     ∀ σ38 : Mem, σ38 = mset σ34 10 4 (σ34 16 (x2 + 62)) →
     Q σ38) ∧
    (((1950 - 65) < x2) →
     Q σ))
theorem mt_X6_restore_s {d : Nat} (hd : 0 ≤ d) {x2 : Int} {σ : Mem} {Q : Mem → Prop} (hx2 : R32 x2) (hO : OKm σ) (h : wp_X6_restore_s x2 σ Q) : Mt yX6_restore cX6_restore 5 none d [aR (10), aR (16), aI (x2)] σ (QV Q) := by
  refine Mt.intro (by decide +kernel) (Nat.le_of_ble_eq_true rfl) [(0, aR (10)), (1, aR (16)), (2, aI (x2))] rfl ?_
  unfold wp_X6_restore_s at h
  refine G_iload_n 2 rfl rfl dX6_restore_0 ?_
  refine G_if_lt hx2 dX6_restore_1 (tgt := 13) (by decide) (fun c1 => ?_) (fun c1 => ?_)
  · have h := h.1 c1
    exact G_vret rfl dX6_restore_13 ⟨rfl, h⟩ hO
  · have h := h.2 c1
    refine G_iload_n 2 rfl rfl dX6_restore_4 ?_
    refine G_aload_n 1 rfl rfl dX6_restore_5 ?_
    refine G_alen (v := 1950) (n := 1950) rfl (by decide) (by decide) rfl dX6_restore_6 ?_
    refine G_bipush (by decide) dX6_restore_7 ?_
    refine G_isub dX6_restore_9 ?_
    refine G_icmp_le hx2 (rL (1950 - 65) rfl) dX6_restore_10 (tgt := 14) (by decide) (fun c2 => ?_) (fun c2 => ?_)
    · have h := h.1 c2
      refine G_aload_n 1 rfl rfl dX6_restore_14 ?_
      refine G_iload_n 2 rfl rfl dX6_restore_15 ?_
      refine G_bipush (by decide) dX6_restore_16 ?_
      refine G_iadd dX6_restore_18 ?_
      obtain ⟨c3, h⟩ := h
      refine G_iald (n := 1950) rfl c3.1 c3.2 dX6_restore_19 ?_
      refine G_istore_n (lv' := [(3, aI ((σ 16 (x2 + 63)))), (0, aR (10)), (1, aR (16)), (2, aI (x2))]) rfl rfl (by decide) dX6_restore_20 ?_
      refine G_aload_n 2 rfl rfl dX6_restore_21 ?_
      refine G_iload_n 3 rfl rfl dX6_restore_22 ?_
      refine G_bipush (by decide) dX6_restore_23 ?_
      refine G_iadd dX6_restore_25 ?_
      obtain ⟨c4, h⟩ := h
      refine G_iald (n := 1950) rfl c4.1 c4.2 dX6_restore_26 ?_
      refine G_istore (lv' := [(4, aI ((σ 16 (x2 + 64)))), (3, aI ((σ 16 (x2 + 63)))), (0, aR (10)), (1, aR (16)), (2, aI (x2))]) rfl (by decide) dX6_restore_27 ?_
      refine G_aload_n 3 rfl rfl dX6_restore_29 ?_
      refine G_iload_n 4 rfl rfl dX6_restore_30 ?_
      refine G_aload_n 2 rfl rfl dX6_restore_31 ?_
      refine G_get (k := 0) (kd := (3, 1)) (v := aR (11)) gf_X6_11 rfl rfl rfl rfl dX6_restore_32 ?_
      refine G_iconst dX6_restore_35 ?_
      refine G_iload_n 1 rfl rfl dX6_restore_36 ?_
      obtain ⟨c5, h⟩ := h
      obtain ⟨σ6, e8⟩ : ∃ τ : Mem, τ = mcpy σ 16 x2 11 0 (σ 16 (x2 + 63)) := ⟨_, rfl⟩
      have h := h σ6 e8
      have o7 : OKm σ6 := by rw [e8]; exact OKm.cpy hO (isLg_row (show shp 16 = (1, 1950, []) from rfl)) (isLg_row (show shp 11 = (1, 16, []) from rfl))
      refine G_copy rfl (show shp 16 = (1, 1950, []) from rfl) (show shp 11 = (1, 16, []) from rfl) (by decide) (by decide) c5.1 c5.2.1 c5.2.2.1 c5.2.2.2.1 c5.2.2.2.2 (Nat.le_of_ble_eq_true rfl) sf_X6_46 dX6_restore_37 ?_
      rw [← e8]
      refine G_aload_n 3 rfl rfl dX6_restore_40 ?_
      refine G_iload_n 4 rfl rfl dX6_restore_41 ?_
      refine G_bipush (by decide) dX6_restore_42 ?_
      refine G_iadd dX6_restore_44 ?_
      refine G_aload_n 2 rfl rfl dX6_restore_45 ?_
      refine G_get (k := 1) (kd := (3, 2)) (v := aR (12)) gf_X6_15 rfl rfl rfl rfl dX6_restore_46 ?_
      refine G_iconst dX6_restore_49 ?_
      refine G_iload 0 rfl dX6_restore_50 ?_
      obtain ⟨c9, h⟩ := h
      obtain ⟨σ10, e12⟩ : ∃ τ : Mem, τ = mcpy σ6 16 (x2 + 16) 12 0 (σ 16 (x2 + 64)) := ⟨_, rfl⟩
      have h := h σ10 e12
      have o11 : OKm σ10 := by rw [e12]; exact OKm.cpy o7 (isLg_row (show shp 16 = (1, 1950, []) from rfl)) (isLg_row (show shp 12 = (1, 6, []) from rfl))
      refine G_copy rfl (show shp 16 = (1, 1950, []) from rfl) (show shp 12 = (1, 6, []) from rfl) (by decide) (by decide) c9.1 c9.2.1 c9.2.2.1 c9.2.2.2.1 c9.2.2.2.2 (Nat.le_of_ble_eq_true rfl) sf_X6_46 dX6_restore_52 ?_
      rw [← e12]
      refine G_aload_n 3 rfl rfl dX6_restore_55 ?_
      refine G_iload_n 4 rfl rfl dX6_restore_56 ?_
      refine G_bipush (by decide) dX6_restore_57 ?_
      refine G_iadd dX6_restore_59 ?_
      refine G_aload_n 2 rfl rfl dX6_restore_60 ?_
      refine G_get (k := 2) (kd := (3, 3)) (v := aR (13)) gf_X6_18 rfl rfl rfl rfl dX6_restore_61 ?_
      refine G_iconst dX6_restore_64 ?_
      refine G_iload 0 rfl dX6_restore_65 ?_
      obtain ⟨c13, h⟩ := h
      obtain ⟨σ14, e16⟩ : ∃ τ : Mem, τ = mcpy σ10 16 (x2 + 22) 13 0 (σ 16 (x2 + 64)) := ⟨_, rfl⟩
      have h := h σ14 e16
      have o15 : OKm σ14 := by rw [e16]; exact OKm.cpy o11 (isLg_row (show shp 16 = (1, 1950, []) from rfl)) (isLg_row (show shp 13 = (1, 6, []) from rfl))
      refine G_copy rfl (show shp 16 = (1, 1950, []) from rfl) (show shp 13 = (1, 6, []) from rfl) (by decide) (by decide) c13.1 c13.2.1 c13.2.2.1 c13.2.2.2.1 c13.2.2.2.2 (Nat.le_of_ble_eq_true rfl) sf_X6_46 dX6_restore_67 ?_
      rw [← e16]
      refine G_aload_n 3 rfl rfl dX6_restore_70 ?_
      refine G_iload_n 4 rfl rfl dX6_restore_71 ?_
      refine G_bipush (by decide) dX6_restore_72 ?_
      refine G_iadd dX6_restore_74 ?_
      refine G_aload_n 2 rfl rfl dX6_restore_75 ?_
      refine G_get (k := 3) (kd := (3, 4)) (v := aR (14)) gf_X6_21 rfl rfl rfl rfl dX6_restore_76 ?_
      refine G_iconst dX6_restore_79 ?_
      refine G_aload_n 2 rfl rfl dX6_restore_80 ?_
      refine G_get (k := 3) (kd := (3, 4)) (v := aR (14)) gf_X6_21 rfl rfl rfl rfl dX6_restore_81 ?_
      refine G_alen (v := 30) (n := 30) rfl (by decide) (by decide) rfl dX6_restore_84 ?_
      obtain ⟨c17, h⟩ := h
      obtain ⟨σ18, e20⟩ : ∃ τ : Mem, τ = mcpy σ14 16 (x2 + 28) 14 0 30 := ⟨_, rfl⟩
      have h := h σ18 e20
      have o19 : OKm σ18 := by rw [e20]; exact OKm.cpy o15 (isLg_row (show shp 16 = (1, 1950, []) from rfl)) (isLg_row (show shp 14 = (1, 30, []) from rfl))
      refine G_copy rfl (show shp 16 = (1, 1950, []) from rfl) (show shp 14 = (1, 30, []) from rfl) (by decide) (by decide) c17.1 c17.2.1 c17.2.2.1 c17.2.2.2.1 c17.2.2.2.2 (Nat.le_of_ble_eq_true rfl) sf_X6_46 dX6_restore_85 ?_
      rw [← e20]
      refine G_aload_n 2 rfl rfl dX6_restore_88 ?_
      refine G_aload_n 3 rfl rfl dX6_restore_89 ?_
      refine G_iload_n 4 rfl rfl dX6_restore_90 ?_
      refine G_bipush (by decide) dX6_restore_91 ?_
      refine G_iadd dX6_restore_93 ?_
      obtain ⟨c21, h⟩ := h
      refine G_iald (n := 1950) rfl c21.1 c21.2 dX6_restore_94 ?_
      obtain ⟨σ22, e24⟩ : ∃ τ : Mem, τ = mset σ18 10 5 (σ18 16 (x2 + 58)) := ⟨_, rfl⟩
      have h := h σ22 e24
      have o23 : OKm σ22 := by rw [e24]; exact OKm.seti o19 _ _ _ (OKm.i o19 16 (x2 + 58) (isLg_row (show shp 16 = (1, 1950, []) from rfl) _)) rfl
      refine G_put (k := 5) (ki := 5) (kd := (0, 0)) (x := _) pf_X6_28 rfl rfl rfl rfl (fa_i (mset_self _ _ _ _)) (fun _ => rfl) (fun _ => rfl) dX6_restore_95 ?_
      rw [← e24]
      refine G_aload_n 2 rfl rfl dX6_restore_98 ?_
      refine G_aload_n 3 rfl rfl dX6_restore_99 ?_
      refine G_iload_n 4 rfl rfl dX6_restore_100 ?_
      refine G_bipush (by decide) dX6_restore_101 ?_
      refine G_iadd dX6_restore_103 ?_
      obtain ⟨c25, h⟩ := h
      refine G_iald (n := 1950) rfl c25.1 c25.2 dX6_restore_104 ?_
      obtain ⟨σ26, e28⟩ : ∃ τ : Mem, τ = mset σ22 10 6 (σ22 16 (x2 + 59)) := ⟨_, rfl⟩
      have h := h σ26 e28
      have o27 : OKm σ26 := by rw [e28]; exact OKm.seti o23 _ _ _ (OKm.i o23 16 (x2 + 59) (isLg_row (show shp 16 = (1, 1950, []) from rfl) _)) rfl
      refine G_put (k := 6) (ki := 6) (kd := (0, 0)) (x := _) pf_X6_31 rfl rfl rfl rfl (fa_i (mset_self _ _ _ _)) (fun _ => rfl) (fun _ => rfl) dX6_restore_105 ?_
      rw [← e28]
      refine G_aload_n 2 rfl rfl dX6_restore_108 ?_
      refine G_aload_n 3 rfl rfl dX6_restore_109 ?_
      refine G_iload_n 4 rfl rfl dX6_restore_110 ?_
      refine G_bipush (by decide) dX6_restore_111 ?_
      refine G_iadd dX6_restore_113 ?_
      obtain ⟨c29, h⟩ := h
      refine G_iald (n := 1950) rfl c29.1 c29.2 dX6_restore_114 ?_
      obtain ⟨σ30, e32⟩ : ∃ τ : Mem, τ = mset σ26 10 7 (σ26 16 (x2 + 60)) := ⟨_, rfl⟩
      have h := h σ30 e32
      have o31 : OKm σ30 := by rw [e32]; exact OKm.seti o27 _ _ _ (OKm.i o27 16 (x2 + 60) (isLg_row (show shp 16 = (1, 1950, []) from rfl) _)) rfl
      refine G_put (k := 7) (ki := 7) (kd := (0, 0)) (x := _) pf_X6_34 rfl rfl rfl rfl (fa_i (mset_self _ _ _ _)) (fun _ => rfl) (fun _ => rfl) dX6_restore_115 ?_
      rw [← e32]
      refine G_aload_n 2 rfl rfl dX6_restore_118 ?_
      refine G_aload_n 3 rfl rfl dX6_restore_119 ?_
      refine G_iload_n 4 rfl rfl dX6_restore_120 ?_
      refine G_bipush (by decide) dX6_restore_121 ?_
      refine G_iadd dX6_restore_123 ?_
      obtain ⟨c33, h⟩ := h
      refine G_iald (n := 1950) rfl c33.1 c33.2 dX6_restore_124 ?_
      obtain ⟨σ34, e36⟩ : ∃ τ : Mem, τ = mset σ30 10 8 (σ30 16 (x2 + 61)) := ⟨_, rfl⟩
      have h := h σ34 e36
      have o35 : OKm σ34 := by rw [e36]; exact OKm.seti o31 _ _ _ (OKm.i o31 16 (x2 + 61) (isLg_row (show shp 16 = (1, 1950, []) from rfl) _)) rfl
      refine G_put (k := 8) (ki := 8) (kd := (0, 0)) (x := _) pf_X6_37 rfl rfl rfl rfl (fa_i (mset_self _ _ _ _)) (fun _ => rfl) (fun _ => rfl) dX6_restore_125 ?_
      rw [← e36]
      refine G_aload_n 2 rfl rfl dX6_restore_128 ?_
      refine G_aload_n 3 rfl rfl dX6_restore_129 ?_
      refine G_iload_n 4 rfl rfl dX6_restore_130 ?_
      refine G_bipush (by decide) dX6_restore_131 ?_
      refine G_iadd dX6_restore_133 ?_
      obtain ⟨c37, h⟩ := h
      refine G_iald (n := 1950) rfl c37.1 c37.2 dX6_restore_134 ?_
      obtain ⟨σ38, e40⟩ : ∃ τ : Mem, τ = mset σ34 10 4 (σ34 16 (x2 + 62)) := ⟨_, rfl⟩
      have h := h σ38 e40
      have o39 : OKm σ38 := by rw [e40]; exact OKm.seti o35 _ _ _ (OKm.i o35 16 (x2 + 62) (isLg_row (show shp 16 = (1, 1950, []) from rfl) _)) rfl
      refine G_put (k := 4) (ki := 4) (kd := (0, 0)) (x := _) pf_X6_24 rfl rfl rfl rfl (fa_i (mset_self _ _ _ _)) (fun _ => rfl) (fun _ => rfl) dX6_restore_135 ?_
      rw [← e40]
      exact G_vret rfl dX6_restore_138 ⟨rfl, h⟩ o39
    · have h := h.2 c2
      exact G_vret rfl dX6_restore_13 ⟨rfl, h⟩ hO

theorem sp_X6_restore_s (d : Nat) (hd : 0 ≤ d) (σ : Mem) (hO : OKm σ) (x2 : Int) (hx2 : R32 x2) (B : Mem) (hpre : rowC σ 16 x2 B ∧ Cnt B ∧ (0 ≤ x2 ∧ x2 + 65 ≤ 1950)) : Mt yX6_restore cX6_restore 5 none d [aR (10), aR (16), aI (x2)] σ (QV (fun σ' => restC σ σ' B ∧ Fr [10, 11, 12, 13, 14] σ σ')) := mt_X6_restore_s hd hx2 hO (by
  unfold wp_X6_restore_s
  obtain ⟨⟨hN0, hN1, hN2, hN3⟩, hC, hx⟩ := hpre
  unfold Cnt at hC
  unfold R32 at *
  have h63 := hN0.2.2.2.2.2.1
  have h64 := hN0.2.2.2.2.2.2
  refine ⟨fun h => ?_, fun h => ⟨fun h2 => ?_, fun h2 => ?_⟩⟩
  · omega
  rotate_left
  · omega
  repeat' (first | (intro _ e; subst e) | (refine And.intro ?_ ?_; first | omega | (simp (disch := omega) only [mset_off, mset_hit, mset_miss, mcpy_off, mcpy_hit, mcpy_miss, mrow_off, mrow_same]; omega)))
  refine ⟨⟨?_, fun r h1 h2 => ?_, fun r h1 => ?_, fun g h1 h2 => ?_, fun g h1 => ?_, fun i h1 h2 => ?_⟩, ?_⟩
  · simp (disch := omega) only [mset_off, mset_hit, mset_miss, mcpy_off, mcpy_hit, mcpy_miss, mrow_off, mrow_same]
    exact ⟨hN0.1, hN0.2.1, hN0.2.2.1, hN0.2.2.2.1, hN0.2.2.2.2.1⟩
  · simp (disch := omega) only [mset_off, mset_hit, mset_miss, mcpy_off, mcpy_hit, mcpy_miss, mrow_off, mrow_same]
    rw [← hN1 r h1 h2]; congr 1; omega
  · simp (disch := omega) only [mset_off, mset_hit, mset_miss, mcpy_off, mcpy_hit, mcpy_miss, mrow_off, mrow_same]
  · simp (disch := omega) only [mset_off, mset_hit, mset_miss, mcpy_off, mcpy_hit, mcpy_miss, mrow_off, mrow_same]
    rw [← (hN2 g h1 h2).1, ← (hN2 g h1 h2).2]
    constructor <;> (congr 1; omega)
  · simp (disch := omega) only [mset_off, mset_hit, mset_miss, mcpy_off, mcpy_hit, mcpy_miss, mrow_off, mrow_same]
    exact ⟨trivial, trivial⟩
  · simp (disch := omega) only [mset_off, mset_hit, mset_miss, mcpy_off, mcpy_hit, mcpy_miss, mrow_off, mrow_same]
    rw [← hN3 i h1 h2]; congr 1; omega
  · intro q hq
    simp only [List.mem_cons, List.not_mem_nil, or_false, not_or] at hq
    funext j
    simp (disch := omega) only [mset_off, mset_hit, mset_miss, mcpy_off, mcpy_hit, mcpy_miss, mrow_off, mrow_same])

def pushS (A : Mem) (L : List Mem) : List Mem := (A :: L).take 30
theorem pushS_len {A : Mem} {L : List Mem} : ((pushS A L).length : Int) = min 30 ((L.length : Int) + 1) := by
  unfold pushS; rw [List.length_take, List.length_cons]; omega
theorem pushS_0 {A : Mem} {L : List Mem} : (pushS A L)[0]? = some A := rfl
theorem pushS_s {A : Mem} {L : List Mem} {k : Nat} {B : Mem} (h : (pushS A L)[k + 1]? = some B) : L[k]? = some B ∧ k < 29 := by
  unfold pushS at h
  rw [List.getElem?_take] at h
  split at h
  · exact ⟨by simpa using h, by omega⟩
  · cases h

def wp_X7_push  (σ : Mem) (Q : Mem → Prop) : Prop :=
  R32 ((σ 15 1) * 65) ∧
   ∃ g2 : Mem, (nowC σ g2 ∧ σ 1 8 = g2 10 0 ∧ σ 1 9 = g2 10 1 ∧ Cnt g2 ∧ (0 ≤ ((σ 15 1) * 65) ∧ ((σ 15 1) * 65) + 65 ≤ 1950)) ∧
   ∀ σ6 : Mem, OKm σ6 → (rowC σ6 16 ((σ 15 1) * 65) g2 ∧ Fr [16] σ σ6 ∧ ∀ i : Int, (i < ((σ 15 1) * 65) ∨ ((σ 15 1) * 65) + 65 ≤ i) → σ6 16 i = σ 16 i) →
   R32 ((σ6 15 1) + 1) ∧
   R32 (Int.tmod ((σ6 15 1) + 1) 30) ∧
   ∀ σ10 : Mem, σ10 = mset σ6 15 1 (Int.tmod ((σ6 15 1) + 1) 30) →
   R32 ((σ10 15 2) + 1) ∧
   ∀ σ15 : Mem, σ15 = mset σ10 15 2 (min 30 ((σ10 15 2) + 1)) →
   Q σ15
theorem mt_X7_push {d : Nat} (hd : 1 ≤ d)  {σ : Mem} {Q : Mem → Prop}  (hO : OKm σ) (h : wp_X7_push  σ Q) : Mt yX7_push cX7_push 3 none d [aR (15), aR (10), aR (1)] σ (QV Q) := by
  refine Mt.intro (by decide +kernel) (Nat.le_of_ble_eq_true rfl) [(0, aR (15)), (1, aR (10)), (2, aR (1))] rfl ?_
  unfold wp_X7_push at h
  refine G_aload_n 1 rfl rfl dX7_push_0 ?_
  refine G_aload_n 0 rfl rfl dX7_push_1 ?_
  refine G_get (k := 0) (kd := (3, 1)) (v := aR (16)) gf_X7_11 rfl rfl rfl rfl dX7_push_2 ?_
  refine G_aload_n 0 rfl rfl dX7_push_5 ?_
  refine G_get (k := 1) (kd := (0, 0)) (v := aI (σ 15 1)) gf_X7_15 rfl rfl rfl rfl dX7_push_6 ?_
  refine G_bipush (by decide) dX7_push_9 ?_
  refine G_imul dX7_push_11 ?_
  refine G_aload_n 2 rfl rfl dX7_push_12 ?_
  obtain ⟨c1, h⟩ := h
  obtain ⟨g2, c3, h⟩ := h
  refine G_callV (as := [_, _, _]) cf_X7_22 rfl rfl rfl (sp_X6_keep_s (d - 1) (by omega) _ hO _ c1 g2 c3) (by omega) rfl rfl (Nat.le_of_ble_eq_true rfl) dX7_push_13 ?_
  rintro _ σ6 ⟨rfl, z8⟩ o5 r4
  have h := h _ o5 z8
  refine G_aload_n 0 rfl rfl dX7_push_16 ?_
  refine G_aload_n 0 rfl rfl dX7_push_17 ?_
  refine G_get (k := 1) (kd := (0, 0)) (v := aI (σ6 15 1)) gf_X7_15 rfl rfl rfl rfl dX7_push_18 ?_
  refine G_iconst dX7_push_21 ?_
  refine G_iadd dX7_push_22 ?_
  refine G_bipush (by decide) dX7_push_23 ?_
  obtain ⟨c9, h⟩ := h
  refine G_irem c9 (rL 30 rfl) (by decide) dX7_push_25 ?_
  obtain ⟨c11, h⟩ := h
  obtain ⟨σ10, e13⟩ : ∃ τ : Mem, τ = mset σ6 15 1 (Int.tmod ((σ6 15 1) + 1) 30) := ⟨_, rfl⟩
  have h := h σ10 e13
  have o12 : OKm σ10 := by rw [e13]; exact OKm.seti o5 _ _ _ c11 rfl
  refine G_put (k := 1) (ki := 1) (kd := (0, 0)) (x := _) pf_X7_15 rfl rfl rfl rfl (fa_i (mset_self _ _ _ _)) (fun _ => rfl) (fun _ => rfl) dX7_push_26 ?_
  rw [← e13]
  refine G_aload_n 0 rfl rfl dX7_push_29 ?_
  refine G_bipush (by decide) dX7_push_30 ?_
  refine G_aload_n 0 rfl rfl dX7_push_32 ?_
  refine G_get (k := 2) (kd := (0, 0)) (v := aI (σ10 15 2)) gf_X7_19 rfl rfl rfl rfl dX7_push_33 ?_
  refine G_iconst dX7_push_36 ?_
  refine G_iadd dX7_push_37 ?_
  obtain ⟨c14, h⟩ := h
  refine G_mmin rfl (rL 30 rfl) c14 (Nat.le_of_ble_eq_true rfl) sf_X7_26 dX7_push_38 ?_
  obtain ⟨σ15, e17⟩ : ∃ τ : Mem, τ = mset σ10 15 2 (min 30 ((σ10 15 2) + 1)) := ⟨_, rfl⟩
  have h := h σ15 e17
  have o16 : OKm σ15 := by rw [e17]; exact OKm.seti o12 _ _ _ (r32_min (rL 30 rfl) c14) rfl
  refine G_put (k := 2) (ki := 2) (kd := (0, 0)) (x := _) pf_X7_19 rfl rfl rfl rfl (fa_i (mset_self _ _ _ _)) (fun _ => rfl) (fun _ => rfl) dX7_push_41 ?_
  rw [← e17]
  exact G_vret rfl dX7_push_44 ⟨rfl, h⟩ o16

theorem sp_X7_push (d : Nat) (hd : 1 ≤ d) (σ : Mem) (hO : OKm σ) (A : Mem) (L : List Mem) (hpre : nowC σ A ∧ σ 1 8 = A 10 0 ∧ σ 1 9 = A 10 1 ∧ Cnt A ∧ stepsC σ 15 L) : Mt yX7_push cX7_push 3 none d [aR (15), aR (10), aR (1)] σ (QV (fun σ' => stepsC σ' 15 (pushS A L) ∧ Fr [15, 16] σ σ')) := mt_X7_push hd  hO (by
  unfold wp_X7_push
  obtain ⟨hN, h18, h19, hC, hL, hc, h1, h2, hrows⟩ := hpre
  have e1 := tmodP (a := σ 15 1 + 1) (b := 30) (by omega)
  have hr1 := hO.i 15 1 rfl
  unfold R32 at *
  refine And.intro ?_ ?_
  · omega
  refine ⟨A, ⟨hN, h18, h19, hC, by omega, by omega⟩, ?_⟩
  intro σ1 hO1 ⟨hrow, hF, hR⟩
  have f1 : ∀ j : Int, σ1 15 j = σ 15 j := fun j => by rw [hF 15 (by simp)]
  rw [f1 1, e1]
  refine And.intro ?_ ?_
  · omega
  refine And.intro ?_ ?_
  · omega
  intro _ e; subst e
  refine And.intro ?_ ?_
  · simp (disch := omega) only [mset_off, mset_hit, mset_miss, mcpy_off, mcpy_hit, mcpy_miss, mrow_off, mrow_same]; rw [f1 2]; omega
  intro _ e; subst e
  refine ⟨⟨?_, ?_, ?_, ?_, fun k B hk => ?_⟩, ?_⟩
  · have := pushS_len (A := A) (L := L); omega
  · rw [pushS_len]
    simp (disch := omega) only [mset_off, mset_hit, mset_miss, mcpy_off, mcpy_hit, mcpy_miss, mrow_off, mrow_same]
    rw [f1 2, hc]
  · simp (disch := omega) only [mset_off, mset_hit, mset_miss, mcpy_off, mcpy_hit, mcpy_miss, mrow_off, mrow_same]; omega
  · simp (disch := omega) only [mset_off, mset_hit, mset_miss, mcpy_off, mcpy_hit, mcpy_miss, mrow_off, mrow_same]; omega
  · simp (disch := omega) only [mset_off, mset_hit, mset_miss, mcpy_off, mcpy_hit, mcpy_miss, mrow_off, mrow_same]
    cases k with
    | zero =>
      rw [pushS_0] at hk
      cases hk
      refine ⟨hC, rowC_congr hrow hC (fun i hi hi2 => ?_)⟩
      simp (disch := omega) only [mset_off, mset_hit, mset_miss, mcpy_off, mcpy_hit, mcpy_miss, mrow_off, mrow_same]
      congr 1; omega
    | succ k =>
      obtain ⟨hk, hk2⟩ := pushS_s hk
      obtain ⟨hB, hB2⟩ := hrows k B hk
      refine ⟨hB, rowC_congr hB2 hB (fun i hi hi2 => ?_)⟩
      simp (disch := omega) only [mset_off, mset_hit, mset_miss, mcpy_off, mcpy_hit, mcpy_miss, mrow_off, mrow_same]
      rw [show (15 + 1 : Nat) = 16 from rfl, hR _ (by omega)]
      congr 1; omega
  · intro q hq
    simp only [List.mem_cons, List.not_mem_nil, or_false, not_or] at hq
    rw [mset_ne hq.1, mset_ne hq.1]
    exact hF q (by simp [hq.2]))

def wp_X7_pop  (σ : Mem) (Q : Int → Mem → Prop) : Prop :=
  (((σ 15 2) ≠ 0) →
    R32 (((σ 15 1) + 30) - 1) ∧
    R32 (Int.tmod (((σ 15 1) + 30) - 1) 30) ∧
    ∀ σ3 : Mem, σ3 = mset σ 15 1 (Int.tmod (((σ 15 1) + 30) - 1) 30) →
    R32 ((σ3 15 2) - 1) ∧
    ∀ σ7 : Mem, σ7 = mset σ3 15 2 ((σ3 15 2) - 1) →
    R32 ((σ7 15 1) * 65) ∧
    ∃ g12 : Mem, (rowC σ7 16 ((σ7 15 1) * 65) g12 ∧ Cnt g12 ∧ (0 ≤ ((σ7 15 1) * 65) ∧ ((σ7 15 1) * 65) + 65 ≤ 1950)) ∧
    ∀ σ16 : Mem, OKm σ16 → (restC σ7 σ16 g12 ∧ Fr [10, 11, 12, 13, 14] σ7 σ16) →
    Q 1 σ16) ∧
   (((σ 15 2) = 0) →
    Q 0 σ)
theorem mt_X7_pop {d : Nat} (hd : 1 ≤ d)  {σ : Mem} {Q : Int → Mem → Prop}  (hO : OKm σ) (h : wp_X7_pop  σ Q) : Mt yX7_pop cX7_pop 2 (some .boolean) d [aR (15), aR (10)] σ (QI Q) := by
  refine Mt.intro (by decide +kernel) (Nat.le_of_ble_eq_true rfl) [(0, aR (15)), (1, aR (10))] rfl ?_
  unfold wp_X7_pop at h
  refine G_aload_n 0 rfl rfl dX7_pop_0 ?_
  refine G_get (k := 2) (kd := (0, 0)) (v := aI (σ 15 2)) gf_X7_19 rfl rfl rfl rfl dX7_pop_1 ?_
  refine G_if_ne (OKm.i hO 15 2 rfl) dX7_pop_4 (tgt := 9) (by decide) (fun c1 => ?_) (fun c1 => ?_)
  · have h := h.1 c1
    refine G_aload_n 0 rfl rfl dX7_pop_9 ?_
    refine G_aload_n 0 rfl rfl dX7_pop_10 ?_
    refine G_get (k := 1) (kd := (0, 0)) (v := aI (σ 15 1)) gf_X7_15 rfl rfl rfl rfl dX7_pop_11 ?_
    refine G_bipush (by decide) dX7_pop_14 ?_
    refine G_iadd dX7_pop_16 ?_
    refine G_iconst dX7_pop_17 ?_
    refine G_isub dX7_pop_18 ?_
    refine G_bipush (by decide) dX7_pop_19 ?_
    obtain ⟨c2, h⟩ := h
    refine G_irem c2 (rL 30 rfl) (by decide) dX7_pop_21 ?_
    obtain ⟨c4, h⟩ := h
    obtain ⟨σ3, e6⟩ : ∃ τ : Mem, τ = mset σ 15 1 (Int.tmod (((σ 15 1) + 30) - 1) 30) := ⟨_, rfl⟩
    have h := h σ3 e6
    have o5 : OKm σ3 := by rw [e6]; exact OKm.seti hO _ _ _ c4 rfl
    refine G_put (k := 1) (ki := 1) (kd := (0, 0)) (x := _) pf_X7_15 rfl rfl rfl rfl (fa_i (mset_self _ _ _ _)) (fun _ => rfl) (fun _ => rfl) dX7_pop_22 ?_
    rw [← e6]
    refine G_aload_n 0 rfl rfl dX7_pop_25 ?_
    refine G_dup rfl dX7_pop_26 ?_
    refine G_get (k := 2) (kd := (0, 0)) (v := aI (σ3 15 2)) gf_X7_19 rfl rfl rfl rfl dX7_pop_27 ?_
    refine G_iconst dX7_pop_30 ?_
    refine G_isub dX7_pop_31 ?_
    obtain ⟨c8, h⟩ := h
    obtain ⟨σ7, e10⟩ : ∃ τ : Mem, τ = mset σ3 15 2 ((σ3 15 2) - 1) := ⟨_, rfl⟩
    have h := h σ7 e10
    have o9 : OKm σ7 := by rw [e10]; exact OKm.seti o5 _ _ _ c8 rfl
    refine G_put (k := 2) (ki := 2) (kd := (0, 0)) (x := _) pf_X7_19 rfl rfl rfl rfl (fa_i (mset_self _ _ _ _)) (fun _ => rfl) (fun _ => rfl) dX7_pop_32 ?_
    rw [← e10]
    refine G_aload_n 1 rfl rfl dX7_pop_35 ?_
    refine G_aload_n 0 rfl rfl dX7_pop_36 ?_
    refine G_get (k := 0) (kd := (3, 1)) (v := aR (16)) gf_X7_11 rfl rfl rfl rfl dX7_pop_37 ?_
    refine G_aload_n 0 rfl rfl dX7_pop_40 ?_
    refine G_get (k := 1) (kd := (0, 0)) (v := aI (σ7 15 1)) gf_X7_15 rfl rfl rfl rfl dX7_pop_41 ?_
    refine G_bipush (by decide) dX7_pop_44 ?_
    refine G_imul dX7_pop_46 ?_
    obtain ⟨c11, h⟩ := h
    obtain ⟨g12, c13, h⟩ := h
    refine G_callV (as := [_, _]) cf_X7_32 rfl rfl rfl (sp_X6_restore_s (d - 1) (by omega) _ o9 _ c11 g12 c13) (by omega) rfl rfl (Nat.le_of_ble_eq_true rfl) dX7_pop_47 ?_
    rintro _ σ16 ⟨rfl, z18⟩ o15 r14
    have h := h _ o15 z18
    refine G_iconst dX7_pop_50 ?_
    exact G_zret rfl (by decide) dX7_pop_51 ⟨_, rfl, h⟩ o15
  · have h := h.2 c1
    refine G_iconst dX7_pop_7 ?_
    exact G_zret rfl (by decide) dX7_pop_8 ⟨_, rfl, h⟩ hO

theorem sp_X7_pop (d : Nat) (hd : 1 ≤ d) (σ : Mem) (hO : OKm σ) (L : List Mem) (hpre : stepsC σ 15 L) : Mt yX7_pop cX7_pop 2 (some .boolean) d [aR (15), aR (10)] σ (QI (fun v σ' => match L with | [] => v = 0 ∧ σ' = σ | B :: L2 => v = 1 ∧ stepsC σ' 15 L2 ∧ restC σ σ' B ∧ Fr [10, 11, 12, 13, 14, 15] σ σ')) := mt_X7_pop hd  hO (by
  unfold wp_X7_pop
  obtain ⟨hL, hc, h1, h2, hrows⟩ := hpre
  have e1 := tmodP (a := σ 15 1 + 30 - 1) (b := 30) (by omega)
  unfold R32 at *
  refine And.intro (fun hh => ?_) (fun hh => ?_)
  rotate_left
  · have : L = [] := List.eq_nil_of_length_eq_zero (by omega)
    subst this
    exact ⟨rfl, rfl⟩
  cases L with
  | nil => simp at hc; omega
  | cons B L =>
    obtain ⟨hB, hB2⟩ := hrows 0 B rfl
    simp only [List.length_cons] at hL hc
    refine And.intro ?_ ?_
    · omega
    rw [e1]
    refine And.intro ?_ ?_
    · omega
    intro _ e; subst e
    refine And.intro ?_ ?_
    · simp (disch := omega) only [mset_off, mset_hit, mset_miss, mcpy_off, mcpy_hit, mcpy_miss, mrow_off, mrow_same]; omega
    intro _ e; subst e
    simp (disch := omega) only [mset_off, mset_hit, mset_miss, mcpy_off, mcpy_hit, mcpy_miss, mrow_off, mrow_same]
    refine And.intro ?_ ?_
    · omega
    refine ⟨B, ⟨rowC_congr hB2 hB (fun i hi hi2 => ?_), hB, by omega, by omega⟩, ?_⟩
    · simp (disch := omega) only [mset_off, mset_hit, mset_miss, mcpy_off, mcpy_hit, mcpy_miss, mrow_off, mrow_same]
      congr 1; omega
    intro σ1 hO1 ⟨hrest, hF⟩
    refine ⟨trivial, ⟨?_, ?_, ?_, ?_, fun k B' hk => ?_⟩, ?_, ?_⟩
    · omega
    · rw [hF 15 (by simp)]; simp (disch := omega) only [mset_off, mset_hit, mset_miss, mcpy_off, mcpy_hit, mcpy_miss, mrow_off, mrow_same]; omega
    · rw [hF 15 (by simp)]; simp (disch := omega) only [mset_off, mset_hit, mset_miss, mcpy_off, mcpy_hit, mcpy_miss, mrow_off, mrow_same]; omega
    · rw [hF 15 (by simp)]; simp (disch := omega) only [mset_off, mset_hit, mset_miss, mcpy_off, mcpy_hit, mcpy_miss, mrow_off, mrow_same]; omega
    · obtain ⟨q1, q2⟩ := hrows (k + 1) B' hk
      have hk2 : k < L.length := (List.getElem?_eq_some_iff.mp hk).1
      refine ⟨q1, rowC_congr q2 q1 (fun i hi hi2 => ?_)⟩
      rw [hF 15 (by simp), hF (15 + 1) (by simp)]
      simp (disch := omega) only [mset_off, mset_hit, mset_miss, mcpy_off, mcpy_hit, mcpy_miss, mrow_off, mrow_same]
      congr 1; omega
    · obtain ⟨r0, r1, r2, r3, r4, r5⟩ := hrest
      refine ⟨r0, r1, fun r h => ?_, r3, fun g h => ?_, r5⟩
      · rw [r2 r h]; simp (disch := omega) only [mset_off, mset_hit, mset_miss, mcpy_off, mcpy_hit, mcpy_miss, mrow_off, mrow_same]
      · rw [(r4 g h).1, (r4 g h).2]; simp (disch := omega) only [mset_off, mset_hit, mset_miss, mcpy_off, mcpy_hit, mcpy_miss, mrow_off, mrow_same]; exact ⟨trivial, trivial⟩
    · intro q hq
      simp only [List.mem_cons, List.not_mem_nil, or_false, not_or] at hq
      rw [hF q (by simp; omega), mset_ne hq.2.2.2.2.2, mset_ne hq.2.2.2.2.2])

def wp_X7_copyFrom  (σ : Mem) (Q : Mem → Prop) : Prop :=
  ((0 : Int) ≤ 0 ∧ (0 : Int) ≤ 0 ∧ (0 : Int) ≤ 1950 ∧ (0 + 1950 : Int) ≤ 1950 ∧ (0 + 1950 : Int) ≤ 1950) ∧
   ∀ σ2 : Mem, σ2 = mcpy σ 28 0 16 0 1950 →
   ∀ σ5 : Mem, σ5 = mset σ2 15 1 (σ2 27 1) →
   ∀ σ8 : Mem, σ8 = mset σ5 15 2 (σ5 27 2) →
   Q σ8
theorem mt_X7_copyFrom {d : Nat} (hd : 0 ≤ d)  {σ : Mem} {Q : Mem → Prop}  (hO : OKm σ) (h : wp_X7_copyFrom  σ Q) : Mt yX7_copyFrom cX7_copyFrom 2 none d [aR (15), aR (27)] σ (QV Q) := by
  refine Mt.intro (by decide +kernel) (Nat.le_of_ble_eq_true rfl) [(0, aR (15)), (1, aR (27))] rfl ?_
  unfold wp_X7_copyFrom at h
  refine G_aload_n 1 rfl rfl dX7_copyFrom_0 ?_
  refine G_get (k := 0) (kd := (3, 1)) (v := aR (28)) gf_X7_11 rfl rfl rfl rfl dX7_copyFrom_1 ?_
  refine G_iconst dX7_copyFrom_4 ?_
  refine G_aload_n 0 rfl rfl dX7_copyFrom_5 ?_
  refine G_get (k := 0) (kd := (3, 1)) (v := aR (16)) gf_X7_11 rfl rfl rfl rfl dX7_copyFrom_6 ?_
  refine G_iconst dX7_copyFrom_9 ?_
  refine G_aload_n 0 rfl rfl dX7_copyFrom_10 ?_
  refine G_get (k := 0) (kd := (3, 1)) (v := aR (16)) gf_X7_11 rfl rfl rfl rfl dX7_copyFrom_11 ?_
  refine G_alen (v := 1950) (n := 1950) rfl (by decide) (by decide) rfl dX7_copyFrom_14 ?_
  obtain ⟨c1, h⟩ := h
  obtain ⟨σ2, e4⟩ : ∃ τ : Mem, τ = mcpy σ 28 0 16 0 1950 := ⟨_, rfl⟩
  have h := h σ2 e4
  have o3 : OKm σ2 := by rw [e4]; exact OKm.cpy hO (isLg_row (show shp 28 = (1, 1950, []) from rfl)) (isLg_row (show shp 16 = (1, 1950, []) from rfl))
  refine G_copy rfl (show shp 28 = (1, 1950, []) from rfl) (show shp 16 = (1, 1950, []) from rfl) (by decide) (by decide) c1.1 c1.2.1 c1.2.2.1 c1.2.2.2.1 c1.2.2.2.2 (Nat.le_of_ble_eq_true rfl) sf_X7_36 dX7_copyFrom_15 ?_
  rw [← e4]
  refine G_aload_n 0 rfl rfl dX7_copyFrom_18 ?_
  refine G_aload_n 1 rfl rfl dX7_copyFrom_19 ?_
  refine G_get (k := 1) (kd := (0, 0)) (v := aI (σ2 27 1)) gf_X7_15 rfl rfl rfl rfl dX7_copyFrom_20 ?_
  obtain ⟨σ5, e7⟩ : ∃ τ : Mem, τ = mset σ2 15 1 (σ2 27 1) := ⟨_, rfl⟩
  have h := h σ5 e7
  have o6 : OKm σ5 := by rw [e7]; exact OKm.seti o3 _ _ _ (OKm.i o3 27 1 rfl) rfl
  refine G_put (k := 1) (ki := 1) (kd := (0, 0)) (x := _) pf_X7_15 rfl rfl rfl rfl (fa_i (mset_self _ _ _ _)) (fun _ => rfl) (fun _ => rfl) dX7_copyFrom_23 ?_
  rw [← e7]
  refine G_aload_n 0 rfl rfl dX7_copyFrom_26 ?_
  refine G_aload_n 1 rfl rfl dX7_copyFrom_27 ?_
  refine G_get (k := 2) (kd := (0, 0)) (v := aI (σ5 27 2)) gf_X7_19 rfl rfl rfl rfl dX7_copyFrom_28 ?_
  obtain ⟨σ8, e10⟩ : ∃ τ : Mem, τ = mset σ5 15 2 (σ5 27 2) := ⟨_, rfl⟩
  have h := h σ8 e10
  have o9 : OKm σ8 := by rw [e10]; exact OKm.seti o6 _ _ _ (OKm.i o6 27 2 rfl) rfl
  refine G_put (k := 2) (ki := 2) (kd := (0, 0)) (x := _) pf_X7_19 rfl rfl rfl rfl (fa_i (mset_self _ _ _ _)) (fun _ => rfl) (fun _ => rfl) dX7_copyFrom_31 ?_
  rw [← e10]
  exact G_vret rfl dX7_copyFrom_34 ⟨rfl, h⟩ o9

theorem sp_X7_copyFrom (d : Nat) (hd : 0 ≤ d) (σ : Mem) (hO : OKm σ) (L : List Mem) (hpre : stepsC σ 27 L) : Mt yX7_copyFrom cX7_copyFrom 2 none d [aR (15), aR (27)] σ (QV (fun σ' => stepsC σ' 15 L ∧ Fr [15, 16] σ σ')) := mt_X7_copyFrom hd  hO (by
  unfold wp_X7_copyFrom
  obtain ⟨hL, hc, h1, h2, hrows⟩ := hpre
  repeat' (first | (intro _ e; subst e) | (refine And.intro ?_ ?_; first | omega | (simp (disch := omega) only [mset_off, mset_hit, mset_miss, mcpy_off, mcpy_hit, mcpy_miss, mrow_off, mrow_same]; omega)))
  refine ⟨⟨hL, ?_, ?_, ?_, fun k B hk => ?_⟩, ?_⟩
  · simp (disch := omega) only [mset_off, mset_hit, mset_miss, mcpy_off, mcpy_hit, mcpy_miss, mrow_off, mrow_same]; exact hc
  · simp (disch := omega) only [mset_off, mset_hit, mset_miss, mcpy_off, mcpy_hit, mcpy_miss, mrow_off, mrow_same]; exact h1
  · simp (disch := omega) only [mset_off, mset_hit, mset_miss, mcpy_off, mcpy_hit, mcpy_miss, mrow_off, mrow_same]; exact h2
  · obtain ⟨hB, hB2⟩ := hrows k B hk
    refine ⟨hB, rowC_congr hB2 hB (fun i hi hi2 => ?_)⟩
    simp (disch := omega) only [mset_off, mset_hit, mset_miss, mcpy_off, mcpy_hit, mcpy_miss, mrow_off, mrow_same]
    congr 1; omega
  · intro q hq
    simp only [List.mem_cons, List.not_mem_nil, or_false, not_or] at hq
    funext j
    simp (disch := omega) only [mset_off, mset_hit, mset_miss, mcpy_off, mcpy_hit, mcpy_miss, mrow_off, mrow_same])

def wp_X7_copyFrom_i  (σ : Mem) (Q : Mem → Prop) : Prop :=
  ((0 : Int) ≤ 0 ∧ (0 : Int) ≤ 0 ∧ (0 : Int) ≤ 1950 ∧ (0 + 1950 : Int) ≤ 1950 ∧ (0 + 1950 : Int) ≤ 1950) ∧
   ∀ σ2 : Mem, σ2 = mcpy σ 16 0 28 0 1950 →
   ∀ σ5 : Mem, σ5 = mset σ2 27 1 (σ2 15 1) →
   ∀ σ8 : Mem, σ8 = mset σ5 27 2 (σ5 15 2) →
   Q σ8
theorem mt_X7_copyFrom_i {d : Nat} (hd : 0 ≤ d)  {σ : Mem} {Q : Mem → Prop}  (hO : OKm σ) (h : wp_X7_copyFrom_i  σ Q) : Mt yX7_copyFrom cX7_copyFrom 2 none d [aR (27), aR (15)] σ (QV Q) := by
  refine Mt.intro (by decide +kernel) (Nat.le_of_ble_eq_true rfl) [(0, aR (27)), (1, aR (15))] rfl ?_
  unfold wp_X7_copyFrom_i at h
  refine G_aload_n 1 rfl rfl dX7_copyFrom_0 ?_
  refine G_get (k := 0) (kd := (3, 1)) (v := aR (16)) gf_X7_11 rfl rfl rfl rfl dX7_copyFrom_1 ?_
  refine G_iconst dX7_copyFrom_4 ?_
  refine G_aload_n 0 rfl rfl dX7_copyFrom_5 ?_
  refine G_get (k := 0) (kd := (3, 1)) (v := aR (28)) gf_X7_11 rfl rfl rfl rfl dX7_copyFrom_6 ?_
  refine G_iconst dX7_copyFrom_9 ?_
  refine G_aload_n 0 rfl rfl dX7_copyFrom_10 ?_
  refine G_get (k := 0) (kd := (3, 1)) (v := aR (28)) gf_X7_11 rfl rfl rfl rfl dX7_copyFrom_11 ?_
  refine G_alen (v := 1950) (n := 1950) rfl (by decide) (by decide) rfl dX7_copyFrom_14 ?_
  obtain ⟨c1, h⟩ := h
  obtain ⟨σ2, e4⟩ : ∃ τ : Mem, τ = mcpy σ 16 0 28 0 1950 := ⟨_, rfl⟩
  have h := h σ2 e4
  have o3 : OKm σ2 := by rw [e4]; exact OKm.cpy hO (isLg_row (show shp 16 = (1, 1950, []) from rfl)) (isLg_row (show shp 28 = (1, 1950, []) from rfl))
  refine G_copy rfl (show shp 16 = (1, 1950, []) from rfl) (show shp 28 = (1, 1950, []) from rfl) (by decide) (by decide) c1.1 c1.2.1 c1.2.2.1 c1.2.2.2.1 c1.2.2.2.2 (Nat.le_of_ble_eq_true rfl) sf_X7_36 dX7_copyFrom_15 ?_
  rw [← e4]
  refine G_aload_n 0 rfl rfl dX7_copyFrom_18 ?_
  refine G_aload_n 1 rfl rfl dX7_copyFrom_19 ?_
  refine G_get (k := 1) (kd := (0, 0)) (v := aI (σ2 15 1)) gf_X7_15 rfl rfl rfl rfl dX7_copyFrom_20 ?_
  obtain ⟨σ5, e7⟩ : ∃ τ : Mem, τ = mset σ2 27 1 (σ2 15 1) := ⟨_, rfl⟩
  have h := h σ5 e7
  have o6 : OKm σ5 := by rw [e7]; exact OKm.seti o3 _ _ _ (OKm.i o3 15 1 rfl) rfl
  refine G_put (k := 1) (ki := 1) (kd := (0, 0)) (x := _) pf_X7_15 rfl rfl rfl rfl (fa_i (mset_self _ _ _ _)) (fun _ => rfl) (fun _ => rfl) dX7_copyFrom_23 ?_
  rw [← e7]
  refine G_aload_n 0 rfl rfl dX7_copyFrom_26 ?_
  refine G_aload_n 1 rfl rfl dX7_copyFrom_27 ?_
  refine G_get (k := 2) (kd := (0, 0)) (v := aI (σ5 15 2)) gf_X7_19 rfl rfl rfl rfl dX7_copyFrom_28 ?_
  obtain ⟨σ8, e10⟩ : ∃ τ : Mem, τ = mset σ5 27 2 (σ5 15 2) := ⟨_, rfl⟩
  have h := h σ8 e10
  have o9 : OKm σ8 := by rw [e10]; exact OKm.seti o6 _ _ _ (OKm.i o6 15 2 rfl) rfl
  refine G_put (k := 2) (ki := 2) (kd := (0, 0)) (x := _) pf_X7_19 rfl rfl rfl rfl (fa_i (mset_self _ _ _ _)) (fun _ => rfl) (fun _ => rfl) dX7_copyFrom_31 ?_
  rw [← e10]
  exact G_vret rfl dX7_copyFrom_34 ⟨rfl, h⟩ o9

theorem sp_X7_copyFrom_i (d : Nat) (hd : 0 ≤ d) (σ : Mem) (hO : OKm σ) (L : List Mem) (hpre : stepsC σ 15 L) : Mt yX7_copyFrom cX7_copyFrom 2 none d [aR (27), aR (15)] σ (QV (fun σ' => stepsC σ' 27 L ∧ Fr [27, 28] σ σ')) := mt_X7_copyFrom_i hd  hO (by
  unfold wp_X7_copyFrom_i
  obtain ⟨hL, hc, h1, h2, hrows⟩ := hpre
  repeat' (first | (intro _ e; subst e) | (refine And.intro ?_ ?_; first | omega | (simp (disch := omega) only [mset_off, mset_hit, mset_miss, mcpy_off, mcpy_hit, mcpy_miss, mrow_off, mrow_same]; omega)))
  refine ⟨⟨hL, ?_, ?_, ?_, fun k B hk => ?_⟩, ?_⟩
  · simp (disch := omega) only [mset_off, mset_hit, mset_miss, mcpy_off, mcpy_hit, mcpy_miss, mrow_off, mrow_same]; exact hc
  · simp (disch := omega) only [mset_off, mset_hit, mset_miss, mcpy_off, mcpy_hit, mcpy_miss, mrow_off, mrow_same]; exact h1
  · simp (disch := omega) only [mset_off, mset_hit, mset_miss, mcpy_off, mcpy_hit, mcpy_miss, mrow_off, mrow_same]; exact h2
  · obtain ⟨hB, hB2⟩ := hrows k B hk
    refine ⟨hB, rowC_congr hB2 hB (fun i hi hi2 => ?_)⟩
    simp (disch := omega) only [mset_off, mset_hit, mset_miss, mcpy_off, mcpy_hit, mcpy_miss, mrow_off, mrow_same]
    congr 1; omega
  · intro q hq
    simp only [List.mem_cons, List.not_mem_nil, or_false, not_or] at hq
    funext j
    simp (disch := omega) only [mset_off, mset_hit, mset_miss, mcpy_off, mcpy_hit, mcpy_miss, mrow_off, mrow_same])

def wp_X10_copyFrom  (σ : Mem) (Q : Mem → Prop) : Prop :=
  ((0 : Int) ≤ 0 ∧ (0 : Int) ≤ 0 ∧ (0 : Int) ≤ 16 ∧ (0 + 16 : Int) ≤ 16 ∧ (0 + 16 : Int) ≤ 16) ∧
   ∀ σ2 : Mem, σ2 = mcpy σ 18 0 2 0 16 →
   ((0 : Int) ≤ 0 ∧ (0 : Int) ≤ 0 ∧ (0 : Int) ≤ 16 ∧ (0 + 16 : Int) ≤ 16 ∧ (0 + 16 : Int) ≤ 16) ∧
   ∀ σ6 : Mem, σ6 = mcpy σ2 19 0 3 0 16 →
   ((0 : Int) ≤ 0 ∧ (0 : Int) ≤ 0 ∧ (0 : Int) ≤ 16 ∧ (0 + 16 : Int) ≤ 16 ∧ (0 + 16 : Int) ≤ 16) ∧
   ∀ σ10 : Mem, σ10 = mcpy σ6 20 0 4 0 16 →
   ((0 : Int) ≤ 0 ∧ (0 : Int) ≤ 0 ∧ (0 : Int) ≤ 16 ∧ (0 + 16 : Int) ≤ 16 ∧ (0 + 16 : Int) ≤ 16) ∧
   ∀ σ14 : Mem, σ14 = mcpy σ10 21 0 5 0 16 →
   ((0 : Int) ≤ 0 ∧ (0 : Int) ≤ 0 ∧ (0 : Int) ≤ 6 ∧ (0 + 6 : Int) ≤ 6 ∧ (0 + 6 : Int) ≤ 6) ∧
   ∀ σ18 : Mem, σ18 = mcpy σ14 22 0 6 0 6 →
   ((0 : Int) ≤ 0 ∧ (0 : Int) ≤ 0 ∧ (0 : Int) ≤ 8 ∧ (0 + 8 : Int) ≤ 8 ∧ (0 + 8 : Int) ≤ 8) ∧
   ∀ σ22 : Mem, σ22 = mcpy σ18 23 0 7 0 8 →
   ((0 : Int) ≤ 0 ∧ (0 : Int) ≤ 0 ∧ (0 : Int) ≤ 8 ∧ (0 + 8 : Int) ≤ 8 ∧ (0 + 8 : Int) ≤ 8) ∧
   ∀ σ26 : Mem, σ26 = mcpy σ22 24 0 8 0 8 →
   ((0 : Int) ≤ 0 ∧ (0 : Int) ≤ 0 ∧ (0 : Int) ≤ 8 ∧ (0 + 8 : Int) ≤ 8 ∧ (0 + 8 : Int) ≤ 8) ∧
   ∀ σ30 : Mem, σ30 = mcpy σ26 25 0 9 0 8 →
   ∀ σ33 : Mem, σ33 = mset σ30 1 8 (σ30 17 8) →
   ∀ σ36 : Mem, σ36 = mset σ33 1 9 (σ33 17 9) →
   ∀ σ39 : Mem, σ39 = mset σ36 1 10 (σ36 17 10) →
   ∀ σ42 : Mem, σ42 = mset σ39 1 11 (σ39 17 11) →
   ∀ σ45 : Mem, σ45 = mset σ42 1 12 (σ42 17 12) →
   Q σ45
theorem mt_X10_copyFrom {d : Nat} (hd : 0 ≤ d)  {σ : Mem} {Q : Mem → Prop}  (hO : OKm σ) (h : wp_X10_copyFrom  σ Q) : Mt yX10_copyFrom cX10_copyFrom 2 none d [aR (1), aR (17)] σ (QV Q) := by
  refine Mt.intro (by decide +kernel) (Nat.le_of_ble_eq_true rfl) [(0, aR (1)), (1, aR (17))] rfl ?_
  unfold wp_X10_copyFrom at h
  refine G_aload_n 1 rfl rfl dX10_copyFrom_0 ?_
  refine G_get (k := 0) (kd := (3, 1)) (v := aR (18)) gf_X10_9 rfl rfl rfl rfl dX10_copyFrom_1 ?_
  refine G_iconst dX10_copyFrom_4 ?_
  refine G_aload_n 0 rfl rfl dX10_copyFrom_5 ?_
  refine G_get (k := 0) (kd := (3, 1)) (v := aR (2)) gf_X10_9 rfl rfl rfl rfl dX10_copyFrom_6 ?_
  refine G_iconst dX10_copyFrom_9 ?_
  refine G_aload_n 0 rfl rfl dX10_copyFrom_10 ?_
  refine G_get (k := 0) (kd := (3, 1)) (v := aR (2)) gf_X10_9 rfl rfl rfl rfl dX10_copyFrom_11 ?_
  refine G_alen (v := 16) (n := 16) rfl (by decide) (by decide) rfl dX10_copyFrom_14 ?_
  obtain ⟨c1, h⟩ := h
  obtain ⟨σ2, e4⟩ : ∃ τ : Mem, τ = mcpy σ 18 0 2 0 16 := ⟨_, rfl⟩
  have h := h σ2 e4
  have o3 : OKm σ2 := by rw [e4]; exact OKm.cpy hO (isLg_row (show shp 18 = (1, 16, []) from rfl)) (isLg_row (show shp 2 = (1, 16, []) from rfl))
  refine G_copy rfl (show shp 18 = (1, 16, []) from rfl) (show shp 2 = (1, 16, []) from rfl) (by decide) (by decide) c1.1 c1.2.1 c1.2.2.1 c1.2.2.2.1 c1.2.2.2.2 (Nat.le_of_ble_eq_true rfl) sf_X10_52 dX10_copyFrom_15 ?_
  rw [← e4]
  refine G_aload_n 1 rfl rfl dX10_copyFrom_18 ?_
  refine G_get (k := 1) (kd := (3, 2)) (v := aR (19)) gf_X10_15 rfl rfl rfl rfl dX10_copyFrom_19 ?_
  refine G_iconst dX10_copyFrom_22 ?_
  refine G_aload_n 0 rfl rfl dX10_copyFrom_23 ?_
  refine G_get (k := 1) (kd := (3, 2)) (v := aR (3)) gf_X10_15 rfl rfl rfl rfl dX10_copyFrom_24 ?_
  refine G_iconst dX10_copyFrom_27 ?_
  refine G_aload_n 0 rfl rfl dX10_copyFrom_28 ?_
  refine G_get (k := 1) (kd := (3, 2)) (v := aR (3)) gf_X10_15 rfl rfl rfl rfl dX10_copyFrom_29 ?_
  refine G_alen (v := 16) (n := 16) rfl (by decide) (by decide) rfl dX10_copyFrom_32 ?_
  obtain ⟨c5, h⟩ := h
  obtain ⟨σ6, e8⟩ : ∃ τ : Mem, τ = mcpy σ2 19 0 3 0 16 := ⟨_, rfl⟩
  have h := h σ6 e8
  have o7 : OKm σ6 := by rw [e8]; exact OKm.cpy o3 (isLg_row (show shp 19 = (1, 16, []) from rfl)) (isLg_row (show shp 3 = (1, 16, []) from rfl))
  refine G_copy rfl (show shp 19 = (1, 16, []) from rfl) (show shp 3 = (1, 16, []) from rfl) (by decide) (by decide) c5.1 c5.2.1 c5.2.2.1 c5.2.2.2.1 c5.2.2.2.2 (Nat.le_of_ble_eq_true rfl) sf_X10_52 dX10_copyFrom_33 ?_
  rw [← e8]
  refine G_aload_n 1 rfl rfl dX10_copyFrom_36 ?_
  refine G_get (k := 2) (kd := (3, 3)) (v := aR (20)) gf_X10_18 rfl rfl rfl rfl dX10_copyFrom_37 ?_
  refine G_iconst dX10_copyFrom_40 ?_
  refine G_aload_n 0 rfl rfl dX10_copyFrom_41 ?_
  refine G_get (k := 2) (kd := (3, 3)) (v := aR (4)) gf_X10_18 rfl rfl rfl rfl dX10_copyFrom_42 ?_
  refine G_iconst dX10_copyFrom_45 ?_
  refine G_aload_n 0 rfl rfl dX10_copyFrom_46 ?_
  refine G_get (k := 2) (kd := (3, 3)) (v := aR (4)) gf_X10_18 rfl rfl rfl rfl dX10_copyFrom_47 ?_
  refine G_alen (v := 16) (n := 16) rfl (by decide) (by decide) rfl dX10_copyFrom_50 ?_
  obtain ⟨c9, h⟩ := h
  obtain ⟨σ10, e12⟩ : ∃ τ : Mem, τ = mcpy σ6 20 0 4 0 16 := ⟨_, rfl⟩
  have h := h σ10 e12
  have o11 : OKm σ10 := by rw [e12]; exact OKm.cpy o7 (isLg_row (show shp 20 = (1, 16, []) from rfl)) (isLg_row (show shp 4 = (1, 16, []) from rfl))
  refine G_copy rfl (show shp 20 = (1, 16, []) from rfl) (show shp 4 = (1, 16, []) from rfl) (by decide) (by decide) c9.1 c9.2.1 c9.2.2.1 c9.2.2.2.1 c9.2.2.2.2 (Nat.le_of_ble_eq_true rfl) sf_X10_52 dX10_copyFrom_51 ?_
  rw [← e12]
  refine G_aload_n 1 rfl rfl dX10_copyFrom_54 ?_
  refine G_get (k := 3) (kd := (3, 4)) (v := aR (21)) gf_X10_21 rfl rfl rfl rfl dX10_copyFrom_55 ?_
  refine G_iconst dX10_copyFrom_58 ?_
  refine G_aload_n 0 rfl rfl dX10_copyFrom_59 ?_
  refine G_get (k := 3) (kd := (3, 4)) (v := aR (5)) gf_X10_21 rfl rfl rfl rfl dX10_copyFrom_60 ?_
  refine G_iconst dX10_copyFrom_63 ?_
  refine G_aload_n 0 rfl rfl dX10_copyFrom_64 ?_
  refine G_get (k := 3) (kd := (3, 4)) (v := aR (5)) gf_X10_21 rfl rfl rfl rfl dX10_copyFrom_65 ?_
  refine G_alen (v := 16) (n := 16) rfl (by decide) (by decide) rfl dX10_copyFrom_68 ?_
  obtain ⟨c13, h⟩ := h
  obtain ⟨σ14, e16⟩ : ∃ τ : Mem, τ = mcpy σ10 21 0 5 0 16 := ⟨_, rfl⟩
  have h := h σ14 e16
  have o15 : OKm σ14 := by rw [e16]; exact OKm.cpy o11 (isLg_row (show shp 21 = (1, 16, []) from rfl)) (isLg_row (show shp 5 = (1, 16, []) from rfl))
  refine G_copy rfl (show shp 21 = (1, 16, []) from rfl) (show shp 5 = (1, 16, []) from rfl) (by decide) (by decide) c13.1 c13.2.1 c13.2.2.1 c13.2.2.2.1 c13.2.2.2.2 (Nat.le_of_ble_eq_true rfl) sf_X10_52 dX10_copyFrom_69 ?_
  rw [← e16]
  refine G_aload_n 1 rfl rfl dX10_copyFrom_72 ?_
  refine G_get (k := 4) (kd := (3, 5)) (v := aR (22)) gf_X10_24 rfl rfl rfl rfl dX10_copyFrom_73 ?_
  refine G_iconst dX10_copyFrom_76 ?_
  refine G_aload_n 0 rfl rfl dX10_copyFrom_77 ?_
  refine G_get (k := 4) (kd := (3, 5)) (v := aR (6)) gf_X10_24 rfl rfl rfl rfl dX10_copyFrom_78 ?_
  refine G_iconst dX10_copyFrom_81 ?_
  refine G_aload_n 0 rfl rfl dX10_copyFrom_82 ?_
  refine G_get (k := 4) (kd := (3, 5)) (v := aR (6)) gf_X10_24 rfl rfl rfl rfl dX10_copyFrom_83 ?_
  refine G_alen (v := 6) (n := 6) rfl (by decide) (by decide) rfl dX10_copyFrom_86 ?_
  obtain ⟨c17, h⟩ := h
  obtain ⟨σ18, e20⟩ : ∃ τ : Mem, τ = mcpy σ14 22 0 6 0 6 := ⟨_, rfl⟩
  have h := h σ18 e20
  have o19 : OKm σ18 := by rw [e20]; exact OKm.cpy o15 (isLg_row (show shp 22 = (1, 6, []) from rfl)) (isLg_row (show shp 6 = (1, 6, []) from rfl))
  refine G_copy rfl (show shp 22 = (1, 6, []) from rfl) (show shp 6 = (1, 6, []) from rfl) (by decide) (by decide) c17.1 c17.2.1 c17.2.2.1 c17.2.2.2.1 c17.2.2.2.2 (Nat.le_of_ble_eq_true rfl) sf_X10_52 dX10_copyFrom_87 ?_
  rw [← e20]
  refine G_aload_n 1 rfl rfl dX10_copyFrom_90 ?_
  refine G_get (k := 5) (kd := (3, 6)) (v := aR (23)) gf_X10_27 rfl rfl rfl rfl dX10_copyFrom_91 ?_
  refine G_iconst dX10_copyFrom_94 ?_
  refine G_aload_n 0 rfl rfl dX10_copyFrom_95 ?_
  refine G_get (k := 5) (kd := (3, 6)) (v := aR (7)) gf_X10_27 rfl rfl rfl rfl dX10_copyFrom_96 ?_
  refine G_iconst dX10_copyFrom_99 ?_
  refine G_aload_n 0 rfl rfl dX10_copyFrom_100 ?_
  refine G_get (k := 5) (kd := (3, 6)) (v := aR (7)) gf_X10_27 rfl rfl rfl rfl dX10_copyFrom_101 ?_
  refine G_alen (v := 8) (n := 8) rfl (by decide) (by decide) rfl dX10_copyFrom_104 ?_
  obtain ⟨c21, h⟩ := h
  obtain ⟨σ22, e24⟩ : ∃ τ : Mem, τ = mcpy σ18 23 0 7 0 8 := ⟨_, rfl⟩
  have h := h σ22 e24
  have o23 : OKm σ22 := by rw [e24]; exact OKm.cpy o19 (isLg_row (show shp 23 = (1, 8, []) from rfl)) (isLg_row (show shp 7 = (1, 8, []) from rfl))
  refine G_copy rfl (show shp 23 = (1, 8, []) from rfl) (show shp 7 = (1, 8, []) from rfl) (by decide) (by decide) c21.1 c21.2.1 c21.2.2.1 c21.2.2.2.1 c21.2.2.2.2 (Nat.le_of_ble_eq_true rfl) sf_X10_52 dX10_copyFrom_105 ?_
  rw [← e24]
  refine G_aload_n 1 rfl rfl dX10_copyFrom_108 ?_
  refine G_get (k := 6) (kd := (3, 7)) (v := aR (24)) gf_X10_30 rfl rfl rfl rfl dX10_copyFrom_109 ?_
  refine G_iconst dX10_copyFrom_112 ?_
  refine G_aload_n 0 rfl rfl dX10_copyFrom_113 ?_
  refine G_get (k := 6) (kd := (3, 7)) (v := aR (8)) gf_X10_30 rfl rfl rfl rfl dX10_copyFrom_114 ?_
  refine G_iconst dX10_copyFrom_117 ?_
  refine G_aload_n 0 rfl rfl dX10_copyFrom_118 ?_
  refine G_get (k := 6) (kd := (3, 7)) (v := aR (8)) gf_X10_30 rfl rfl rfl rfl dX10_copyFrom_119 ?_
  refine G_alen (v := 8) (n := 8) rfl (by decide) (by decide) rfl dX10_copyFrom_122 ?_
  obtain ⟨c25, h⟩ := h
  obtain ⟨σ26, e28⟩ : ∃ τ : Mem, τ = mcpy σ22 24 0 8 0 8 := ⟨_, rfl⟩
  have h := h σ26 e28
  have o27 : OKm σ26 := by rw [e28]; exact OKm.cpy o23 (isLg_row (show shp 24 = (1, 8, []) from rfl)) (isLg_row (show shp 8 = (1, 8, []) from rfl))
  refine G_copy rfl (show shp 24 = (1, 8, []) from rfl) (show shp 8 = (1, 8, []) from rfl) (by decide) (by decide) c25.1 c25.2.1 c25.2.2.1 c25.2.2.2.1 c25.2.2.2.2 (Nat.le_of_ble_eq_true rfl) sf_X10_52 dX10_copyFrom_123 ?_
  rw [← e28]
  refine G_aload_n 1 rfl rfl dX10_copyFrom_126 ?_
  refine G_get (k := 7) (kd := (3, 8)) (v := aR (25)) gf_X10_33 rfl rfl rfl rfl dX10_copyFrom_127 ?_
  refine G_iconst dX10_copyFrom_130 ?_
  refine G_aload_n 0 rfl rfl dX10_copyFrom_131 ?_
  refine G_get (k := 7) (kd := (3, 8)) (v := aR (9)) gf_X10_33 rfl rfl rfl rfl dX10_copyFrom_132 ?_
  refine G_iconst dX10_copyFrom_135 ?_
  refine G_aload_n 0 rfl rfl dX10_copyFrom_136 ?_
  refine G_get (k := 7) (kd := (3, 8)) (v := aR (9)) gf_X10_33 rfl rfl rfl rfl dX10_copyFrom_137 ?_
  refine G_alen (v := 8) (n := 8) rfl (by decide) (by decide) rfl dX10_copyFrom_140 ?_
  obtain ⟨c29, h⟩ := h
  obtain ⟨σ30, e32⟩ : ∃ τ : Mem, τ = mcpy σ26 25 0 9 0 8 := ⟨_, rfl⟩
  have h := h σ30 e32
  have o31 : OKm σ30 := by rw [e32]; exact OKm.cpy o27 (isLg_row (show shp 25 = (1, 8, []) from rfl)) (isLg_row (show shp 9 = (1, 8, []) from rfl))
  refine G_copy rfl (show shp 25 = (1, 8, []) from rfl) (show shp 9 = (1, 8, []) from rfl) (by decide) (by decide) c29.1 c29.2.1 c29.2.2.1 c29.2.2.2.1 c29.2.2.2.2 (Nat.le_of_ble_eq_true rfl) sf_X10_52 dX10_copyFrom_141 ?_
  rw [← e32]
  refine G_aload_n 0 rfl rfl dX10_copyFrom_144 ?_
  refine G_aload_n 1 rfl rfl dX10_copyFrom_145 ?_
  refine G_get (k := 8) (kd := (0, 0)) (v := aI (σ30 17 8)) gf_X10_36 rfl rfl rfl rfl dX10_copyFrom_146 ?_
  obtain ⟨σ33, e35⟩ : ∃ τ : Mem, τ = mset σ30 1 8 (σ30 17 8) := ⟨_, rfl⟩
  have h := h σ33 e35
  have o34 : OKm σ33 := by rw [e35]; exact OKm.seti o31 _ _ _ (OKm.i o31 17 8 rfl) rfl
  refine G_put (k := 8) (ki := 8) (kd := (0, 0)) (x := _) pf_X10_36 rfl rfl rfl rfl (fa_i (mset_self _ _ _ _)) (fun _ => rfl) (fun _ => rfl) dX10_copyFrom_149 ?_
  rw [← e35]
  refine G_aload_n 0 rfl rfl dX10_copyFrom_152 ?_
  refine G_aload_n 1 rfl rfl dX10_copyFrom_153 ?_
  refine G_get (k := 9) (kd := (0, 0)) (v := aI (σ33 17 9)) gf_X10_40 rfl rfl rfl rfl dX10_copyFrom_154 ?_
  obtain ⟨σ36, e38⟩ : ∃ τ : Mem, τ = mset σ33 1 9 (σ33 17 9) := ⟨_, rfl⟩
  have h := h σ36 e38
  have o37 : OKm σ36 := by rw [e38]; exact OKm.seti o34 _ _ _ (OKm.i o34 17 9 rfl) rfl
  refine G_put (k := 9) (ki := 9) (kd := (0, 0)) (x := _) pf_X10_40 rfl rfl rfl rfl (fa_i (mset_self _ _ _ _)) (fun _ => rfl) (fun _ => rfl) dX10_copyFrom_157 ?_
  rw [← e38]
  refine G_aload_n 0 rfl rfl dX10_copyFrom_160 ?_
  refine G_aload_n 1 rfl rfl dX10_copyFrom_161 ?_
  refine G_get (k := 10) (kd := (0, 0)) (v := aI (σ36 17 10)) gf_X10_43 rfl rfl rfl rfl dX10_copyFrom_162 ?_
  obtain ⟨σ39, e41⟩ : ∃ τ : Mem, τ = mset σ36 1 10 (σ36 17 10) := ⟨_, rfl⟩
  have h := h σ39 e41
  have o40 : OKm σ39 := by rw [e41]; exact OKm.seti o37 _ _ _ (OKm.i o37 17 10 rfl) rfl
  refine G_put (k := 10) (ki := 10) (kd := (0, 0)) (x := _) pf_X10_43 rfl rfl rfl rfl (fa_i (mset_self _ _ _ _)) (fun _ => rfl) (fun _ => rfl) dX10_copyFrom_165 ?_
  rw [← e41]
  refine G_aload_n 0 rfl rfl dX10_copyFrom_168 ?_
  refine G_aload_n 1 rfl rfl dX10_copyFrom_169 ?_
  refine G_get (k := 11) (kd := (0, 0)) (v := aI (σ39 17 11)) gf_X10_46 rfl rfl rfl rfl dX10_copyFrom_170 ?_
  obtain ⟨σ42, e44⟩ : ∃ τ : Mem, τ = mset σ39 1 11 (σ39 17 11) := ⟨_, rfl⟩
  have h := h σ42 e44
  have o43 : OKm σ42 := by rw [e44]; exact OKm.seti o40 _ _ _ (OKm.i o40 17 11 rfl) rfl
  refine G_put (k := 11) (ki := 11) (kd := (0, 0)) (x := _) pf_X10_46 rfl rfl rfl rfl (fa_i (mset_self _ _ _ _)) (fun _ => rfl) (fun _ => rfl) dX10_copyFrom_173 ?_
  rw [← e44]
  refine G_aload_n 0 rfl rfl dX10_copyFrom_176 ?_
  refine G_aload_n 1 rfl rfl dX10_copyFrom_177 ?_
  refine G_get (k := 12) (kd := (0, 0)) (v := aI (σ42 17 12)) gf_X10_49 rfl rfl rfl rfl dX10_copyFrom_178 ?_
  obtain ⟨σ45, e47⟩ : ∃ τ : Mem, τ = mset σ42 1 12 (σ42 17 12) := ⟨_, rfl⟩
  have h := h σ45 e47
  have o46 : OKm σ45 := by rw [e47]; exact OKm.seti o43 _ _ _ (OKm.i o43 17 12 rfl) rfl
  refine G_put (k := 12) (ki := 12) (kd := (0, 0)) (x := _) pf_X10_49 rfl rfl rfl rfl (fa_i (mset_self _ _ _ _)) (fun _ => rfl) (fun _ => rfl) dX10_copyFrom_181 ?_
  rw [← e47]
  exact G_vret rfl dX10_copyFrom_184 ⟨rfl, h⟩ o46

theorem sp_X10_copyFrom (d : Nat) (hd : 0 ≤ d) (σ : Mem) (hO : OKm σ) (A : Mem) (hpre : toldC σ 17 A ∧ (A 10 0 ≤ 16 ∧ A 10 1 ≤ 6 ∧ A 10 3 ≤ 8)) : Mt yX10_copyFrom cX10_copyFrom 2 none d [aR (1), aR (17)] σ (QV (fun σ' => toldC σ' 1 A ∧ Fr [1, 2, 3, 4, 5, 6, 7, 8, 9] σ σ')) := mt_X10_copyFrom hd  hO (by
  unfold wp_X10_copyFrom
  obtain ⟨⟨h0, h1, h2, h3⟩, hC⟩ := hpre
  repeat' (first | (intro _ e; subst e) | (refine And.intro ?_ ?_; first | omega | (simp (disch := omega) only [mset_off, mset_hit, mset_miss, mcpy_off, mcpy_hit, mcpy_miss, mrow_off, mrow_same]; omega)))
  refine ⟨⟨?_, fun r hr hr2 => ?_, fun g hg hg2 => ?_, fun i hi hi2 => ?_⟩, ?_⟩
  · simp (disch := omega) only [mset_off, mset_hit, mset_miss, mcpy_off, mcpy_hit, mcpy_miss, mrow_off, mrow_same]; exact h0
  · have := h1 r hr hr2
    simp (disch := omega) only [mset_off, mset_hit, mset_miss, mcpy_off, mcpy_hit, mcpy_miss, mrow_off, mrow_same]
    simpa using this
  · have := h2 g hg hg2
    simp (disch := omega) only [mset_off, mset_hit, mset_miss, mcpy_off, mcpy_hit, mcpy_miss, mrow_off, mrow_same]
    simpa using this
  · have := h3 i hi hi2
    simp (disch := omega) only [mset_off, mset_hit, mset_miss, mcpy_off, mcpy_hit, mcpy_miss, mrow_off, mrow_same]
    simpa using this
  · intro q hq
    simp only [List.mem_cons, List.not_mem_nil, or_false, not_or] at hq
    funext j
    simp (disch := omega) only [mset_off, mset_hit, mset_miss, mcpy_off, mcpy_hit, mcpy_miss, mrow_off, mrow_same])

def wp_X10_copyFrom_i  (σ : Mem) (Q : Mem → Prop) : Prop :=
  ((0 : Int) ≤ 0 ∧ (0 : Int) ≤ 0 ∧ (0 : Int) ≤ 16 ∧ (0 + 16 : Int) ≤ 16 ∧ (0 + 16 : Int) ≤ 16) ∧
   ∀ σ2 : Mem, σ2 = mcpy σ 2 0 18 0 16 →
   ((0 : Int) ≤ 0 ∧ (0 : Int) ≤ 0 ∧ (0 : Int) ≤ 16 ∧ (0 + 16 : Int) ≤ 16 ∧ (0 + 16 : Int) ≤ 16) ∧
   ∀ σ6 : Mem, σ6 = mcpy σ2 3 0 19 0 16 →
   ((0 : Int) ≤ 0 ∧ (0 : Int) ≤ 0 ∧ (0 : Int) ≤ 16 ∧ (0 + 16 : Int) ≤ 16 ∧ (0 + 16 : Int) ≤ 16) ∧
   ∀ σ10 : Mem, σ10 = mcpy σ6 4 0 20 0 16 →
   ((0 : Int) ≤ 0 ∧ (0 : Int) ≤ 0 ∧ (0 : Int) ≤ 16 ∧ (0 + 16 : Int) ≤ 16 ∧ (0 + 16 : Int) ≤ 16) ∧
   ∀ σ14 : Mem, σ14 = mcpy σ10 5 0 21 0 16 →
   ((0 : Int) ≤ 0 ∧ (0 : Int) ≤ 0 ∧ (0 : Int) ≤ 6 ∧ (0 + 6 : Int) ≤ 6 ∧ (0 + 6 : Int) ≤ 6) ∧
   ∀ σ18 : Mem, σ18 = mcpy σ14 6 0 22 0 6 →
   ((0 : Int) ≤ 0 ∧ (0 : Int) ≤ 0 ∧ (0 : Int) ≤ 8 ∧ (0 + 8 : Int) ≤ 8 ∧ (0 + 8 : Int) ≤ 8) ∧
   ∀ σ22 : Mem, σ22 = mcpy σ18 7 0 23 0 8 →
   ((0 : Int) ≤ 0 ∧ (0 : Int) ≤ 0 ∧ (0 : Int) ≤ 8 ∧ (0 + 8 : Int) ≤ 8 ∧ (0 + 8 : Int) ≤ 8) ∧
   ∀ σ26 : Mem, σ26 = mcpy σ22 8 0 24 0 8 →
   ((0 : Int) ≤ 0 ∧ (0 : Int) ≤ 0 ∧ (0 : Int) ≤ 8 ∧ (0 + 8 : Int) ≤ 8 ∧ (0 + 8 : Int) ≤ 8) ∧
   ∀ σ30 : Mem, σ30 = mcpy σ26 9 0 25 0 8 →
   ∀ σ33 : Mem, σ33 = mset σ30 17 8 (σ30 1 8) →
   ∀ σ36 : Mem, σ36 = mset σ33 17 9 (σ33 1 9) →
   ∀ σ39 : Mem, σ39 = mset σ36 17 10 (σ36 1 10) →
   ∀ σ42 : Mem, σ42 = mset σ39 17 11 (σ39 1 11) →
   ∀ σ45 : Mem, σ45 = mset σ42 17 12 (σ42 1 12) →
   Q σ45
theorem mt_X10_copyFrom_i {d : Nat} (hd : 0 ≤ d)  {σ : Mem} {Q : Mem → Prop}  (hO : OKm σ) (h : wp_X10_copyFrom_i  σ Q) : Mt yX10_copyFrom cX10_copyFrom 2 none d [aR (17), aR (1)] σ (QV Q) := by
  refine Mt.intro (by decide +kernel) (Nat.le_of_ble_eq_true rfl) [(0, aR (17)), (1, aR (1))] rfl ?_
  unfold wp_X10_copyFrom_i at h
  refine G_aload_n 1 rfl rfl dX10_copyFrom_0 ?_
  refine G_get (k := 0) (kd := (3, 1)) (v := aR (2)) gf_X10_9 rfl rfl rfl rfl dX10_copyFrom_1 ?_
  refine G_iconst dX10_copyFrom_4 ?_
  refine G_aload_n 0 rfl rfl dX10_copyFrom_5 ?_
  refine G_get (k := 0) (kd := (3, 1)) (v := aR (18)) gf_X10_9 rfl rfl rfl rfl dX10_copyFrom_6 ?_
  refine G_iconst dX10_copyFrom_9 ?_
  refine G_aload_n 0 rfl rfl dX10_copyFrom_10 ?_
  refine G_get (k := 0) (kd := (3, 1)) (v := aR (18)) gf_X10_9 rfl rfl rfl rfl dX10_copyFrom_11 ?_
  refine G_alen (v := 16) (n := 16) rfl (by decide) (by decide) rfl dX10_copyFrom_14 ?_
  obtain ⟨c1, h⟩ := h
  obtain ⟨σ2, e4⟩ : ∃ τ : Mem, τ = mcpy σ 2 0 18 0 16 := ⟨_, rfl⟩
  have h := h σ2 e4
  have o3 : OKm σ2 := by rw [e4]; exact OKm.cpy hO (isLg_row (show shp 2 = (1, 16, []) from rfl)) (isLg_row (show shp 18 = (1, 16, []) from rfl))
  refine G_copy rfl (show shp 2 = (1, 16, []) from rfl) (show shp 18 = (1, 16, []) from rfl) (by decide) (by decide) c1.1 c1.2.1 c1.2.2.1 c1.2.2.2.1 c1.2.2.2.2 (Nat.le_of_ble_eq_true rfl) sf_X10_52 dX10_copyFrom_15 ?_
  rw [← e4]
  refine G_aload_n 1 rfl rfl dX10_copyFrom_18 ?_
  refine G_get (k := 1) (kd := (3, 2)) (v := aR (3)) gf_X10_15 rfl rfl rfl rfl dX10_copyFrom_19 ?_
  refine G_iconst dX10_copyFrom_22 ?_
  refine G_aload_n 0 rfl rfl dX10_copyFrom_23 ?_
  refine G_get (k := 1) (kd := (3, 2)) (v := aR (19)) gf_X10_15 rfl rfl rfl rfl dX10_copyFrom_24 ?_
  refine G_iconst dX10_copyFrom_27 ?_
  refine G_aload_n 0 rfl rfl dX10_copyFrom_28 ?_
  refine G_get (k := 1) (kd := (3, 2)) (v := aR (19)) gf_X10_15 rfl rfl rfl rfl dX10_copyFrom_29 ?_
  refine G_alen (v := 16) (n := 16) rfl (by decide) (by decide) rfl dX10_copyFrom_32 ?_
  obtain ⟨c5, h⟩ := h
  obtain ⟨σ6, e8⟩ : ∃ τ : Mem, τ = mcpy σ2 3 0 19 0 16 := ⟨_, rfl⟩
  have h := h σ6 e8
  have o7 : OKm σ6 := by rw [e8]; exact OKm.cpy o3 (isLg_row (show shp 3 = (1, 16, []) from rfl)) (isLg_row (show shp 19 = (1, 16, []) from rfl))
  refine G_copy rfl (show shp 3 = (1, 16, []) from rfl) (show shp 19 = (1, 16, []) from rfl) (by decide) (by decide) c5.1 c5.2.1 c5.2.2.1 c5.2.2.2.1 c5.2.2.2.2 (Nat.le_of_ble_eq_true rfl) sf_X10_52 dX10_copyFrom_33 ?_
  rw [← e8]
  refine G_aload_n 1 rfl rfl dX10_copyFrom_36 ?_
  refine G_get (k := 2) (kd := (3, 3)) (v := aR (4)) gf_X10_18 rfl rfl rfl rfl dX10_copyFrom_37 ?_
  refine G_iconst dX10_copyFrom_40 ?_
  refine G_aload_n 0 rfl rfl dX10_copyFrom_41 ?_
  refine G_get (k := 2) (kd := (3, 3)) (v := aR (20)) gf_X10_18 rfl rfl rfl rfl dX10_copyFrom_42 ?_
  refine G_iconst dX10_copyFrom_45 ?_
  refine G_aload_n 0 rfl rfl dX10_copyFrom_46 ?_
  refine G_get (k := 2) (kd := (3, 3)) (v := aR (20)) gf_X10_18 rfl rfl rfl rfl dX10_copyFrom_47 ?_
  refine G_alen (v := 16) (n := 16) rfl (by decide) (by decide) rfl dX10_copyFrom_50 ?_
  obtain ⟨c9, h⟩ := h
  obtain ⟨σ10, e12⟩ : ∃ τ : Mem, τ = mcpy σ6 4 0 20 0 16 := ⟨_, rfl⟩
  have h := h σ10 e12
  have o11 : OKm σ10 := by rw [e12]; exact OKm.cpy o7 (isLg_row (show shp 4 = (1, 16, []) from rfl)) (isLg_row (show shp 20 = (1, 16, []) from rfl))
  refine G_copy rfl (show shp 4 = (1, 16, []) from rfl) (show shp 20 = (1, 16, []) from rfl) (by decide) (by decide) c9.1 c9.2.1 c9.2.2.1 c9.2.2.2.1 c9.2.2.2.2 (Nat.le_of_ble_eq_true rfl) sf_X10_52 dX10_copyFrom_51 ?_
  rw [← e12]
  refine G_aload_n 1 rfl rfl dX10_copyFrom_54 ?_
  refine G_get (k := 3) (kd := (3, 4)) (v := aR (5)) gf_X10_21 rfl rfl rfl rfl dX10_copyFrom_55 ?_
  refine G_iconst dX10_copyFrom_58 ?_
  refine G_aload_n 0 rfl rfl dX10_copyFrom_59 ?_
  refine G_get (k := 3) (kd := (3, 4)) (v := aR (21)) gf_X10_21 rfl rfl rfl rfl dX10_copyFrom_60 ?_
  refine G_iconst dX10_copyFrom_63 ?_
  refine G_aload_n 0 rfl rfl dX10_copyFrom_64 ?_
  refine G_get (k := 3) (kd := (3, 4)) (v := aR (21)) gf_X10_21 rfl rfl rfl rfl dX10_copyFrom_65 ?_
  refine G_alen (v := 16) (n := 16) rfl (by decide) (by decide) rfl dX10_copyFrom_68 ?_
  obtain ⟨c13, h⟩ := h
  obtain ⟨σ14, e16⟩ : ∃ τ : Mem, τ = mcpy σ10 5 0 21 0 16 := ⟨_, rfl⟩
  have h := h σ14 e16
  have o15 : OKm σ14 := by rw [e16]; exact OKm.cpy o11 (isLg_row (show shp 5 = (1, 16, []) from rfl)) (isLg_row (show shp 21 = (1, 16, []) from rfl))
  refine G_copy rfl (show shp 5 = (1, 16, []) from rfl) (show shp 21 = (1, 16, []) from rfl) (by decide) (by decide) c13.1 c13.2.1 c13.2.2.1 c13.2.2.2.1 c13.2.2.2.2 (Nat.le_of_ble_eq_true rfl) sf_X10_52 dX10_copyFrom_69 ?_
  rw [← e16]
  refine G_aload_n 1 rfl rfl dX10_copyFrom_72 ?_
  refine G_get (k := 4) (kd := (3, 5)) (v := aR (6)) gf_X10_24 rfl rfl rfl rfl dX10_copyFrom_73 ?_
  refine G_iconst dX10_copyFrom_76 ?_
  refine G_aload_n 0 rfl rfl dX10_copyFrom_77 ?_
  refine G_get (k := 4) (kd := (3, 5)) (v := aR (22)) gf_X10_24 rfl rfl rfl rfl dX10_copyFrom_78 ?_
  refine G_iconst dX10_copyFrom_81 ?_
  refine G_aload_n 0 rfl rfl dX10_copyFrom_82 ?_
  refine G_get (k := 4) (kd := (3, 5)) (v := aR (22)) gf_X10_24 rfl rfl rfl rfl dX10_copyFrom_83 ?_
  refine G_alen (v := 6) (n := 6) rfl (by decide) (by decide) rfl dX10_copyFrom_86 ?_
  obtain ⟨c17, h⟩ := h
  obtain ⟨σ18, e20⟩ : ∃ τ : Mem, τ = mcpy σ14 6 0 22 0 6 := ⟨_, rfl⟩
  have h := h σ18 e20
  have o19 : OKm σ18 := by rw [e20]; exact OKm.cpy o15 (isLg_row (show shp 6 = (1, 6, []) from rfl)) (isLg_row (show shp 22 = (1, 6, []) from rfl))
  refine G_copy rfl (show shp 6 = (1, 6, []) from rfl) (show shp 22 = (1, 6, []) from rfl) (by decide) (by decide) c17.1 c17.2.1 c17.2.2.1 c17.2.2.2.1 c17.2.2.2.2 (Nat.le_of_ble_eq_true rfl) sf_X10_52 dX10_copyFrom_87 ?_
  rw [← e20]
  refine G_aload_n 1 rfl rfl dX10_copyFrom_90 ?_
  refine G_get (k := 5) (kd := (3, 6)) (v := aR (7)) gf_X10_27 rfl rfl rfl rfl dX10_copyFrom_91 ?_
  refine G_iconst dX10_copyFrom_94 ?_
  refine G_aload_n 0 rfl rfl dX10_copyFrom_95 ?_
  refine G_get (k := 5) (kd := (3, 6)) (v := aR (23)) gf_X10_27 rfl rfl rfl rfl dX10_copyFrom_96 ?_
  refine G_iconst dX10_copyFrom_99 ?_
  refine G_aload_n 0 rfl rfl dX10_copyFrom_100 ?_
  refine G_get (k := 5) (kd := (3, 6)) (v := aR (23)) gf_X10_27 rfl rfl rfl rfl dX10_copyFrom_101 ?_
  refine G_alen (v := 8) (n := 8) rfl (by decide) (by decide) rfl dX10_copyFrom_104 ?_
  obtain ⟨c21, h⟩ := h
  obtain ⟨σ22, e24⟩ : ∃ τ : Mem, τ = mcpy σ18 7 0 23 0 8 := ⟨_, rfl⟩
  have h := h σ22 e24
  have o23 : OKm σ22 := by rw [e24]; exact OKm.cpy o19 (isLg_row (show shp 7 = (1, 8, []) from rfl)) (isLg_row (show shp 23 = (1, 8, []) from rfl))
  refine G_copy rfl (show shp 7 = (1, 8, []) from rfl) (show shp 23 = (1, 8, []) from rfl) (by decide) (by decide) c21.1 c21.2.1 c21.2.2.1 c21.2.2.2.1 c21.2.2.2.2 (Nat.le_of_ble_eq_true rfl) sf_X10_52 dX10_copyFrom_105 ?_
  rw [← e24]
  refine G_aload_n 1 rfl rfl dX10_copyFrom_108 ?_
  refine G_get (k := 6) (kd := (3, 7)) (v := aR (8)) gf_X10_30 rfl rfl rfl rfl dX10_copyFrom_109 ?_
  refine G_iconst dX10_copyFrom_112 ?_
  refine G_aload_n 0 rfl rfl dX10_copyFrom_113 ?_
  refine G_get (k := 6) (kd := (3, 7)) (v := aR (24)) gf_X10_30 rfl rfl rfl rfl dX10_copyFrom_114 ?_
  refine G_iconst dX10_copyFrom_117 ?_
  refine G_aload_n 0 rfl rfl dX10_copyFrom_118 ?_
  refine G_get (k := 6) (kd := (3, 7)) (v := aR (24)) gf_X10_30 rfl rfl rfl rfl dX10_copyFrom_119 ?_
  refine G_alen (v := 8) (n := 8) rfl (by decide) (by decide) rfl dX10_copyFrom_122 ?_
  obtain ⟨c25, h⟩ := h
  obtain ⟨σ26, e28⟩ : ∃ τ : Mem, τ = mcpy σ22 8 0 24 0 8 := ⟨_, rfl⟩
  have h := h σ26 e28
  have o27 : OKm σ26 := by rw [e28]; exact OKm.cpy o23 (isLg_row (show shp 8 = (1, 8, []) from rfl)) (isLg_row (show shp 24 = (1, 8, []) from rfl))
  refine G_copy rfl (show shp 8 = (1, 8, []) from rfl) (show shp 24 = (1, 8, []) from rfl) (by decide) (by decide) c25.1 c25.2.1 c25.2.2.1 c25.2.2.2.1 c25.2.2.2.2 (Nat.le_of_ble_eq_true rfl) sf_X10_52 dX10_copyFrom_123 ?_
  rw [← e28]
  refine G_aload_n 1 rfl rfl dX10_copyFrom_126 ?_
  refine G_get (k := 7) (kd := (3, 8)) (v := aR (9)) gf_X10_33 rfl rfl rfl rfl dX10_copyFrom_127 ?_
  refine G_iconst dX10_copyFrom_130 ?_
  refine G_aload_n 0 rfl rfl dX10_copyFrom_131 ?_
  refine G_get (k := 7) (kd := (3, 8)) (v := aR (25)) gf_X10_33 rfl rfl rfl rfl dX10_copyFrom_132 ?_
  refine G_iconst dX10_copyFrom_135 ?_
  refine G_aload_n 0 rfl rfl dX10_copyFrom_136 ?_
  refine G_get (k := 7) (kd := (3, 8)) (v := aR (25)) gf_X10_33 rfl rfl rfl rfl dX10_copyFrom_137 ?_
  refine G_alen (v := 8) (n := 8) rfl (by decide) (by decide) rfl dX10_copyFrom_140 ?_
  obtain ⟨c29, h⟩ := h
  obtain ⟨σ30, e32⟩ : ∃ τ : Mem, τ = mcpy σ26 9 0 25 0 8 := ⟨_, rfl⟩
  have h := h σ30 e32
  have o31 : OKm σ30 := by rw [e32]; exact OKm.cpy o27 (isLg_row (show shp 9 = (1, 8, []) from rfl)) (isLg_row (show shp 25 = (1, 8, []) from rfl))
  refine G_copy rfl (show shp 9 = (1, 8, []) from rfl) (show shp 25 = (1, 8, []) from rfl) (by decide) (by decide) c29.1 c29.2.1 c29.2.2.1 c29.2.2.2.1 c29.2.2.2.2 (Nat.le_of_ble_eq_true rfl) sf_X10_52 dX10_copyFrom_141 ?_
  rw [← e32]
  refine G_aload_n 0 rfl rfl dX10_copyFrom_144 ?_
  refine G_aload_n 1 rfl rfl dX10_copyFrom_145 ?_
  refine G_get (k := 8) (kd := (0, 0)) (v := aI (σ30 1 8)) gf_X10_36 rfl rfl rfl rfl dX10_copyFrom_146 ?_
  obtain ⟨σ33, e35⟩ : ∃ τ : Mem, τ = mset σ30 17 8 (σ30 1 8) := ⟨_, rfl⟩
  have h := h σ33 e35
  have o34 : OKm σ33 := by rw [e35]; exact OKm.seti o31 _ _ _ (OKm.i o31 1 8 rfl) rfl
  refine G_put (k := 8) (ki := 8) (kd := (0, 0)) (x := _) pf_X10_36 rfl rfl rfl rfl (fa_i (mset_self _ _ _ _)) (fun _ => rfl) (fun _ => rfl) dX10_copyFrom_149 ?_
  rw [← e35]
  refine G_aload_n 0 rfl rfl dX10_copyFrom_152 ?_
  refine G_aload_n 1 rfl rfl dX10_copyFrom_153 ?_
  refine G_get (k := 9) (kd := (0, 0)) (v := aI (σ33 1 9)) gf_X10_40 rfl rfl rfl rfl dX10_copyFrom_154 ?_
  obtain ⟨σ36, e38⟩ : ∃ τ : Mem, τ = mset σ33 17 9 (σ33 1 9) := ⟨_, rfl⟩
  have h := h σ36 e38
  have o37 : OKm σ36 := by rw [e38]; exact OKm.seti o34 _ _ _ (OKm.i o34 1 9 rfl) rfl
  refine G_put (k := 9) (ki := 9) (kd := (0, 0)) (x := _) pf_X10_40 rfl rfl rfl rfl (fa_i (mset_self _ _ _ _)) (fun _ => rfl) (fun _ => rfl) dX10_copyFrom_157 ?_
  rw [← e38]
  refine G_aload_n 0 rfl rfl dX10_copyFrom_160 ?_
  refine G_aload_n 1 rfl rfl dX10_copyFrom_161 ?_
  refine G_get (k := 10) (kd := (0, 0)) (v := aI (σ36 1 10)) gf_X10_43 rfl rfl rfl rfl dX10_copyFrom_162 ?_
  obtain ⟨σ39, e41⟩ : ∃ τ : Mem, τ = mset σ36 17 10 (σ36 1 10) := ⟨_, rfl⟩
  have h := h σ39 e41
  have o40 : OKm σ39 := by rw [e41]; exact OKm.seti o37 _ _ _ (OKm.i o37 1 10 rfl) rfl
  refine G_put (k := 10) (ki := 10) (kd := (0, 0)) (x := _) pf_X10_43 rfl rfl rfl rfl (fa_i (mset_self _ _ _ _)) (fun _ => rfl) (fun _ => rfl) dX10_copyFrom_165 ?_
  rw [← e41]
  refine G_aload_n 0 rfl rfl dX10_copyFrom_168 ?_
  refine G_aload_n 1 rfl rfl dX10_copyFrom_169 ?_
  refine G_get (k := 11) (kd := (0, 0)) (v := aI (σ39 1 11)) gf_X10_46 rfl rfl rfl rfl dX10_copyFrom_170 ?_
  obtain ⟨σ42, e44⟩ : ∃ τ : Mem, τ = mset σ39 17 11 (σ39 1 11) := ⟨_, rfl⟩
  have h := h σ42 e44
  have o43 : OKm σ42 := by rw [e44]; exact OKm.seti o40 _ _ _ (OKm.i o40 1 11 rfl) rfl
  refine G_put (k := 11) (ki := 11) (kd := (0, 0)) (x := _) pf_X10_46 rfl rfl rfl rfl (fa_i (mset_self _ _ _ _)) (fun _ => rfl) (fun _ => rfl) dX10_copyFrom_173 ?_
  rw [← e44]
  refine G_aload_n 0 rfl rfl dX10_copyFrom_176 ?_
  refine G_aload_n 1 rfl rfl dX10_copyFrom_177 ?_
  refine G_get (k := 12) (kd := (0, 0)) (v := aI (σ42 1 12)) gf_X10_49 rfl rfl rfl rfl dX10_copyFrom_178 ?_
  obtain ⟨σ45, e47⟩ : ∃ τ : Mem, τ = mset σ42 17 12 (σ42 1 12) := ⟨_, rfl⟩
  have h := h σ45 e47
  have o46 : OKm σ45 := by rw [e47]; exact OKm.seti o43 _ _ _ (OKm.i o43 1 12 rfl) rfl
  refine G_put (k := 12) (ki := 12) (kd := (0, 0)) (x := _) pf_X10_49 rfl rfl rfl rfl (fa_i (mset_self _ _ _ _)) (fun _ => rfl) (fun _ => rfl) dX10_copyFrom_181 ?_
  rw [← e47]
  exact G_vret rfl dX10_copyFrom_184 ⟨rfl, h⟩ o46

theorem sp_X10_copyFrom_i (d : Nat) (hd : 0 ≤ d) (σ : Mem) (hO : OKm σ) (A : Mem) (hpre : toldC σ 1 A ∧ (A 10 0 ≤ 16 ∧ A 10 1 ≤ 6 ∧ A 10 3 ≤ 8)) : Mt yX10_copyFrom cX10_copyFrom 2 none d [aR (17), aR (1)] σ (QV (fun σ' => toldC σ' 17 A ∧ Fr [17, 18, 19, 20, 21, 22, 23, 24, 25] σ σ')) := mt_X10_copyFrom_i hd  hO (by
  unfold wp_X10_copyFrom_i
  obtain ⟨⟨h0, h1, h2, h3⟩, hC⟩ := hpre
  repeat' (first | (intro _ e; subst e) | (refine And.intro ?_ ?_; first | omega | (simp (disch := omega) only [mset_off, mset_hit, mset_miss, mcpy_off, mcpy_hit, mcpy_miss, mrow_off, mrow_same]; omega)))
  refine ⟨⟨?_, fun r hr hr2 => ?_, fun g hg hg2 => ?_, fun i hi hi2 => ?_⟩, ?_⟩
  · simp (disch := omega) only [mset_off, mset_hit, mset_miss, mcpy_off, mcpy_hit, mcpy_miss, mrow_off, mrow_same]; exact h0
  · have := h1 r hr hr2
    simp (disch := omega) only [mset_off, mset_hit, mset_miss, mcpy_off, mcpy_hit, mcpy_miss, mrow_off, mrow_same]
    simpa using this
  · have := h2 g hg hg2
    simp (disch := omega) only [mset_off, mset_hit, mset_miss, mcpy_off, mcpy_hit, mcpy_miss, mrow_off, mrow_same]
    simpa using this
  · have := h3 i hi hi2
    simp (disch := omega) only [mset_off, mset_hit, mset_miss, mcpy_off, mcpy_hit, mcpy_miss, mrow_off, mrow_same]
    simpa using this
  · intro q hq
    simp only [List.mem_cons, List.not_mem_nil, or_false, not_or] at hq
    funext j
    simp (disch := omega) only [mset_off, mset_hit, mset_miss, mcpy_off, mcpy_hit, mcpy_miss, mrow_off, mrow_same])

def wp_X10_keepSaid (x1 : Int) (x2 : Int) (x3 : Int) (σ : Mem) (Q : Mem → Prop) : Prop :=
  ((8 ≤ (σ 1 11)) →
    Q σ) ∧
   (((σ 1 11) < 8) →
    (0 ≤ (σ 1 11) ∧ (σ 1 11) < 8) ∧
    ∀ σ3 : Mem, σ3 = mset σ 7 (σ 1 11) x1 →
    (0 ≤ (σ3 1 11) ∧ (σ3 1 11) < 8) ∧
    ∀ σ7 : Mem, σ7 = mset σ3 8 (σ3 1 11) x2 →
    (0 ≤ (σ7 1 11) ∧ (σ7 1 11) < 8) ∧
    ∀ σ11 : Mem, σ11 = mset σ7 9 (σ7 1 11) x3 →
    R32 ((σ11 1 11) + 1) ∧
    ∀ σ14 : Mem, σ14 = mset σ11 1 11 ((σ11 1 11) + 1) →
    Q σ14)
theorem mt_X10_keepSaid {d : Nat} (hd : 0 ≤ d) {x1 : Int} {x2 : Int} {x3 : Int} {σ : Mem} {Q : Mem → Prop} (hx1 : R32 x1) (hx2 : R32 x2) (hx3 : R32 x3) (hO : OKm σ) (h : wp_X10_keepSaid x1 x2 x3 σ Q) : Mt yX10_keepSaid cX10_keepSaid 4 none d [aR (1), aI (x1), aI (x2), aI (x3)] σ (QV Q) := by
  refine Mt.intro (by decide +kernel) (Nat.le_of_ble_eq_true rfl) [(0, aR (1)), (1, aI (x1)), (2, aI (x2)), (3, aI (x3))] rfl ?_
  unfold wp_X10_keepSaid at h
  refine G_aload_n 0 rfl rfl dX10_keepSaid_0 ?_
  refine G_get (k := 11) (kd := (0, 0)) (v := aI (σ 1 11)) gf_X10_46 rfl rfl rfl rfl dX10_keepSaid_1 ?_
  refine G_bipush (by decide) dX10_keepSaid_4 ?_
  refine G_icmp_ge (OKm.i hO 1 11 rfl) (rL 8 rfl) dX10_keepSaid_6 (tgt := 49) (by decide) (fun c1 => ?_) (fun c1 => ?_)
  · have h := h.1 c1
    exact G_vret rfl dX10_keepSaid_49 ⟨rfl, h⟩ hO
  · have h := h.2 c1
    refine G_aload_n 0 rfl rfl dX10_keepSaid_9 ?_
    refine G_get (k := 5) (kd := (3, 6)) (v := aR (7)) gf_X10_27 rfl rfl rfl rfl dX10_keepSaid_10 ?_
    refine G_aload_n 0 rfl rfl dX10_keepSaid_13 ?_
    refine G_get (k := 11) (kd := (0, 0)) (v := aI (σ 1 11)) gf_X10_46 rfl rfl rfl rfl dX10_keepSaid_14 ?_
    refine G_iload_n 1 rfl rfl dX10_keepSaid_17 ?_
    obtain ⟨c2, h⟩ := h
    obtain ⟨σ3, e5⟩ : ∃ τ : Mem, τ = mset σ 7 (σ 1 11) x1 := ⟨_, rfl⟩
    have h := h σ3 e5
    have o4 : OKm σ3 := by rw [e5]; exact OKm.seti hO _ _ _ hx1 (isLg_row (show shp 7 = (1, 8, []) from rfl) _)
    refine G_iast (n := 8) rfl c2.1 c2.2 dX10_keepSaid_18 ?_
    rw [← e5]
    refine G_aload_n 0 rfl rfl dX10_keepSaid_19 ?_
    refine G_get (k := 6) (kd := (3, 7)) (v := aR (8)) gf_X10_30 rfl rfl rfl rfl dX10_keepSaid_20 ?_
    refine G_aload_n 0 rfl rfl dX10_keepSaid_23 ?_
    refine G_get (k := 11) (kd := (0, 0)) (v := aI (σ3 1 11)) gf_X10_46 rfl rfl rfl rfl dX10_keepSaid_24 ?_
    refine G_iload_n 2 rfl rfl dX10_keepSaid_27 ?_
    obtain ⟨c6, h⟩ := h
    obtain ⟨σ7, e9⟩ : ∃ τ : Mem, τ = mset σ3 8 (σ3 1 11) x2 := ⟨_, rfl⟩
    have h := h σ7 e9
    have o8 : OKm σ7 := by rw [e9]; exact OKm.seti o4 _ _ _ hx2 (isLg_row (show shp 8 = (1, 8, []) from rfl) _)
    refine G_iast (n := 8) rfl c6.1 c6.2 dX10_keepSaid_28 ?_
    rw [← e9]
    refine G_aload_n 0 rfl rfl dX10_keepSaid_29 ?_
    refine G_get (k := 7) (kd := (3, 8)) (v := aR (9)) gf_X10_33 rfl rfl rfl rfl dX10_keepSaid_30 ?_
    refine G_aload_n 0 rfl rfl dX10_keepSaid_33 ?_
    refine G_get (k := 11) (kd := (0, 0)) (v := aI (σ7 1 11)) gf_X10_46 rfl rfl rfl rfl dX10_keepSaid_34 ?_
    refine G_iload_n 3 rfl rfl dX10_keepSaid_37 ?_
    obtain ⟨c10, h⟩ := h
    obtain ⟨σ11, e13⟩ : ∃ τ : Mem, τ = mset σ7 9 (σ7 1 11) x3 := ⟨_, rfl⟩
    have h := h σ11 e13
    have o12 : OKm σ11 := by rw [e13]; exact OKm.seti o8 _ _ _ hx3 (isLg_row (show shp 9 = (1, 8, []) from rfl) _)
    refine G_iast (n := 8) rfl c10.1 c10.2 dX10_keepSaid_38 ?_
    rw [← e13]
    refine G_aload_n 0 rfl rfl dX10_keepSaid_39 ?_
    refine G_dup rfl dX10_keepSaid_40 ?_
    refine G_get (k := 11) (kd := (0, 0)) (v := aI (σ11 1 11)) gf_X10_46 rfl rfl rfl rfl dX10_keepSaid_41 ?_
    refine G_iconst dX10_keepSaid_44 ?_
    refine G_iadd dX10_keepSaid_45 ?_
    obtain ⟨c15, h⟩ := h
    obtain ⟨σ14, e17⟩ : ∃ τ : Mem, τ = mset σ11 1 11 ((σ11 1 11) + 1) := ⟨_, rfl⟩
    have h := h σ14 e17
    have o16 : OKm σ14 := by rw [e17]; exact OKm.seti o12 _ _ _ c15 rfl
    refine G_put (k := 11) (ki := 11) (kd := (0, 0)) (x := _) pf_X10_46 rfl rfl rfl rfl (fa_i (mset_self _ _ _ _)) (fun _ => rfl) (fun _ => rfl) dX10_keepSaid_46 ?_
    rw [← e17]
    exact G_vret rfl dX10_keepSaid_49 ⟨rfl, h⟩ o16

theorem sp_X10_keepSaid (d : Nat) (hd : 0 ≤ d) (σ : Mem) (hO : OKm σ) (x1 : Int) (hx1 : R32 x1) (x2 : Int) (hx2 : R32 x2) (x3 : Int) (hx3 : R32 x3) (hpre : 0 ≤ σ 1 11 ∧ σ 1 11 < 8) : Mt yX10_keepSaid cX10_keepSaid 4 none d [aR (1), aI (x1), aI (x2), aI (x3)] σ (QV (fun σ' => σ' = (mset (mset (mset (mset σ 7 (σ 1 11) x1) 8 (σ 1 11) x2) 9 (σ 1 11) x3) 1 11 (σ 1 11 + 1)))) := mt_X10_keepSaid hd hx1 hx2 hx3 hO (by
  unfold wp_X10_keepSaid
  unfold R32 at *
  refine And.intro (fun h => absurd h (by omega)) (fun h => ?_)
  repeat' (first | (intro _ e; subst e) | (refine And.intro ?_ ?_; first | omega | (simp (disch := omega) only [mset_off, mset_hit, mset_miss, mcpy_off, mcpy_hit, mcpy_miss, mrow_off, mrow_same]; omega)))
  simp (disch := omega) only [mset_off])

def wp_X6_thickIn (x2 : Int) (σ : Mem) (Q : Int → Mem → Prop) : Prop :=
  (0 ≤ x2 ∧ x2 < 65) ∧
   Q (σ 26 x2) σ
theorem mt_X6_thickIn {d : Nat} (hd : 0 ≤ d) {x2 : Int} {σ : Mem} {Q : Int → Mem → Prop} (hx2 : R32 x2) (hO : OKm σ) (h : wp_X6_thickIn x2 σ Q) : Mt yX6_thickIn cX6_thickIn 2 (some .int) d [aR (26), aI (x2)] σ (QI Q) := by
  refine Mt.intro (by decide +kernel) (Nat.le_of_ble_eq_true rfl) [(0, aR (26)), (1, aI (x2))] rfl ?_
  unfold wp_X6_thickIn at h
  refine G_aload_n 0 rfl rfl dX6_thickIn_0 ?_
  refine G_iload_n 1 rfl rfl dX6_thickIn_1 ?_
  obtain ⟨c1, h⟩ := h
  refine G_iald (n := 65) rfl c1.1 c1.2 dX6_thickIn_2 ?_
  exact G_iret rfl (OKm.i hO 26 x2 (isLg_row (show shp 26 = (1, 65, []) from rfl) _)) dX6_thickIn_3 ⟨_, rfl, h⟩ hO

theorem sp_X6_thickIn (d : Nat) (hd : 0 ≤ d) (σ : Mem) (hO : OKm σ) (x2 : Int) (hx2 : R32 x2) (hpre : 0 ≤ x2 ∧ x2 < 65) : Mt yX6_thickIn cX6_thickIn 2 (some .int) d [aR (26), aI (x2)] σ (QI (fun v σ' => (σ 26 x2) = v ∧ σ = σ')) := mt_X6_thickIn hd hx2 hO (by
  unfold wp_X6_thickIn
  exact ⟨hpre, rfl, rfl⟩)
