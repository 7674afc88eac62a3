theorem tmodP {a b : Int} (h : 0 ≤ a) : Int.tmod a b = a % b := Int.tmod_eq_emod_of_nonneg h
theorem tdivP {a b : Int} (h : 0 ≤ a) : Int.tdiv a b = a / b := Int.tdiv_eq_ediv_of_nonneg h
def nxt (x : Int) : Int := (x * 547 + 421) % 30727
theorem nxt_r (x : Int) : 0 ≤ nxt x ∧ nxt x ≤ 30726 := by unfold nxt; omega

def wp_X6_draw (x1 : Int) (σ : Mem) (Q : Int → Mem → Prop) : Prop :=
  ((x1 ≤ 0) →
    R32 (((σ 10 8) * 547) + 421) ∧
    R32 (Int.tmod (((σ 10 8) * 547) + 421) 30727) ∧
    ∀ σ3 : Mem, σ3 = mset σ 10 8 (Int.tmod (((σ 10 8) * 547) + 421) 30727) →
    Q 0 σ3) ∧
   ((0 < x1) →
    (x1 ≠ 0) ∧
    R32 (((σ 10 8) * 547) + 421) ∧
    R32 (Int.tmod (((σ 10 8) * 547) + 421) 30727) ∧
    ∀ σ8 : Mem, σ8 = mset σ 10 8 (Int.tmod (((σ 10 8) * 547) + 421) 30727) →
    R32 (Int.tmod (σ 10 8) x1) ∧
    Q (Int.tmod (σ 10 8) x1) σ8)
theorem mt_X6_draw {d : Nat} (hd : 0 ≤ d) {x1 : Int} {σ : Mem} {Q : Int → Mem → Prop} (hx1 : R32 x1) (hO : OKm σ) (h : wp_X6_draw x1 σ Q) : Mt yX6_draw cX6_draw 3 (some .int) d [aR (10), aI (x1)] σ (QI Q) := by
  refine Mt.intro (by decide) (Nat.le_of_ble_eq_true rfl) [(0, aR (10)), (1, aI (x1))] rfl ?_
  unfold wp_X6_draw at h
  refine G_iload_n 1 rfl rfl dX6_draw_0 ?_
  refine G_if_le hx1 dX6_draw_1 (tgt := 13) (by decide) (fun c1 => ?_) (fun c1 => ?_)
  · have h := h.1 c1
    refine G_iconst dX6_draw_13 ?_
    refine G_istore_n rfl rfl (by decide) dX6_draw_14 ?_
    refine G_aload_n 1 rfl rfl dX6_draw_15 ?_
    refine G_aload_n 1 rfl rfl dX6_draw_16 ?_
    refine G_get (k := 8) (kd := (0, 0)) gf_X6_37 rfl rfl rfl rfl dX6_draw_17 ?_
    refine G_sipush (by decide) dX6_draw_20 ?_
    refine G_imul dX6_draw_23 ?_
    refine G_sipush (by decide) dX6_draw_24 ?_
    refine G_iadd dX6_draw_27 ?_
    refine G_sipush (by decide) dX6_draw_28 ?_
    obtain ⟨c2, h⟩ := h
    refine G_irem c2 ⟨by decide, by decide⟩ (by decide) dX6_draw_31 ?_
    obtain ⟨c4, h⟩ := h
    have h := h _ rfl
    have o5 : OKm (mset _ 10 8 _) := OKm.seti hO _ _ _ c4 rfl
    refine G_put (k := 8) (ki := 8) (kd := (0, 0)) (x := _) pf_X6_37 rfl rfl rfl rfl (fa_i (mset_self _ _ _ _)) (fun _ => rfl) (fun _ => rfl) dX6_draw_32 ?_
    refine G_iload_n 0 rfl rfl dX6_draw_35 ?_
    exact G_iret rfl ⟨by decide, by decide⟩ dX6_draw_36 ⟨_, rfl, h⟩ o5
  · have h := h.2 c1
    refine G_aload_n 0 rfl rfl dX6_draw_4 ?_
    refine G_get (k := 8) (kd := (0, 0)) gf_X6_37 rfl rfl rfl rfl dX6_draw_5 ?_
    refine G_iload_n 1 rfl rfl dX6_draw_8 ?_
    obtain ⟨c6, h⟩ := h
    refine G_irem (OKm.i hO _ _ rfl) hx1 c6 dX6_draw_9 ?_
    refine G_goto (tgt := 14) dX6_draw_10 (by decide) ?_
    refine G_istore_n rfl rfl (by decide) dX6_draw_14 ?_
    refine G_aload_n 1 rfl rfl dX6_draw_15 ?_
    refine G_aload_n 1 rfl rfl dX6_draw_16 ?_
    refine G_get (k := 8) (kd := (0, 0)) gf_X6_37 rfl rfl rfl rfl dX6_draw_17 ?_
    refine G_sipush (by decide) dX6_draw_20 ?_
    refine G_imul dX6_draw_23 ?_
    refine G_sipush (by decide) dX6_draw_24 ?_
    refine G_iadd dX6_draw_27 ?_
    refine G_sipush (by decide) dX6_draw_28 ?_
    obtain ⟨c7, h⟩ := h
    refine G_irem c7 ⟨by decide, by decide⟩ (by decide) dX6_draw_31 ?_
    obtain ⟨c9, h⟩ := h
    have h := h _ rfl
    have o10 : OKm (mset _ 10 8 _) := OKm.seti hO _ _ _ c9 rfl
    refine G_put (k := 8) (ki := 8) (kd := (0, 0)) (x := _) pf_X6_37 rfl rfl rfl rfl (fa_i (mset_self _ _ _ _)) (fun _ => rfl) (fun _ => rfl) dX6_draw_32 ?_
    refine G_iload_n 0 rfl rfl dX6_draw_35 ?_
    obtain ⟨c11, h⟩ := h
    exact G_iret rfl c11 dX6_draw_36 ⟨_, rfl, h⟩ o10

theorem sp_X6_draw (d : Nat) (hd : 0 ≤ d) (σ : Mem) (hO : OKm σ) (x1 : Int) (hx1 : R32 x1) (hpre : 0 ≤ σ 10 8 ∧ σ 10 8 ≤ 30726) : Mt yX6_draw cX6_draw 3 (some .int) d [aR (10), aI (x1)] σ (QI (fun v σ' => v = (if 0 < x1 then σ 10 8 % x1 else 0) ∧ σ' = (mset σ 10 8 (nxt (σ 10 8))))) := mt_X6_draw hd hx1 hO (by
  unfold wp_X6_draw
  have e1 := tmodP (a := σ 10 8) (b := x1) hpre.1
  have e2 := tmodP (a := σ 10 8 * 547 + 421) (b := 30727) (by omega)
  have hb : 0 < x1 → 0 ≤ σ 10 8 % x1 ∧ σ 10 8 % x1 < x1 := fun h => ⟨Int.emod_nonneg _ (by omega), Int.emod_lt_of_pos _ h⟩
  unfold R32 at *
  unfold nxt
  rw [e1, e2]
  grind)

def wp_X6_sow (x1 : Int) (σ : Mem) (Q : Mem → Prop) : Prop :=
  R32 ((x1 * 2) + 283) ∧
   ∀ σ1 : Mem, σ1 = mset σ 10 8 ((x1 * 2) + 283) →
   Q σ1
theorem mt_X6_sow {d : Nat} (hd : 0 ≤ d) {x1 : Int} {σ : Mem} {Q : Mem → Prop} (hx1 : R32 x1) (hO : OKm σ) (h : wp_X6_sow x1 σ Q) : Mt yX6_sow cX6_sow 2 none d [aR (10), aI (x1)] σ (QV Q) := by
  refine Mt.intro (by decide) (Nat.le_of_ble_eq_true rfl) [(0, aR (10)), (1, aI (x1))] rfl ?_
  unfold wp_X6_sow at h
  refine G_aload_n 0 rfl rfl dX6_sow_0 ?_
  refine G_iload_n 1 rfl rfl dX6_sow_1 ?_
  refine G_iconst dX6_sow_2 ?_
  refine G_imul dX6_sow_3 ?_
  refine G_sipush (by decide) dX6_sow_4 ?_
  refine G_iadd dX6_sow_7 ?_
  obtain ⟨c2, h⟩ := h
  have h := h _ rfl
  have o3 : OKm (mset _ 10 8 _) := OKm.seti hO _ _ _ c2 rfl
  refine G_put (k := 8) (ki := 8) (kd := (0, 0)) (x := _) pf_X6_37 rfl rfl rfl rfl (fa_i (mset_self _ _ _ _)) (fun _ => rfl) (fun _ => rfl) dX6_sow_8 ?_
  exact G_vret rfl dX6_sow_11 ⟨rfl, h⟩ o3

theorem sp_X6_sow (d : Nat) (hd : 0 ≤ d) (σ : Mem) (hO : OKm σ) (x1 : Int) (hx1 : R32 x1) (hpre : 0 ≤ x1 ∧ x1 ≤ 9999) : Mt yX6_sow cX6_sow 2 none d [aR (10), aI (x1)] σ (QV (fun σ' => σ' = (mset σ 10 8 (x1 * 2 + 283)))) := mt_X6_sow hd hx1 hO (by
  unfold wp_X6_sow
  unfold R32 at *
  grind)
