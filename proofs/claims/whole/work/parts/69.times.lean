/-! AT ONE ROAD: how much is sucked when it is th thick -/
def skT (A : Mem) (tx : Nat → Txt) (g r th : Int) : Int := skS (mset A 1 r th) tx (A 10 4) g r
def tmF (A : Mem) (tx : Nat → Txt) (g r : Int) : Nat → Int → Int
  | 0, _ => 0
  | n + 1, th => if skT A tx g r th ≤ th then 1 + tmF A tx g r n (th - skT A tx g r th) else 0
def timS (A : Mem) (tx : Nat → Txt) (g r : Int) : Int := if (0 ≤ g ∧ g < A 10 1) ∧ (0 ≤ r ∧ r < A 10 0) then tmF A tx g r 99 (A 1 r) else -1
theorem mset_mset {A : Mem} {q : Nat} {i v w : Int} : mset (mset A q i v) q i w = mset A q i w := by
  funext p j; rw [mset_at, mset_at, mset_at]; split <;> rfl
theorem mset_id {A : Mem} {q : Nat} {i : Int} : mset A q i (A q i) = A := by
  funext p j; rw [mset_at]; split
  · rename_i h; rw [h.1, h.2]
  · rfl
theorem skT_r {A : Mem} {tx : Nat → Txt} {g r th : Int} (hI : InvA A) (hg : 0 ≤ g ∧ g < A 10 1) (hr : 0 ≤ r ∧ r < A 10 0) (hth : 0 ≤ th ∧ th ≤ A 14 r) : 0 ≤ skT A tx g r th ∧ skT A tx g r th ≤ 99 := by
  have : InvA (mset A 1 r th) := hI.thick (fun _ _ => hth)
  unfold skT
  exact skS_r this (by rw [mset_ne (by omega)]; exact hg)
/-- the road's thickness is changed, to look ahead -/
theorem vwC.th {σ A : Mem} {tx : Nat → Txt} {r th v : Int} (h : vwC σ (mset A 1 r th) tx) (hI : InvA (mset A 1 r v)) : vwC (mset σ 11 r v) (mset A 1 r v) tx := by
  have := h.now (σ' := mset σ 11 r v) (A' := mset (mset A 1 r th) 1 r v) h.2.1.thick (by rw [mset_mset]; exact hI) (fun q hq => by rw [mset_ne (by omega)]) (fun q hq => mset_ne (by omega))
  rw [mset_mset] at this; exact this
theorem vwM.th {σ A : Mem} {tx : Nat → Txt} {r th v : Int} (h : vwM σ (mset A 1 r th) tx) (hr : 0 ≤ r ∧ r < 16) (hI : InvA (mset A 1 r v)) : vwM (mset σ 75 (11 + r) v) (mset A 1 r v) tx := by
  have := vwM.thick (r := r) (v := v) h hr (by rw [mset_mset]; exact hI)
  rw [mset_mset] at this; exact this

def wp_X3_toAndFro (x1 : Int) (x2 : Int) (σ : Mem) (Q : Int → Mem → Prop) : Prop :=
 ∀ P31 : Int → Int → Int → Int → Int → Mem → Prop,
 (∀ (v1 : Int) (v2 : Int) (v3 : Int) (v4 : Int) (v5 : Int) (σ : Mem), (R32 v1 → R32 v2 → R32 v3 → R32 v4 → R32 v5 → OKm σ →
   ((99 ≤ v4) →
     (0 ≤ v2 ∧ v2 < 16) ∧
     ∀ σ12 : Mem, σ12 = mset σ 11 v2 v3 →
     Q v4 σ12) ∧
    ((v4 < 99) →
     (0 ≤ v2 ∧ v2 < 16) ∧
     (((σ 11 v2) < v5) →
      (0 ≤ v2 ∧ v2 < 16) ∧
      ∀ σ18 : Mem, σ18 = mset σ 11 v2 v3 →
      Q v4 σ18) ∧
     ((v5 ≤ (σ 11 v2)) →
      (0 ≤ v2 ∧ v2 < 16) ∧
      (0 ≤ v2 ∧ v2 < 16) ∧
      R32 ((σ 11 v2) - v5) ∧
      ∀ σ24 : Mem, σ24 = mset σ 11 v2 ((σ 11 v2) - v5) →
      ∃ g27 : Mem, ∃ g28 : Nat → Txt, (vwC σ24 g27 g28 ∧ (-1 ≤ (σ24 1 12) ∧ (σ24 1 12) < g27 10 2) ∧ (0 ≤ v1 ∧ v1 < g27 10 1) ∧ (0 ≤ v2 ∧ v2 < g27 10 0)) ∧
      ∀ (u33 : Int) (σ32 : Mem), R32 u33 → OKm σ32 → (u33 = skS g27 g28 (σ24 1 12) v1 v2 ∧ Fr [37] σ24 σ32) →
      R32 (v4 + 1) ∧ P31 v1 v2 v3 (v4 + 1) u33 σ32))) → P31 v1 v2 v3 v4 v5 σ) →
  (0 ≤ x2 ∧ x2 < 16) ∧
   ∃ g2 : Mem, ∃ g3 : Nat → Txt, (vwC σ g2 g3 ∧ (-1 ≤ (σ 1 12) ∧ (σ 1 12) < g2 10 2) ∧ (0 ≤ x1 ∧ x1 < g2 10 1) ∧ (0 ≤ x2 ∧ x2 < g2 10 0)) ∧
   ∀ (u8 : Int) (σ7 : Mem), R32 u8 → OKm σ7 → (u8 = skS g2 g3 (σ 1 12) x1 x2 ∧ Fr [37] σ σ7) →
   P31 x1 x2 (σ 11 x2) 0 u8 σ7
theorem mt_X3_toAndFro {d : Nat} (hd : 4 ≤ d) {x1 : Int} {x2 : Int} {σ : Mem} {Q : Int → Mem → Prop} (hx1 : R32 x1) (hx2 : R32 x2) (hO : OKm σ) (h : wp_X3_toAndFro x1 x2 σ Q) : Mt yX3_toAndFro cX3_toAndFro 6 (some .int) d [aR (49), aI (x1), aI (x2)] σ (QI Q) := by
  refine Mt.intro (by decide +kernel) (Nat.le_of_ble_eq_true rfl) [(0, aR (49)), (1, aI (x1)), (2, aI (x2))] rfl ?_
  unfold wp_X3_toAndFro at h
  have h := h (fun (v1 : Int) (v2 : Int) (v3 : Int) (v4 : Int) (v5 : Int) (σ : Mem) => R32 v1 → R32 v2 → R32 v3 → R32 v4 → R32 v5 → OKm σ → G yX3_toAndFro cX3_toAndFro 6 (some .int) d (QI Q) 31 [(0, aR (49)), (1, aI (v1)), (2, aI (v2)), (3, aI (v3)), (4, aI (v4)), (5, aI (v5))] [] σ) ?_
  · refine G_aload_n 0 rfl rfl dX3_toAndFro_0 ?_
    refine G_get (k := 1) (kd := (2, 10)) (v := aR 10) gf_X3_33 rfl rfl rfl rfl dX3_toAndFro_1 ?_
    refine G_get (k := 0) (kd := (3, 1)) (v := aR (11)) gf_X3_41 rfl rfl rfl rfl dX3_toAndFro_4 ?_
    refine G_iload_n 2 rfl rfl dX3_toAndFro_7 ?_
    obtain ⟨c1, h⟩ := h
    refine G_iald (n := 16) rfl c1.1 c1.2 dX3_toAndFro_8 ?_
    refine G_istore_n (lv' := [(3, aI ((σ 11 x2))), (0, aR (49)), (1, aI (x1)), (2, aI (x2))]) rfl rfl (by decide) dX3_toAndFro_9 ?_
    refine G_iconst dX3_toAndFro_10 ?_
    refine G_istore (lv' := [(4, aI (0)), (3, aI ((σ 11 x2))), (0, aR (49)), (1, aI (x1)), (2, aI (x2))]) rfl (by decide) dX3_toAndFro_11 ?_
    refine G_aload_n 2 rfl rfl dX3_toAndFro_13 ?_
    refine G_get (k := 2) (kd := (2, 36)) (v := aR 36) gf_X3_37 rfl rfl rfl rfl dX3_toAndFro_14 ?_
    refine G_aload_n 2 rfl rfl dX3_toAndFro_17 ?_
    refine G_get (k := 0) (kd := (2, 1)) (v := aR 1) gf_X3_29 rfl rfl rfl rfl dX3_toAndFro_18 ?_
    refine G_get (k := 12) (kd := (0, 0)) (v := aI (σ 1 12)) gf_X3_46 rfl rfl rfl rfl dX3_toAndFro_21 ?_
    refine G_iload_n 3 rfl rfl dX3_toAndFro_24 ?_
    refine G_iload_n 4 rfl rfl dX3_toAndFro_25 ?_
    obtain ⟨g2, g3, c4, h⟩ := h
    refine G_callV (as := [_, _, _]) cf_X3_51 rfl rfl rfl (sp_X2_sucking (d - 1) (by omega) _ hO _ (OKm.i hO 1 12 rfl) _ hx1 _ hx2 g2 g3 c4) (by omega) rfl rfl (Nat.le_of_ble_eq_true rfl) dX3_toAndFro_26 ?_
    rintro _ σ7 ⟨u8, rfl, z9⟩ o6 r5
    have h := h _ _ (r5 _ rfl) o6 z9
    refine G_istore (lv' := [(5, aI (u8)), (4, aI (0)), (3, aI ((σ 11 x2))), (0, aR (49)), (1, aI (x1)), (2, aI (x2))]) rfl (by decide) dX3_toAndFro_29 ?_
    exact G_pick [3, 4, 5, 2, 1, 0] rfl (h hx1 hx2 (OKm.i hO 11 x2 (isLg_row (show shp 11 = (1, 16, []) from rfl) _)) (rL 0 rfl) (r5 _ rfl) o6)
  · intro v1 v2 v3 v4 v5 σ h hv1 hv2 hv3 hv4 hv5 hO
    have h := h hv1 hv2 hv3 hv4 hv5 hO
    refine G_iload 4 rfl dX3_toAndFro_31 ?_
    refine G_bipush (by decide) dX3_toAndFro_33 ?_
    refine G_icmp_ge hv4 (rL 99 rfl) dX3_toAndFro_35 (tgt := 90) (by decide) (fun c10 => ?_) (fun c10 => ?_)
    · have h := h.1 c10
      refine G_aload_n 0 rfl rfl dX3_toAndFro_90 ?_
      refine G_get (k := 1) (kd := (2, 10)) (v := aR 10) gf_X3_33 rfl rfl rfl rfl dX3_toAndFro_91 ?_
      refine G_get (k := 0) (kd := (3, 1)) (v := aR (11)) gf_X3_41 rfl rfl rfl rfl dX3_toAndFro_94 ?_
      refine G_iload_n 2 rfl rfl dX3_toAndFro_97 ?_
      refine G_iload_n 3 rfl rfl dX3_toAndFro_98 ?_
      obtain ⟨c11, h⟩ := h
      obtain ⟨σ12, e14⟩ : ∃ τ : Mem, τ = mset σ 11 v2 v3 := ⟨_, rfl⟩
      have h := h σ12 e14
      have o13 : OKm σ12 := by rw [e14]; exact OKm.seti hO _ _ _ hv3 (isLg_row (show shp 11 = (1, 16, []) from rfl) _)
      refine G_iast (n := 16) rfl c11.1 c11.2 dX3_toAndFro_99 ?_
      rw [← e14]
      refine G_iload 4 rfl dX3_toAndFro_100 ?_
      exact G_iret rfl hv4 dX3_toAndFro_102 ⟨_, rfl, h⟩ o13
    · have h := h.2 c10
      refine G_iload 5 rfl dX3_toAndFro_38 ?_
      refine G_aload_n 0 rfl rfl dX3_toAndFro_40 ?_
      refine G_get (k := 1) (kd := (2, 10)) (v := aR 10) gf_X3_33 rfl rfl rfl rfl dX3_toAndFro_41 ?_
      refine G_get (k := 0) (kd := (3, 1)) (v := aR (11)) gf_X3_41 rfl rfl rfl rfl dX3_toAndFro_44 ?_
      refine G_iload_n 2 rfl rfl dX3_toAndFro_47 ?_
      obtain ⟨c15, h⟩ := h
      refine G_iald (n := 16) rfl c15.1 c15.2 dX3_toAndFro_48 ?_
      refine G_icmp_gt hv5 (OKm.i hO 11 v2 (isLg_row (show shp 11 = (1, 16, []) from rfl) _)) dX3_toAndFro_49 (tgt := 90) (by decide) (fun c16 => ?_) (fun c16 => ?_)
      · have h := h.1 c16
        refine G_aload_n 0 rfl rfl dX3_toAndFro_90 ?_
        refine G_get (k := 1) (kd := (2, 10)) (v := aR 10) gf_X3_33 rfl rfl rfl rfl dX3_toAndFro_91 ?_
        refine G_get (k := 0) (kd := (3, 1)) (v := aR (11)) gf_X3_41 rfl rfl rfl rfl dX3_toAndFro_94 ?_
        refine G_iload_n 2 rfl rfl dX3_toAndFro_97 ?_
        refine G_iload_n 3 rfl rfl dX3_toAndFro_98 ?_
        obtain ⟨c17, h⟩ := h
        obtain ⟨σ18, e20⟩ : ∃ τ : Mem, τ = mset σ 11 v2 v3 := ⟨_, rfl⟩
        have h := h σ18 e20
        have o19 : OKm σ18 := by rw [e20]; exact OKm.seti hO _ _ _ hv3 (isLg_row (show shp 11 = (1, 16, []) from rfl) _)
        refine G_iast (n := 16) rfl c17.1 c17.2 dX3_toAndFro_99 ?_
        rw [← e20]
        refine G_iload 4 rfl dX3_toAndFro_100 ?_
        exact G_iret rfl hv4 dX3_toAndFro_102 ⟨_, rfl, h⟩ o19
      · have h := h.2 c16
        refine G_iinc (lv' := [(4, aI ((v4 + 1))), (0, aR (49)), (1, aI (v1)), (2, aI (v2)), (3, aI (v3)), (5, aI (v5))]) (k := 4) rfl rfl (by decide) dX3_toAndFro_52 ?_
        refine G_aload_n 1 rfl rfl dX3_toAndFro_55 ?_
        refine G_get (k := 1) (kd := (2, 10)) (v := aR 10) gf_X3_33 rfl rfl rfl rfl dX3_toAndFro_56 ?_
        refine G_get (k := 0) (kd := (3, 1)) (v := aR (11)) gf_X3_41 rfl rfl rfl rfl dX3_toAndFro_59 ?_
        refine G_iload_n 3 rfl rfl dX3_toAndFro_62 ?_
        refine G_dup2 rfl rfl dX3_toAndFro_63 ?_
        obtain ⟨c21, h⟩ := h
        refine G_iald (n := 16) rfl c21.1 c21.2 dX3_toAndFro_64 ?_
        refine G_iload 5 rfl dX3_toAndFro_65 ?_
        refine G_isub dX3_toAndFro_67 ?_
        obtain ⟨c22, h⟩ := h
        obtain ⟨c23, h⟩ := h
        obtain ⟨σ24, e26⟩ : ∃ τ : Mem, τ = mset σ 11 v2 ((σ 11 v2) - v5) := ⟨_, rfl⟩
        have h := h σ24 e26
        have o25 : OKm σ24 := by rw [e26]; exact OKm.seti hO _ _ _ c23 (isLg_row (show shp 11 = (1, 16, []) from rfl) _)
        refine G_iast (n := 16) rfl c22.1 c22.2 dX3_toAndFro_68 ?_
        rw [← e26]
        refine G_aload_n 1 rfl rfl dX3_toAndFro_69 ?_
        refine G_get (k := 2) (kd := (2, 36)) (v := aR 36) gf_X3_37 rfl rfl rfl rfl dX3_toAndFro_70 ?_
        refine G_aload_n 1 rfl rfl dX3_toAndFro_73 ?_
        refine G_get (k := 0) (kd := (2, 1)) (v := aR 1) gf_X3_29 rfl rfl rfl rfl dX3_toAndFro_74 ?_
        refine G_get (k := 12) (kd := (0, 0)) (v := aI (σ24 1 12)) gf_X3_46 rfl rfl rfl rfl dX3_toAndFro_77 ?_
        refine G_iload_n 2 rfl rfl dX3_toAndFro_80 ?_
        refine G_iload_n 3 rfl rfl dX3_toAndFro_81 ?_
        obtain ⟨g27, g28, c29, h⟩ := h
        refine G_callV (as := [_, _, _]) cf_X3_51 rfl rfl rfl (sp_X2_sucking (d - 1) (by omega) _ o25 _ (OKm.i o25 1 12 rfl) _ hv1 _ hv2 g27 g28 c29) (by omega) rfl rfl (Nat.le_of_ble_eq_true rfl) dX3_toAndFro_82 ?_
        rintro _ σ32 ⟨u33, rfl, z34⟩ o31 r30
        have h := h _ _ (r30 _ rfl) o31 z34
        refine G_istore (lv' := [(5, aI (u33)), (4, aI ((v4 + 1))), (0, aR (49)), (1, aI (v1)), (2, aI (v2)), (3, aI (v3))]) rfl (by decide) dX3_toAndFro_85 ?_
        refine G_goto (tgt := 31) dX3_toAndFro_87 (by decide) ?_
        obtain ⟨c35, h⟩ := h
        exact G_pick [2, 3, 4, 5, 1, 0] rfl (h hv1 hv2 hv3 c35 (r30 _ rfl) o31)

theorem sp_X3_toAndFro (d : Nat) (hd : 4 ≤ d) (σ : Mem) (hO : OKm σ) (x1 : Int) (hx1 : R32 x1) (x2 : Int) (hx2 : R32 x2) (A : Mem) (tx : Nat → Txt) (hpre : vwC σ A tx ∧ (0 ≤ x1 ∧ x1 < A 10 1) ∧ (0 ≤ x2 ∧ x2 < A 10 0)) : Mt yX3_toAndFro cX3_toAndFro 6 (some .int) d [aR (49), aI (x1), aI (x2)] σ (QI (fun v σ' => v = tmF A tx x1 x2 99 (A 1 x2) ∧ vwC σ' A tx ∧ Fr [11, 37] σ σ')) := mt_X3_toAndFro hd hx1 hx2 hO (by
  unfold wp_X3_toAndFro
  intro P31 h31
  obtain ⟨hV, hg, hr⟩ := hpre
  have hI := hV.2.2.1
  have hc := hI.1
  have k1 := hI.2.1 x2 hr.1 hr.2
  have e12 : σ 1 12 = A 10 4 := hV.1.1.2.2.2.2
  have e11 : σ 11 x2 = A 1 x2 := hV.2.1.2.1 x2 hr.1 hr.2
  rw [e12, e11]
  refine ⟨by omega, A, tx, ⟨hV, by omega, hg, hr⟩, ?_⟩
  intro u8 σ7 hu8 hO7 ⟨eu8, hF7⟩
  have hinv : ∀ th : Int, 0 ≤ th ∧ th ≤ A 14 x2 → InvA (mset A 1 x2 th) := fun th h => hI.thick (fun _ _ => h)
  have H : ∀ (n k : Nat) (th : Int) (τ : Mem), k + n = 99 → (0 ≤ th ∧ th ≤ A 14 x2) → vwC τ (mset A 1 x2 th) tx → Fr [11, 37] σ τ → tmF A tx x1 x2 99 (A 1 x2) = k + tmF A tx x1 x2 n th → P31 x1 x2 (A 1 x2) (k : Int) (skT A tx x1 x2 th) τ := by
    intro n
    induction n with
    | zero =>
      intro k th τ hk hth hVt hF hcnt
      refine h31 _ _ _ _ _ _ (fun _ _ _ _ _ _ => ⟨fun _ => ⟨by omega, fun σ12 e12 => ⟨?_, ?_, by rw [e12]; exact hF.set (by simp)⟩⟩, fun h => absurd h (by omega)⟩)
      · rw [hcnt]; show (k : Int) = k + 0; omega
      · have := hVt.th (v := A 1 x2) (hinv _ (by omega))
        rw [e12]; rw [mset_id] at this; exact this
    | succ n ih =>
      intro k th τ hk hth hVt hF hcnt
      have f11 : τ 11 x2 = th := by
        have := hVt.2.1.2.1 x2 hr.1 (by rw [mset_ne (by omega)]; exact hr.2)
        rw [this, mset_self]
      have hsk := skT_r (tx := tx) hI hg hr hth
      refine h31 _ _ _ _ _ _ (fun _ _ _ _ _ _ => ⟨fun h => absurd h (by omega), fun _ => ?_⟩)
      rw [f11]
      refine ⟨by omega, fun h => ⟨by omega, fun σ18 e18 => ⟨?_, ?_, by rw [e18]; exact hF.set (by simp)⟩⟩, fun h => ⟨by omega, by omega, by unfold R32; omega, fun σ24 e24 => ?_⟩⟩
      · rw [hcnt]
        have : tmF A tx x1 x2 (n + 1) th = 0 := by show (if _ then _ else _) = _; rw [if_neg (by omega)]
        rw [this]; omega
      · have := hVt.th (v := A 1 x2) (hinv _ (by omega))
        rw [e18]; rw [mset_id] at this; exact this
      · have hth2 : 0 ≤ th - skT A tx x1 x2 th ∧ th - skT A tx x1 x2 th ≤ A 14 x2 := by omega
        have hV24 : vwC σ24 (mset A 1 x2 (th - skT A tx x1 x2 th)) tx := by rw [e24]; exact hVt.th (hinv _ hth2)
        have g12 : σ24 1 12 = A 10 4 := by have := hV24.1.1.2.2.2.2; rw [this, mset_off (by omega)]
        rw [g12]
        refine ⟨_, tx, ⟨hV24, ?_, ?_, ?_⟩, ?_⟩
        · rw [mset_ne (by omega)]; omega
        · rw [mset_ne (by omega)]; exact hg
        · rw [mset_ne (by omega)]; exact hr
        · intro u33 σ32 hu33 hO32 ⟨eu33, hF32⟩
          have : u33 = skT A tx x1 x2 (th - skT A tx x1 x2 th) := eu33
          rw [this]
          refine ⟨by unfold R32; omega, ?_⟩
          refine ih (k + 1) _ σ32 (by omega) hth2 (hV24.fr (fr37 hF32)) ((by rw [e24]; exact hF.set (by simp) : Fr [11, 37] σ σ24).tr (hF32.wk (by simp))) ?_
          rw [hcnt]
          have : tmF A tx x1 x2 (n + 1) th = 1 + tmF A tx x1 x2 n (th - skT A tx x1 x2 th) := by show (if _ then _ else _) = _; rw [if_pos h]
          rw [this]; omega
  have es : u8 = skT A tx x1 x2 (A 1 x2) := by unfold skT; rw [mset_id]; exact eu8
  rw [es]
  refine H 99 0 (A 1 x2) σ7 (by omega) (by omega) ?_ (hF7.wk (by simp)) (by omega)
  rw [mset_id]; exact hV.fr (fr37 hF7))

def wp_X11_times (x1 : Int) (x2 : Int) (σ : Mem) (Q : Int → Mem → Prop) : Prop :=
  ((¬ (0 ≤ x1 ∧ x1 < σ 1 9)) →
    Q (-1) σ) ∧
   ((0 ≤ x1 ∧ x1 < σ 1 9) →
    ((¬ (0 ≤ x2 ∧ x2 < σ 1 8)) →
     Q (-1) σ) ∧
    ((0 ≤ x2 ∧ x2 < σ 1 8) →
     ∃ g7 : Mem, ∃ g8 : Nat → Txt, (vwC σ g7 g8 ∧ (0 ≤ x1 ∧ x1 < g7 10 1) ∧ (0 ≤ x2 ∧ x2 < g7 10 0)) ∧
     ∀ (u13 : Int) (σ12 : Mem), R32 u13 → OKm σ12 → (u13 = tmF g7 g8 x1 x2 99 (g7 1 x2) ∧ vwC σ12 g7 g8 ∧ Fr [11, 37] σ σ12) →
     Q u13 σ12))
theorem mt_X11_times {d : Nat} (hd : 5 ≤ d) {x1 : Int} {x2 : Int} {σ : Mem} {Q : Int → Mem → Prop} (hx1 : R32 x1) (hx2 : R32 x2) (hO : OKm σ) (h : wp_X11_times x1 x2 σ Q) : Mt yX11_times cX11_times 3 (some .int) d [aR (0), aI (x1), aI (x2)] σ (QI Q) := by
  refine Mt.intro (by decide +kernel) (Nat.le_of_ble_eq_true rfl) [(0, aR (0)), (1, aI (x1)), (2, aI (x2))] rfl ?_
  unfold wp_X11_times at h
  refine G_aload_n 0 rfl rfl dX11_times_0 ?_
  refine G_get (k := 0) (kd := (2, 1)) (v := aR 1) gf_X11_10 rfl rfl rfl rfl dX11_times_1 ?_
  refine G_iload_n 1 rfl rfl dX11_times_4 ?_
  refine G_callV (as := [_]) cf_X11_209 rfl rfl rfl (sp_X10_hasGoer (d - 1) (by omega) _ hO _ hx1) (by omega) rfl rfl (Nat.le_of_ble_eq_true rfl) dX11_times_5 ?_
  rintro _ _ ⟨_, rfl, rfl, rfl⟩ o2 r1
  refine G_if_eq (bI_R _) dX11_times_8 (tgt := 34) (by decide) (fun c3 => ?_) (fun c3 => ?_)
  · have h := h.1 ((bI_0 _).mp c3)
    refine G_iconst dX11_times_34 ?_
    exact G_iret rfl (rL (-1) rfl) dX11_times_35 ⟨_, rfl, h⟩ hO
  · have h := h.2 (bI_ne c3)
    refine G_aload_n 0 rfl rfl dX11_times_11 ?_
    refine G_get (k := 0) (kd := (2, 1)) (v := aR 1) gf_X11_10 rfl rfl rfl rfl dX11_times_12 ?_
    refine G_iload_n 2 rfl rfl dX11_times_15 ?_
    refine G_callV (as := [_]) cf_X11_188 rfl rfl rfl (sp_X10_hasRoad (d - 1) (by omega) _ hO _ hx2) (by omega) rfl rfl (Nat.le_of_ble_eq_true rfl) dX11_times_16 ?_
    rintro _ _ ⟨_, rfl, rfl, rfl⟩ o5 r4
    refine G_if_eq (bI_R _) dX11_times_19 (tgt := 34) (by decide) (fun c6 => ?_) (fun c6 => ?_)
    · have h := h.1 ((bI_0 _).mp c6)
      refine G_iconst dX11_times_34 ?_
      exact G_iret rfl (rL (-1) rfl) dX11_times_35 ⟨_, rfl, h⟩ hO
    · have h := h.2 (bI_ne c6)
      refine G_aload_n 0 rfl rfl dX11_times_22 ?_
      refine G_get (k := 12) (kd := (2, 49)) (v := aR 49) gf_X11_94 rfl rfl rfl rfl dX11_times_23 ?_
      refine G_iload_n 1 rfl rfl dX11_times_26 ?_
      refine G_iload_n 2 rfl rfl dX11_times_27 ?_
      obtain ⟨g7, g8, c9, h⟩ := h
      refine G_callV (as := [_, _]) cf_X11_288 rfl rfl rfl (sp_X3_toAndFro (d - 1) (by omega) _ hO _ hx1 _ hx2 g7 g8 c9) (by omega) rfl rfl (Nat.le_of_ble_eq_true rfl) dX11_times_28 ?_
      rintro _ σ12 ⟨u13, rfl, z14⟩ o11 r10
      have h := h _ _ (r10 _ rfl) o11 z14
      refine G_goto (tgt := 35) dX11_times_31 (by decide) ?_
      exact G_iret rfl (r10 _ rfl) dX11_times_35 ⟨_, rfl, h⟩ o11

theorem sp_X11_times (d : Nat) (hd : 5 ≤ d) (σ : Mem) (hO : OKm σ) (x1 : Int) (hx1 : R32 x1) (x2 : Int) (hx2 : R32 x2) (A : Mem) (tx : Nat → Txt) (hpre : vwC σ A tx) : Mt yX11_times cX11_times 3 (some .int) d [aR (0), aI (x1), aI (x2)] σ (QI (fun v σ' => v = timS A tx x1 x2 ∧ vwC σ' A tx ∧ Fr [11, 37] σ σ')) := mt_X11_times hd hx1 hx2 hO (by
  unfold wp_X11_times
  have hV := hpre
  have e8 : σ 1 8 = A 10 0 := hV.1.1.1
  have e9 : σ 1 9 = A 10 1 := hV.1.1.2.1
  rw [e8, e9]
  unfold timS
  refine ⟨fun h => ⟨by rw [if_neg (fun q => h q.1)], hV, Fr.rf _ _⟩, fun hg => ⟨fun h => ⟨by rw [if_neg (fun q => h q.2)], hV, Fr.rf _ _⟩, fun hr => ⟨A, tx, ⟨hV, hg, hr⟩, ?_⟩⟩⟩
  intro u σ1 hu hO1 ⟨eu, hV1, hF⟩
  exact ⟨by rw [if_pos ⟨hg, hr⟩]; exact eu, hV1, hF⟩)

def wp_X12_times (x1 : Int) (x2 : Int) (σ : Mem) (Q : Int → Mem → Prop) : Prop :=
 ∀ P31 : Int → Int → Int → Int → Mem → Prop,
 (∀ (v1 : Int) (v2 : Int) (v3 : Int) (v4 : Int) (σ : Mem), (R32 v1 → R32 v2 → R32 v3 → R32 v4 → OKm σ →
   ((99 ≤ v4) →
     (0 ≤ (11 + v2) ∧ (11 + v2) < 2119) ∧
     ∀ σ12 : Mem, σ12 = mset σ 75 (11 + v2) v3 →
     Q v4 σ12) ∧
    ((v4 < 99) →
     ∃ g15 : Mem, ∃ g16 : Nat → Txt, (vwM σ g15 g16 ∧ (0 ≤ v1 ∧ v1 < g15 10 1) ∧ (0 ≤ v2 ∧ v2 < g15 10 0)) ∧
     ∀ (u21 : Int) (σ20 : Mem), R32 u21 → OKm σ20 → (u21 = (if skS g15 g16 (g15 10 4) v1 v2 ≤ g15 1 v2 then 1 else 0) ∧ vwM σ20 g15 g16 ∧ Fr F80 σ σ20) →
     ((u21 = 0) →
      (0 ≤ (11 + v2) ∧ (11 + v2) < 2119) ∧
      ∀ σ25 : Mem, σ25 = mset σ20 75 (11 + v2) v3 →
      Q v4 σ25) ∧
     ((u21 ≠ 0) →
      (0 ≤ (11 + v2) ∧ (11 + v2) < 2119) ∧
      ∃ g29 : Mem, ∃ g30 : Nat → Txt, (vwM σ20 g29 g30 ∧ (-1 ≤ (σ20 75 3) ∧ (σ20 75 3) < g29 10 2) ∧ (0 ≤ v1 ∧ v1 < g29 10 1) ∧ (0 ≤ v2 ∧ v2 < g29 10 0)) ∧
      ∀ (u35 : Int) (σ34 : Mem), R32 u35 → OKm σ34 → (u35 = skS g29 g30 (σ20 75 3) v1 v2 ∧ vwM σ34 g29 g30 ∧ Fr [80, 81, 82] σ20 σ34) →
      (0 ≤ (11 + v2) ∧ (11 + v2) < 2119) ∧
      R32 ((σ20 75 (11 + v2)) - u35) ∧
      ∀ σ39 : Mem, σ39 = mset σ34 75 (11 + v2) ((σ20 75 (11 + v2)) - u35) →
      R32 (v4 + 1) ∧ P31 v1 v2 v3 (v4 + 1) σ39))) → P31 v1 v2 v3 v4 σ) →
  (0 ≤ σ 75 1) ∧
   ((¬ (0 ≤ x1 ∧ x1 < σ 75 1)) →
    Q (-1) σ) ∧
   ((0 ≤ x1 ∧ x1 < σ 75 1) →
    (0 ≤ σ 75 0) ∧
    ((0 ≤ x2 ∧ x2 < σ 75 0) →
     (0 ≤ (11 + x2) ∧ (11 + x2) < 2119) ∧
     P31 x1 x2 (σ 75 (11 + x2)) 0 σ) ∧
    ((¬ (0 ≤ x2 ∧ x2 < σ 75 0)) →
     Q (-1) σ))
theorem mt_X12_times {d : Nat} (hd : 6 ≤ d) {x1 : Int} {x2 : Int} {σ : Mem} {Q : Int → Mem → Prop} (hx1 : R32 x1) (hx2 : R32 x2) (hO : OKm σ) (h : wp_X12_times x1 x2 σ Q) : Mt yX12_times cX12_times 5 (some .int) d [aR (74), aI (x1), aI (x2)] σ (QI Q) := by
  refine Mt.intro (by decide +kernel) (Nat.le_of_ble_eq_true rfl) [(0, aR (74)), (1, aI (x1)), (2, aI (x2))] rfl ?_
  unfold wp_X12_times at h
  have h := h (fun (v1 : Int) (v2 : Int) (v3 : Int) (v4 : Int) (σ : Mem) => R32 v1 → R32 v2 → R32 v3 → R32 v4 → OKm σ → G yX12_times cX12_times 5 (some .int) d (QI Q) 31 [(0, aR (74)), (1, aI (v1)), (2, aI (v2)), (3, aI (v3)), (4, aI (v4))] [] σ) ?_
  · refine G_aload_n 0 rfl rfl dX12_times_0 ?_
    refine G_iload_n 1 rfl rfl dX12_times_1 ?_
    obtain ⟨c1, h⟩ := h
    refine G_callV (as := [_]) cf_X12_330 rfl rfl rfl (sp_X12_isGoer (d - 1) (by omega) _ hO _ hx1 c1) (by omega) rfl rfl (Nat.le_of_ble_eq_true rfl) dX12_times_2 ?_
    rintro _ _ ⟨_, rfl, rfl, rfl⟩ o3 r2
    refine G_if_eq (bI_R _) dX12_times_5 (tgt := 16) (by decide) (fun c4 => ?_) (fun c4 => ?_)
    · have h := h.1 ((bI_0 _).mp c4)
      refine G_iconst dX12_times_16 ?_
      exact G_iret rfl (rL (-1) rfl) dX12_times_17 ⟨_, rfl, h⟩ hO
    · have h := h.2 (bI_ne c4)
      refine G_aload_n 0 rfl rfl dX12_times_8 ?_
      refine G_iload_n 2 rfl rfl dX12_times_9 ?_
      obtain ⟨c5, h⟩ := h
      refine G_callV (as := [_]) cf_X12_333 rfl rfl rfl (sp_X12_isRoad (d - 1) (by omega) _ hO _ hx2 c5) (by omega) rfl rfl (Nat.le_of_ble_eq_true rfl) dX12_times_10 ?_
      rintro _ _ ⟨_, rfl, rfl, rfl⟩ o7 r6
      refine G_if_ne (bI_R _) dX12_times_13 (tgt := 18) (by decide) (fun c8 => ?_) (fun c8 => ?_)
      · have h := h.1 (bI_ne c8)
        refine G_aload_n 0 rfl rfl dX12_times_18 ?_
        refine G_get (k := 0) (kd := (2, 75)) (v := aR 75) gf_X12_7 rfl rfl rfl rfl dX12_times_19 ?_
        refine G_bipush (by decide) dX12_times_22 ?_
        refine G_iload_n 2 rfl rfl dX12_times_24 ?_
        refine G_iadd dX12_times_25 ?_
        obtain ⟨c9, h⟩ := h
        refine G_iald (n := 2119) rfl c9.1 c9.2 dX12_times_26 ?_
        refine G_istore_n (lv' := [(3, aI ((σ 75 (11 + x2)))), (0, aR (74)), (1, aI (x1)), (2, aI (x2))]) rfl rfl (by decide) dX12_times_27 ?_
        refine G_iconst dX12_times_28 ?_
        refine G_istore (lv' := [(4, aI (0)), (3, aI ((σ 75 (11 + x2)))), (0, aR (74)), (1, aI (x1)), (2, aI (x2))]) rfl (by decide) dX12_times_29 ?_
        exact G_pick [2, 3, 4, 1, 0] rfl (h hx1 hx2 (OKm.i hO 75 (11 + x2) (isLg_row (show shp 75 = (1, 2119, []) from rfl) _)) (rL 0 rfl) hO)
      · have h := h.2 ((bI_0 _).mp c8)
        refine G_iconst dX12_times_16 ?_
        exact G_iret rfl (rL (-1) rfl) dX12_times_17 ⟨_, rfl, h⟩ hO
  · intro v1 v2 v3 v4 σ h hv1 hv2 hv3 hv4 hO
    have h := h hv1 hv2 hv3 hv4 hO
    refine G_iload 4 rfl dX12_times_31 ?_
    refine G_bipush (by decide) dX12_times_33 ?_
    refine G_icmp_ge hv4 (rL 99 rfl) dX12_times_35 (tgt := 77) (by decide) (fun c10 => ?_) (fun c10 => ?_)
    · have h := h.1 c10
      refine G_aload_n 0 rfl rfl dX12_times_77 ?_
      refine G_get (k := 0) (kd := (2, 75)) (v := aR 75) gf_X12_7 rfl rfl rfl rfl dX12_times_78 ?_
      refine G_bipush (by decide) dX12_times_81 ?_
      refine G_iload_n 2 rfl rfl dX12_times_83 ?_
      refine G_iadd dX12_times_84 ?_
      refine G_iload_n 3 rfl rfl dX12_times_85 ?_
      obtain ⟨c11, h⟩ := h
      obtain ⟨σ12, e14⟩ : ∃ τ : Mem, τ = mset σ 75 (11 + v2) v3 := ⟨_, rfl⟩
      have h := h σ12 e14
      have o13 : OKm σ12 := by rw [e14]; exact OKm.seti hO _ _ _ hv3 (isLg_row (show shp 75 = (1, 2119, []) from rfl) _)
      refine G_iast (n := 2119) rfl c11.1 c11.2 dX12_times_86 ?_
      rw [← e14]
      refine G_iload 4 rfl dX12_times_87 ?_
      exact G_iret rfl hv4 dX12_times_89 ⟨_, rfl, h⟩ o13
    · have h := h.2 c10
      refine G_aload_n 0 rfl rfl dX12_times_38 ?_
      refine G_iload_n 1 rfl rfl dX12_times_39 ?_
      refine G_iload_n 2 rfl rfl dX12_times_40 ?_
      obtain ⟨g15, g16, c17, h⟩ := h
      refine G_callV (as := [_, _]) cf_X12_342 rfl rfl rfl (sp_X12_isThick (d - 1) (by omega) _ hO _ hv1 _ hv2 g15 g16 c17) (by omega) rfl rfl (Nat.le_of_ble_eq_true rfl) dX12_times_41 ?_
      rintro _ σ20 ⟨u21, rfl, z22⟩ o19 r18
      have h := h _ _ (r18 _ rfl) o19 z22
      refine G_if_eq (r18 _ rfl) dX12_times_44 (tgt := 77) (by decide) (fun c23 => ?_) (fun c23 => ?_)
      · have h := h.1 c23
        refine G_aload_n 0 rfl rfl dX12_times_77 ?_
        refine G_get (k := 0) (kd := (2, 75)) (v := aR 75) gf_X12_7 rfl rfl rfl rfl dX12_times_78 ?_
        refine G_bipush (by decide) dX12_times_81 ?_
        refine G_iload_n 2 rfl rfl dX12_times_83 ?_
        refine G_iadd dX12_times_84 ?_
        refine G_iload_n 3 rfl rfl dX12_times_85 ?_
        obtain ⟨c24, h⟩ := h
        obtain ⟨σ25, e27⟩ : ∃ τ : Mem, τ = mset σ20 75 (11 + v2) v3 := ⟨_, rfl⟩
        have h := h σ25 e27
        have o26 : OKm σ25 := by rw [e27]; exact OKm.seti o19 _ _ _ hv3 (isLg_row (show shp 75 = (1, 2119, []) from rfl) _)
        refine G_iast (n := 2119) rfl c24.1 c24.2 dX12_times_86 ?_
        rw [← e27]
        refine G_iload 4 rfl dX12_times_87 ?_
        exact G_iret rfl hv4 dX12_times_89 ⟨_, rfl, h⟩ o26
      · have h := h.2 c23
        refine G_aload_n 0 rfl rfl dX12_times_47 ?_
        refine G_get (k := 0) (kd := (2, 75)) (v := aR 75) gf_X12_7 rfl rfl rfl rfl dX12_times_48 ?_
        refine G_bipush (by decide) dX12_times_51 ?_
        refine G_iload_n 2 rfl rfl dX12_times_53 ?_
        refine G_iadd dX12_times_54 ?_
        refine G_dup2 rfl rfl dX12_times_55 ?_
        obtain ⟨c28, h⟩ := h
        refine G_iald (n := 2119) rfl c28.1 c28.2 dX12_times_56 ?_
        refine G_aload_n 0 rfl rfl dX12_times_57 ?_
        refine G_aload_n 0 rfl rfl dX12_times_58 ?_
        refine G_get (k := 0) (kd := (2, 75)) (v := aR 75) gf_X12_7 rfl rfl rfl rfl dX12_times_59 ?_
        refine G_iconst dX12_times_62 ?_
        refine G_iald (n := 2119) rfl (by decide) (by decide) dX12_times_63 ?_
        refine G_iload_n 1 rfl rfl dX12_times_64 ?_
        refine G_iload_n 2 rfl rfl dX12_times_65 ?_
        obtain ⟨g29, g30, c31, h⟩ := h
        refine G_callV (as := [_, _, _]) cf_X12_327 rfl rfl rfl (sp_X12_sucksOf (d - 1) (by omega) _ o19 _ (OKm.i o19 75 3 (isLg_row (show shp 75 = (1, 2119, []) from rfl) _)) _ hv1 _ hv2 g29 g30 c31) (by omega) rfl rfl (Nat.le_of_ble_eq_true rfl) dX12_times_66 ?_
        rintro _ σ34 ⟨u35, rfl, z36⟩ o33 r32
        have h := h _ _ (r32 _ rfl) o33 z36
        refine G_isub dX12_times_69 ?_
        obtain ⟨c37, h⟩ := h
        obtain ⟨c38, h⟩ := h
        obtain ⟨σ39, e41⟩ : ∃ τ : Mem, τ = mset σ34 75 (11 + v2) ((σ20 75 (11 + v2)) - u35) := ⟨_, rfl⟩
        have h := h σ39 e41
        have o40 : OKm σ39 := by rw [e41]; exact OKm.seti o33 _ _ _ c38 (isLg_row (show shp 75 = (1, 2119, []) from rfl) _)
        refine G_iast (n := 2119) rfl c37.1 c37.2 dX12_times_70 ?_
        rw [← e41]
        refine G_iinc (lv' := [(4, aI ((v4 + 1))), (0, aR (74)), (1, aI (v1)), (2, aI (v2)), (3, aI (v3))]) (k := 4) rfl rfl (by decide) dX12_times_71 ?_
        refine G_goto (tgt := 31) dX12_times_74 (by decide) ?_
        obtain ⟨c42, h⟩ := h
        exact G_pick [1, 2, 3, 4, 0] rfl (h hv1 hv2 hv3 c42 o40)

theorem sp_X12_times (d : Nat) (hd : 6 ≤ d) (σ : Mem) (hO : OKm σ) (x1 : Int) (hx1 : R32 x1) (x2 : Int) (hx2 : R32 x2) (A : Mem) (tx : Nat → Txt) (hpre : vwM σ A tx) : Mt yX12_times cX12_times 5 (some .int) d [aR (74), aI (x1), aI (x2)] σ (QI (fun v σ' => v = timS A tx x1 x2 ∧ vwM σ' A tx ∧ (∀ j : Int, j ≠ 11 + x2 → σ' 75 j = σ 75 j) ∧ Fr [75, 80, 81, 82] σ σ')) := mt_X12_times hd hx1 hx2 hO (by
  unfold wp_X12_times
  intro P31 h31
  have hV := hpre
  have hI := hV.2.2.1
  have hc := hI.1
  have e0 : σ 75 0 = A 10 0 := hV.1.1.1
  have e1 : σ 75 1 = A 10 1 := hV.1.1.2.1
  rw [e0, e1]
  have no : ¬ ((0 ≤ x1 ∧ x1 < A 10 1) ∧ (0 ≤ x2 ∧ x2 < A 10 0)) → (-1 : Int) = timS A tx x1 x2 ∧ vwM σ A tx ∧ (∀ j : Int, j ≠ 11 + x2 → σ 75 j = σ 75 j) ∧ Fr [75, 80, 81, 82] σ σ := fun h => ⟨by unfold timS; rw [if_neg h], hV, fun _ _ => rfl, Fr.rf _ _⟩
  refine ⟨by omega, fun h => no (fun q => h q.1), fun hg => ⟨by omega, fun hr => ⟨by omega, ?_⟩, fun h => no (fun q => h q.2)⟩⟩
  have k1 := hI.2.1 x2 hr.1 hr.2
  have e11 : σ 75 (11 + x2) = A 1 x2 := hV.2.1.2.1 x2 hr.1 hr.2
  rw [e11]
  have et : timS A tx x1 x2 = tmF A tx x1 x2 99 (A 1 x2) := by unfold timS; rw [if_pos ⟨hg, hr⟩]
  rw [et] at h31
  have hinv : ∀ th : Int, 0 ≤ th ∧ th ≤ A 14 x2 → InvA (mset A 1 x2 th) := fun th h => hI.thick (fun _ _ => h)
  have H : ∀ (n k : Nat) (th : Int) (τ : Mem), k + n = 99 → (0 ≤ th ∧ th ≤ A 14 x2) → vwM τ (mset A 1 x2 th) tx → (∀ j : Int, j ≠ 11 + x2 → τ 75 j = σ 75 j) → Fr [75, 80, 81, 82] σ τ → tmF A tx x1 x2 99 (A 1 x2) = k + tmF A tx x1 x2 n th → P31 x1 x2 (A 1 x2) (k : Int) τ := by
    intro n
    induction n with
    | zero =>
      intro k th τ hk hth hVt hj hF hcnt
      refine h31 _ _ _ _ _ (fun _ _ _ _ _ => ⟨fun _ => ⟨by omega, fun σ12 e12 => ⟨?_, ?_, fun j h => by rw [e12, mset_miss h]; exact hj j h, by rw [e12]; exact hF.set (by simp)⟩⟩, fun h => absurd h (by omega)⟩)
      · rw [hcnt]; show (k : Int) = k + 0; omega
      · have := hVt.th (v := A 1 x2) (by omega) (hinv _ (by omega))
        rw [e12]; rw [mset_id] at this; exact this
    | succ n ih =>
      intro k th τ hk hth hVt hj hF hcnt
      have hsk := skT_r (tx := tx) hI hg hr hth
      have b10 : mset A 1 x2 th 10 = A 10 := mset_ne (by omega)
      have bth : mset A 1 x2 th 1 x2 = th := mset_self _ _ _ _
      refine h31 _ _ _ _ _ (fun _ _ _ _ _ => ⟨fun h => absurd h (by omega), fun _ => ⟨_, tx, ⟨hVt, by rw [b10]; exact hg, by rw [b10]; exact hr⟩, ?_⟩⟩)
      intro u21 σ20 hu21 hO20 ⟨eu21, hV20, hF20⟩
      rw [b10, bth] at eu21
      have eu21 : u21 = if skT A tx x1 x2 th ≤ th then 1 else 0 := eu21
      have hj20 : ∀ j : Int, j ≠ 11 + x2 → σ20 75 j = σ 75 j := fun j h => by rw [hF20 75 (by simp)]; exact hj j h
      refine ⟨fun h => ⟨by omega, fun σ25 e25 => ⟨?_, ?_, fun j h => by rw [e25, mset_miss h]; exact hj20 j h, by rw [e25]; exact (hF.tr (hF20.wk (by simp))).set (by simp)⟩⟩, fun h => ⟨by omega, _, tx, ⟨hV20, ?_, by rw [b10]; exact hg, by rw [b10]; exact hr⟩, ?_⟩⟩
      · rw [hcnt]
        have : tmF A tx x1 x2 (n + 1) th = 0 := by
          show (if _ then _ else _) = _
          rw [if_neg (fun q => by rw [if_pos q] at eu21; omega)]
        rw [this]; omega
      · have := hV20.th (v := A 1 x2) (by omega) (hinv _ (by omega))
        rw [e25]; rw [mset_id] at this; exact this
      · rw [vwM_tx hV20, b10]; omega
      · intro u35 σ34 hu35 hO34 ⟨eu35, hV34, hF34⟩
        rw [vwM_tx hV20, b10] at eu35
        have eu35 : u35 = skT A tx x1 x2 th := eu35
        have hle : skT A tx x1 x2 th ≤ th := by
          by_cases q : skT A tx x1 x2 th ≤ th
          · exact q
          · rw [if_neg q] at eu21; exact absurd eu21 h
        have f11 : σ20 75 (11 + x2) = th := by
          have := hV20.2.1.2.1 x2 hr.1 (by rw [b10]; exact hr.2)
          rw [this, bth]
        rw [f11, eu35]
        have hth2 : 0 ≤ th - skT A tx x1 x2 th ∧ th - skT A tx x1 x2 th ≤ A 14 x2 := by omega
        refine ⟨by omega, by unfold R32; omega, fun σ39 e39 => ⟨by unfold R32; omega, ih (k + 1) _ σ39 (by omega) hth2 (by rw [e39]; exact hV34.th (by omega) (hinv _ hth2)) (fun j h => by rw [e39, mset_miss h, hF34 75 (by simp)]; exact hj20 j h) (by rw [e39]; exact ((hF.tr (hF20.wk (by simp))).tr (hF34.wk (by simp))).set (by simp)) ?_⟩⟩
        rw [hcnt]
        have : tmF A tx x1 x2 (n + 1) th = 1 + tmF A tx x1 x2 n (th - skT A tx x1 x2 th) := by show (if _ then _ else _) = _; rw [if_pos hle]
        rw [this]; omega
  exact H 99 0 (A 1 x2) σ (by omega) (by omega) (by rw [mset_id]; exact hV) (fun _ _ => rfl) (Fr.rf _ _) (by omega))
