def knC (σ A : Mem) (tx : Nat → Txt) (r : Int) : Prop := ∀ g t : Int, 0 ≤ g → g < A 10 1 → 0 ≤ t → t ≤ A 14 r → σ 50 (g * 100 + t) = -1 ∨ σ 50 (g * 100 + t) = skT A tx g r t
def inC (σ : Mem) : Prop := ∀ i : Int, 0 ≤ i → i < 600 → -1 ≤ σ 50 i ∧ σ 50 i ≤ 99

def wp_X3_suckedAt (x1 : Int) (x2 : Int) (σ : Mem) (Q : Int → Mem → Prop) : Prop :=
  (0 ≤ x2 ∧ x2 < 16) ∧
   (0 ≤ ((x1 * 100) + (σ 11 x2)) ∧ ((x1 * 100) + (σ 11 x2)) < 600) ∧
   (((σ 50 ((x1 * 100) + (σ 11 x2))) ≠ (-1)) →
    (0 ≤ ((x1 * 100) + (σ 11 x2)) ∧ ((x1 * 100) + (σ 11 x2)) < 600) ∧
    Q (σ 50 ((x1 * 100) + (σ 11 x2))) σ) ∧
   (((σ 50 ((x1 * 100) + (σ 11 x2))) = (-1)) →
    ∃ g5 : Mem, ∃ g6 : Nat → Txt, (vwC σ g5 g6 ∧ (-1 ≤ (σ 1 12) ∧ (σ 1 12) < g5 10 2) ∧ (0 ≤ x1 ∧ x1 < g5 10 1) ∧ (0 ≤ x2 ∧ x2 < g5 10 0)) ∧
    ∀ (u11 : Int) (σ10 : Mem), R32 u11 → OKm σ10 → (u11 = skS g5 g6 (σ 1 12) x1 x2 ∧ Fr [37] σ σ10) →
    (0 ≤ ((x1 * 100) + (σ 11 x2)) ∧ ((x1 * 100) + (σ 11 x2)) < 600) ∧
    ∀ σ14 : Mem, σ14 = mset σ10 50 ((x1 * 100) + (σ 11 x2)) u11 →
    (0 ≤ ((x1 * 100) + (σ 11 x2)) ∧ ((x1 * 100) + (σ 11 x2)) < 600) ∧
    Q (σ14 50 ((x1 * 100) + (σ 11 x2))) σ14)
theorem mt_X3_suckedAt {d : Nat} (hd : 4 ≤ d) {x1 : Int} {x2 : Int} {σ : Mem} {Q : Int → Mem → Prop} (hx1 : R32 x1) (hx2 : R32 x2) (hO : OKm σ) (h : wp_X3_suckedAt x1 x2 σ Q) : Mt yX3_suckedAt cX3_suckedAt 4 (some .int) d [aR (49), aI (x1), aI (x2)] σ (QI Q) := by
  refine Mt.intro (by decide +kernel) (Nat.le_of_ble_eq_true rfl) [(0, aR (49)), (1, aI (x1)), (2, aI (x2))] rfl ?_
  unfold wp_X3_suckedAt at h
  refine G_iload_n 1 rfl rfl dX3_suckedAt_0 ?_
  refine G_bipush (by decide) dX3_suckedAt_1 ?_
  refine G_imul dX3_suckedAt_3 ?_
  refine G_aload_n 0 rfl rfl dX3_suckedAt_4 ?_
  refine G_get (k := 1) (kd := (2, 10)) (v := aR 10) gf_X3_33 rfl rfl rfl rfl dX3_suckedAt_5 ?_
  refine G_get (k := 0) (kd := (3, 1)) (v := aR (11)) gf_X3_41 rfl rfl rfl rfl dX3_suckedAt_8 ?_
  refine G_iload_n 2 rfl rfl dX3_suckedAt_11 ?_
  obtain ⟨c1, h⟩ := h
  refine G_iald (n := 16) rfl c1.1 c1.2 dX3_suckedAt_12 ?_
  refine G_iadd dX3_suckedAt_13 ?_
  refine G_istore_n (lv' := [(3, aI (((x1 * 100) + (σ 11 x2)))), (0, aR (49)), (1, aI (x1)), (2, aI (x2))]) rfl rfl (by decide) dX3_suckedAt_14 ?_
  refine G_aload_n 1 rfl rfl dX3_suckedAt_15 ?_
  refine G_get (k := 3) (kd := (3, 1)) (v := aR (50)) gf_X3_11 rfl rfl rfl rfl dX3_suckedAt_16 ?_
  refine G_iload_n 0 rfl rfl dX3_suckedAt_19 ?_
  obtain ⟨c2, h⟩ := h
  refine G_iald (n := 600) rfl c2.1 c2.2 dX3_suckedAt_20 ?_
  refine G_iconst dX3_suckedAt_21 ?_
  refine G_icmp_ne (OKm.i hO 50 ((x1 * 100) + (σ 11 x2)) (isLg_row (show shp 50 = (1, 600, []) from rfl) _)) (rL (-1) rfl) dX3_suckedAt_22 (tgt := 47) (by decide) (fun c3 => ?_) (fun c3 => ?_)
  · have h := h.1 c3
    refine G_aload_n 1 rfl rfl dX3_suckedAt_47 ?_
    refine G_get (k := 3) (kd := (3, 1)) (v := aR (50)) gf_X3_11 rfl rfl rfl rfl dX3_suckedAt_48 ?_
    refine G_iload_n 0 rfl rfl dX3_suckedAt_51 ?_
    obtain ⟨c4, h⟩ := h
    refine G_iald (n := 600) rfl c4.1 c4.2 dX3_suckedAt_52 ?_
    exact G_iret rfl (OKm.i hO 50 ((x1 * 100) + (σ 11 x2)) (isLg_row (show shp 50 = (1, 600, []) from rfl) _)) dX3_suckedAt_53 ⟨_, rfl, h⟩ hO
  · have h := h.2 c3
    refine G_aload_n 1 rfl rfl dX3_suckedAt_25 ?_
    refine G_get (k := 3) (kd := (3, 1)) (v := aR (50)) gf_X3_11 rfl rfl rfl rfl dX3_suckedAt_26 ?_
    refine G_iload_n 0 rfl rfl dX3_suckedAt_29 ?_
    refine G_aload_n 1 rfl rfl dX3_suckedAt_30 ?_
    refine G_get (k := 2) (kd := (2, 36)) (v := aR 36) gf_X3_37 rfl rfl rfl rfl dX3_suckedAt_31 ?_
    refine G_aload_n 1 rfl rfl dX3_suckedAt_34 ?_
    refine G_get (k := 0) (kd := (2, 1)) (v := aR 1) gf_X3_29 rfl rfl rfl rfl dX3_suckedAt_35 ?_
    refine G_get (k := 12) (kd := (0, 0)) (v := aI (σ 1 12)) gf_X3_46 rfl rfl rfl rfl dX3_suckedAt_38 ?_
    refine G_iload_n 2 rfl rfl dX3_suckedAt_41 ?_
    refine G_iload_n 3 rfl rfl dX3_suckedAt_42 ?_
    obtain ⟨g5, g6, c7, h⟩ := h
    refine G_callV (as := [_, _, _]) cf_X3_51 rfl rfl rfl (sp_X2_sucking (d - 1) (by omega) _ hO _ (OKm.i hO 1 12 rfl) _ hx1 _ hx2 g5 g6 c7) (by omega) rfl rfl (Nat.le_of_ble_eq_true rfl) dX3_suckedAt_43 ?_
    rintro _ σ10 ⟨u11, rfl, z12⟩ o9 r8
    have h := h _ _ (r8 _ rfl) o9 z12
    obtain ⟨c13, h⟩ := h
    obtain ⟨σ14, e16⟩ : ∃ τ : Mem, τ = mset σ10 50 ((x1 * 100) + (σ 11 x2)) u11 := ⟨_, rfl⟩
    have h := h σ14 e16
    have o15 : OKm σ14 := by rw [e16]; exact OKm.seti o9 _ _ _ (r8 _ rfl) (isLg_row (show shp 50 = (1, 600, []) from rfl) _)
    refine G_iast (n := 600) rfl c13.1 c13.2 dX3_suckedAt_46 ?_
    rw [← e16]
    refine G_aload_n 1 rfl rfl dX3_suckedAt_47 ?_
    refine G_get (k := 3) (kd := (3, 1)) (v := aR (50)) gf_X3_11 rfl rfl rfl rfl dX3_suckedAt_48 ?_
    refine G_iload_n 0 rfl rfl dX3_suckedAt_51 ?_
    obtain ⟨c17, h⟩ := h
    refine G_iald (n := 600) rfl c17.1 c17.2 dX3_suckedAt_52 ?_
    exact G_iret rfl (OKm.i o15 50 ((x1 * 100) + (σ 11 x2)) (isLg_row (show shp 50 = (1, 600, []) from rfl) _)) dX3_suckedAt_53 ⟨_, rfl, h⟩ o15

theorem sp_X3_suckedAt (d : Nat) (hd : 4 ≤ d) (σ : Mem) (hO : OKm σ) (x1 : Int) (hx1 : R32 x1) (x2 : Int) (hx2 : R32 x2) (A : Mem) (tx : Nat → Txt) (th : Int) (hpre : vwC σ (mset A 1 x2 th) tx ∧ (0 ≤ x1 ∧ x1 < A 10 1) ∧ (0 ≤ x2 ∧ x2 < A 10 0) ∧ (0 ≤ th ∧ th ≤ A 14 x2 ∧ A 14 x2 ≤ 99) ∧ knC σ A tx x2) : Mt yX3_suckedAt cX3_suckedAt 4 (some .int) d [aR (49), aI (x1), aI (x2)] σ (QI (fun v σ' => v = skT A tx x1 x2 th ∧ vwC σ' (mset A 1 x2 th) tx ∧ knC σ' A tx x2 ∧ Fr [37, 50] σ σ')) := mt_X3_suckedAt hd hx1 hx2 hO (by
  unfold wp_X3_suckedAt
  obtain ⟨hV, hg, hr, ht, hk⟩ := hpre
  have hI := hV.2.2.1
  have b10 : mset A 1 x2 th 10 = A 10 := mset_ne (by omega)
  have hc : (0 ≤ A 10 0 ∧ A 10 0 ≤ 16) ∧ (0 ≤ A 10 1 ∧ A 10 1 ≤ 6) := by have := hI.1; unfold Cnt at this; rw [b10] at this; omega
  have e11 : σ 11 x2 = th := by
    have := hV.2.1.2.1 x2 hr.1 (by rw [b10]; exact hr.2)
    rw [this, mset_self]
  have e12 : σ 1 12 = A 10 4 := by have := hV.1.1.2.2.2.2; rw [this, b10]
  rw [e11, e12]
  have ht99 : th ≤ 99 := by omega
  have hcase := hk x1 th hg.1 hg.2 ht.1 ht.2.1
  refine ⟨by omega, by omega, fun h => ⟨by omega, ?_, hV, hk, Fr.rf _ _⟩, fun h => ⟨_, tx, ⟨hV, by rw [b10]; have := hI.1; unfold Cnt at this; rw [b10] at this; omega, by rw [b10]; exact hg, by rw [b10]; exact hr⟩, ?_⟩⟩
  · rcases hcase with e | e
    · exact absurd e h
    · exact e
  intro u11 σ10 hu11 hO10 ⟨eu, hF10⟩
  have eu : u11 = skT A tx x1 x2 th := eu
  refine ⟨by omega, fun σ14 e14 => ⟨by omega, by rw [e14, mset_hit rfl]; exact eu, ?_, fun g t g0 g1 t0 t1 => ?_, by rw [e14]; exact (hF10.wk (by simp)).set (by simp)⟩⟩
  · exact (hV.fr (fr37 hF10)).fr (by rw [e14]; exact (Fr.rf _ _).set (by simp [ScrC]))
  · rw [e14]
    by_cases e : g * 100 + t = x1 * 100 + th
    · have : g = x1 ∧ t = th := by omega
      rw [this.1, this.2, mset_hit rfl]; exact .inr eu
    · rw [mset_miss e, hF10 50 (by simp)]; exact hk g t g0 g1 t0 t1)

theorem sp_X3_follow_n (d : Nat) (hd : 1 ≤ d) (σ : Mem) (hO : OKm σ) (x1 : Int) (hx1 : R32 x1) (x2 : Int) (hx2 : R32 x2) (x3 : Int) (hx3 : R32 x3) (hpre : False) : Mt yX3_follow cX3_follow 6 none d [aR 49, aI x1, aI x2, aI x3] σ (QV (fun σ' => True)) := hpre.elim
