def nbF (f : Int → Int) : Nat → Int → Int → Int
  | 0, _, a => a
  | n + 1, i, a => nbF f n (i + 1) (min 10000 (a * 10 + f i - 48))
def nbC (f : Int → Int) (a p : Int) : Int := nbF f (p - a).toNat a 0

def wp_X8_numberFrom (x1 : Int) (x2 : Int) (σ : Mem) (Q : Int → Mem → Prop) : Prop :=
 ∀ P5 : Int → Int → Int → Mem → Prop,
 (∀ (v2 : Int) (v3 : Int) (v4 : Int) (σ : Mem), (R32 v2 → R32 v3 → R32 v4 → OKm σ →
   ((v2 ≤ v4) →
     Q v3 σ) ∧
    ((v4 < v2) →
     (0 ≤ v4 ∧ v4 < 300) ∧
     R32 (((v3 * 10) + (σ 31 v4)) - 48) ∧
     ∀ y4 : Int, y4 = (min 10000 (((v3 * 10) + (σ 31 v4)) - 48)) →
     R32 (v4 + 1) ∧ P5 v2 y4 (v4 + 1) σ)) → P5 v2 v3 v4 σ) →
  P5 x2 0 x1 σ
theorem mt_X8_numberFrom {d : Nat} (hd : 0 ≤ d) {x1 : Int} {x2 : Int} {σ : Mem} {Q : Int → Mem → Prop} (hx1 : R32 x1) (hx2 : R32 x2) (hO : OKm σ) (h : wp_X8_numberFrom x1 x2 σ Q) : Mt yX8_numberFrom cX8_numberFrom 5 (some .int) d [aR (30), aI (x1), aI (x2)] σ (QI Q) := by
  refine Mt.intro (by decide +kernel) (Nat.le_of_ble_eq_true rfl) [(0, aR (30)), (1, aI (x1)), (2, aI (x2))] rfl ?_
  unfold wp_X8_numberFrom at h
  have h := h (fun (v2 : Int) (v3 : Int) (v4 : Int) (σ : Mem) => R32 v2 → R32 v3 → R32 v4 → OKm σ → G yX8_numberFrom cX8_numberFrom 5 (some .int) d (QI Q) 5 [(0, aR (30)), (2, aI (v2)), (3, aI (v3)), (4, aI (v4))] [] σ) ?_
  · refine G_iconst dX8_numberFrom_0 ?_
    refine G_istore_n (lv' := [(3, aI (0)), (0, aR (30)), (1, aI (x1)), (2, aI (x2))]) rfl rfl (by decide) dX8_numberFrom_1 ?_
    refine G_iload_n 2 rfl rfl dX8_numberFrom_2 ?_
    refine G_istore (lv' := [(4, aI (x1)), (3, aI (0)), (0, aR (30)), (1, aI (x1)), (2, aI (x2))]) rfl (by decide) dX8_numberFrom_3 ?_
    exact G_pick [2, 4, 1, 0] rfl (h hx2 (rL 0 rfl) hx1 hO)
  · intro v2 v3 v4 σ h hv2 hv3 hv4 hO
    have h := h hv2 hv3 hv4 hO
    refine G_iload 3 rfl dX8_numberFrom_5 ?_
    refine G_iload_n 1 rfl rfl dX8_numberFrom_7 ?_
    refine G_icmp_ge hv4 hv2 dX8_numberFrom_8 (tgt := 39) (by decide) (fun c1 => ?_) (fun c1 => ?_)
    · have h := h.1 c1
      refine G_iload_n 2 rfl rfl dX8_numberFrom_39 ?_
      exact G_iret rfl hv3 dX8_numberFrom_40 ⟨_, rfl, h⟩ hO
    · have h := h.2 c1
      refine G_sipush (by decide) dX8_numberFrom_11 ?_
      refine G_iload_n 2 rfl rfl dX8_numberFrom_14 ?_
      refine G_bipush (by decide) dX8_numberFrom_15 ?_
      refine G_imul dX8_numberFrom_17 ?_
      refine G_aload_n 0 rfl rfl dX8_numberFrom_18 ?_
      refine G_get (k := 0) (kd := (3, 1)) (v := aR (31)) gf_X8_9 rfl rfl rfl rfl dX8_numberFrom_19 ?_
      refine G_iload 3 rfl dX8_numberFrom_22 ?_
      obtain ⟨c2, h⟩ := h
      refine G_iald (n := 300) rfl c2.1 c2.2 dX8_numberFrom_24 ?_
      refine G_iadd dX8_numberFrom_25 ?_
      refine G_bipush (by decide) dX8_numberFrom_26 ?_
      refine G_isub dX8_numberFrom_28 ?_
      obtain ⟨c3, h⟩ := h
      refine G_mmin rfl (rL 10000 rfl) c3 (Nat.le_of_ble_eq_true rfl) sf_X8_76 dX8_numberFrom_29 ?_
      have h := h _ rfl
      refine G_istore_n (lv' := [(3, aI (((min 10000 (((v3 * 10) + (σ 31 v4)) - 48))))), (0, aR (30)), (2, aI (v2)), (4, aI (v4))]) rfl rfl (by decide) dX8_numberFrom_32 ?_
      refine G_iinc (lv' := [(4, aI ((v4 + 1))), (3, aI (((min 10000 (((v3 * 10) + (σ 31 v4)) - 48))))), (0, aR (30)), (2, aI (v2))]) (k := 3) rfl rfl (by decide) dX8_numberFrom_33 ?_
      refine G_goto (tgt := 5) dX8_numberFrom_36 (by decide) ?_
      obtain ⟨c5, h⟩ := h
      exact G_pick [2, 3, 1, 0] rfl (h hv2 (r32_min (rL 10000 rfl) c3) c5 hO)

theorem sp_X8_numberFrom (d : Nat) (hd : 0 ≤ d) (σ : Mem) (hO : OKm σ) (x1 : Int) (hx1 : R32 x1) (x2 : Int) (hx2 : R32 x2) (u : Unit) (hpre : 0 ≤ x1 ∧ x1 ≤ x2 ∧ x2 ≤ 300 ∧ (∀ i : Int, x1 ≤ i → i < x2 → 48 ≤ σ 31 i ∧ σ 31 i ≤ 57)) : Mt yX8_numberFrom cX8_numberFrom 5 (some .int) d [aR (30), aI (x1), aI (x2)] σ (QI (fun v σ' => v = nbC (σ 31) x1 x2 ∧ σ' = σ)) := mt_X8_numberFrom hd hx1 hx2 hO (by
  unfold wp_X8_numberFrom
  intro P5 h5
  obtain ⟨h1, h2, h3, hd⟩ := hpre
  have H : ∀ (n : Nat) (k a : Int), k + n = x2 → x1 ≤ k → (0 ≤ a ∧ a ≤ 10000) → nbF (σ 31) n k a = nbC (σ 31) x1 x2 → P5 x2 a k σ := by
    intro n
    induction n with
    | zero =>
      intro k a hk h0 ha he
      exact h5 _ _ _ _ (fun _ _ _ _ => ⟨fun _ => ⟨by rw [← he]; rfl, rfl⟩, fun h => absurd h (by omega)⟩)
    | succ n ih =>
      intro k a hk h0 ha he
      have hf := hd k h0 (by omega)
      refine h5 _ _ _ _ (fun _ _ _ _ => ⟨fun h => absurd h (by omega), fun _ => ⟨by omega, by unfold R32; omega, fun y e => ⟨by unfold R32; omega, ?_⟩⟩⟩)
      exact ih (k + 1) y (by omega) (by omega) (by rw [e]; omega) (by rw [← he, e]; rfl)
  exact H (x2 - x1).toNat x1 0 (by omega) (Int.le_refl _) (by omega) rfl)
