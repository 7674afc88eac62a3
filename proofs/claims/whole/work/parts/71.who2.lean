def whoS (A IA : Mem) (tx : Nat → Txt) (r : Int) : Int := if (0 ≤ r ∧ r < A 10 0) ∧ r < IA 10 0 then wayN (skM A tx r (IA 1 r)) (A 10 1).toNat (IA 1 r - A 1 r) else -1
theorem skM_r {A : Mem} {tx : Nat → Txt} {r th : Int} (hI : InvA A) (hr : 0 ≤ r ∧ r < A 10 0) (hth : 0 ≤ th ∧ th ≤ A 14 r) (g : Nat) : 0 ≤ skM A tx r th g ∧ skM A tx r th g ≤ 99 := by
  unfold skM; split
  · exact skT_r hI ⟨by omega, by assumption⟩ hr hth
  · omega
/-! the same, counted code by code -/
def dig (c g : Nat) : Int := ((c / 4 ^ g % 4 : Nat) : Int)
def csum (m : Nat → Int) : Nat → Nat → Int
  | 0, _ => 0
  | n + 1, c => csum m n c + dig c n * m n
def wcnt (m : Nat → Int) (n : Nat) (s : Int) : Nat → Int
  | 0 => 0
  | N + 1 => wcnt m n s N + if csum m n N = s then 1 else 0
theorem dig_r (c g : Nat) : 0 ≤ dig c g ∧ dig c g ≤ 3 := by unfold dig; omega
theorem dig_low {q n c g : Nat} (hg : g < n) : dig (q * 4 ^ n + c) g = dig c g := by
  unfold dig
  have e : q * 4 ^ n + c = c + 4 ^ g * (4 * (q * 4 ^ (n - g - 1))) := by
    rw [show 4 ^ n = 4 ^ g * (4 * 4 ^ (n - g - 1)) by rw [← Nat.pow_succ', ← Nat.pow_add]; congr 1; omega]
    rw [Nat.add_comm]; congr 1
    simp only [Nat.mul_comm, Nat.mul_left_comm, Nat.mul_assoc]
  rw [e, Nat.add_mul_div_left _ _ (Nat.pow_pos (by omega)), Nat.add_mul_mod_self_left]
theorem dig_top {q n c : Nat} (hq : q < 4) (hc : c < 4 ^ n) : dig (q * 4 ^ n + c) n = q := by
  unfold dig
  rw [Nat.add_comm, Nat.add_mul_div_right _ _ (Nat.pow_pos (by omega)), Nat.div_eq_of_lt hc, Nat.zero_add, Nat.mod_eq_of_lt hq]
theorem csum_low {m : Nat → Int} {q N c : Nat} : ∀ {n : Nat}, n ≤ N → csum m n (q * 4 ^ N + c) = csum m n c
  | 0, _ => rfl
  | n + 1, h => by unfold csum; rw [csum_low (by omega), dig_low (by omega)]
theorem csum_r {m : Nat → Int} (hm : ∀ g, 0 ≤ m g ∧ m g ≤ 99) (c : Nat) : ∀ n : Nat, 0 ≤ csum m n c ∧ csum m n c ≤ 297 * n
  | 0 => by simp [csum]
  | n + 1 => by
    have h1 := csum_r hm c n
    have h2 := dig_r c n
    have h3 := hm n
    have h4 : 0 ≤ dig c n * m n := Int.mul_nonneg h2.1 h3.1
    have h5 : dig c n * m n ≤ 3 * 99 := Int.mul_le_mul h2.2 h3.2 h3.1 (by omega)
    unfold csum; omega
theorem wcnt_r {m : Nat → Int} {n : Nat} {s : Int} : ∀ N : Nat, 0 ≤ wcnt m n s N ∧ wcnt m n s N ≤ N
  | 0 => by simp [wcnt]
  | N + 1 => by have := wcnt_r (m := m) (n := n) (s := s) N; unfold wcnt; split <;> omega
theorem wcnt_blk {m : Nat → Int} {n q : Nat} {s : Int} (hq : q < 4) : ∀ c : Nat, c ≤ 4 ^ n → wcnt m (n + 1) s (q * 4 ^ n + c) = wcnt m (n + 1) s (q * 4 ^ n) + wcnt m n (s - q * m n) c
  | 0, _ => by show wcnt m (n + 1) s (q * 4 ^ n) = wcnt m (n + 1) s (q * 4 ^ n) + 0; omega
  | c + 1, h => by
    have ih := wcnt_blk (m := m) (n := n) (s := s) hq c (by omega)
    show wcnt m (n + 1) s (q * 4 ^ n + c) + (if csum m (n + 1) (q * 4 ^ n + c) = s then 1 else 0) = _ + (wcnt m n (s - q * m n) c + if csum m n c = s - q * m n then 1 else 0)
    have e : csum m (n + 1) (q * 4 ^ n + c) = csum m n c + q * m n := by
      show csum m n (q * 4 ^ n + c) + dig (q * 4 ^ n + c) n * m n = _
      rw [csum_low (Nat.le_refl _), dig_top hq (by omega)]
    rw [ih, e]
    by_cases h : csum m n c + q * m n = s
    · rw [if_pos h, if_pos (by omega)]; omega
    · rw [if_neg h, if_neg (by omega)]; omega
theorem wcnt_all {m : Nat → Int} : ∀ (n : Nat) (s : Int), wcnt m n s (4 ^ n) = wayN m n s
  | 0, s => by
    show 0 + (if (0 : Int) = s then (1 : Int) else 0) = if s = 0 then 1 else 0
    by_cases h : s = 0
    · rw [if_pos h, if_pos h.symm]; rfl
    · rw [if_neg h, if_neg (fun q => h q.symm)]; rfl
  | n + 1, s => by
    have b := fun q (hq : q < 4) => wcnt_blk (m := m) (s := s) hq (4 ^ n) (Nat.le_refl _)
    have b0 := b 0 (by omega)
    have b1 := b 1 (by omega)
    have b2 := b 2 (by omega)
    have b3 := b 3 (by omega)
    rw [wcnt_all n] at b0 b1 b2 b3
    rw [show 0 * 4 ^ n + 4 ^ n = 1 * 4 ^ n by omega, show 0 * 4 ^ n = 0 by omega] at b0
    rw [show 1 * 4 ^ n + 4 ^ n = 2 * 4 ^ n by omega] at b1
    rw [show 2 * 4 ^ n + 4 ^ n = 3 * 4 ^ n by omega] at b2
    rw [show 3 * 4 ^ n + 4 ^ n = 4 ^ (n + 1) by rw [Nat.pow_succ]; omega] at b3
    rw [b3, b2, b1, b0]
    show 0 + wayN m n (s - ((0 : Nat) : Int) * m n) + wayN m n (s - ((1 : Nat) : Int) * m n) + wayN m n (s - ((2 : Nat) : Int) * m n) + wayN m n (s - ((3 : Nat) : Int) * m n) = wayN m n s + wayN m n (s - m n) + wayN m n (s - 2 * m n) + wayN m n (s - 3 * m n)
    rw [show s - ((0 : Nat) : Int) * m n = s by omega, show s - ((1 : Nat) : Int) * m n = s - m n by omega, show s - ((2 : Nat) : Int) * m n = s - 2 * m n by omega, show s - ((3 : Nat) : Int) * m n = s - 3 * m n by omega]
    omega
theorem dig_bits {c g : Nat} (hc : c < 4096) (hg : g < 6) : bAnd (bShr (c : Int) (2 * (g : Int))) 3 = dig c g := by
  have e1 : bShr (c : Int) (2 * (g : Int)) = ((c / 4 ^ g : Nat) : Int) := by
    have := bShr_nat (n := c) (k := 2 * g) (by omega) (by omega)
    rw [show (2 * (g : Int)) = ((2 * g : Nat) : Int) by omega, this, Nat.pow_mul]
  have hle : c / 4 ^ g ≤ c := Nat.div_le_self _ _
  rw [e1]
  have := bAnd_mod (x := ((c / 4 ^ g : Nat) : Int)) 2 (Int.natCast_nonneg _) (by omega) (by omega)
  have e3 : (2 : Int) ^ 2 - 1 = 3 := rfl
  rw [e3] at this
  rw [this]; unfold dig; omega
theorem shl_4 {n : Int} (h : 0 ≤ n ∧ n ≤ 6) : bShl 1 (2 * n) = ((4 ^ n.toNat : Nat) : Int) := by
  have := bShl_nat (n := 1) (k := 2 * n.toNat) (by omega) (by rw [Nat.pow_mul, Nat.one_mul]; have := pow4_le (n := n.toNat) (by omega); show 4 ^ n.toNat < _; omega)
  rw [show 2 * n = ((2 * n.toNat : Nat) : Int) by omega, show (1 : Int) = ((1 : Nat) : Int) by rfl, this, Nat.pow_mul, Nat.one_mul]

def wp_X3_waysToSuck (x1 : Int) (x2 : Int) (σ : Mem) (Q : Int → Mem → Prop) : Prop :=
 ∀ P57 : Int → Int → Int → Int → Mem → Prop,
 (∀ (v1 : Int) (v3 : Int) (v4 : Int) (v5 : Int) (σ : Mem), (R32 v1 → R32 v3 → R32 v4 → R32 v5 → OKm σ →
   (((σ 1 9) ≤ v5) →
     (0 ≤ v1 ∧ v1 < 16) ∧
     ∀ σ19 : Mem, σ19 = mset σ 11 v1 v4 →
     (0 ≤ v3 ∧ v3 < 100) ∧
     Q (σ19 53 v3) σ19) ∧
    ((v5 < (σ 1 9)) →
     ∃ g23 : Mem, ∃ g24 : Nat → Txt, (vwC σ g23 g24 ∧ (-1 ≤ (σ 1 12) ∧ (σ 1 12) < g23 10 2) ∧ (0 ≤ v5 ∧ v5 < g23 10 1) ∧ (0 ≤ v1 ∧ v1 < g23 10 0)) ∧
     ∀ (u29 : Int) (σ28 : Mem), R32 u29 → OKm σ28 → (u29 = skS g23 g24 (σ 1 12) v5 v1 ∧ Fr [37] σ σ28) →
     ∃ g31 : Nat → Int, ∃ g32 : Nat, ((∀ s : Int, 0 ≤ s → s ≤ v3 → σ28 53 s = wayN g31 g32 s) ∧ (∀ g, 0 ≤ g31 g) ∧ (0 ≤ u29 ∧ u29 ≤ 99 ∧ u29 = g31 g32) ∧ (0 ≤ v3 ∧ v3 ≤ 99) ∧ g32 ≤ 6) ∧
     ∀ σ36 : Mem, OKm σ36 → ((∀ s : Int, 0 ≤ s → s ≤ v3 → σ36 53 s = wayN g31 (g32 + 1) s) ∧ Fr [53] σ28 σ36) →
     R32 (v5 + 1) ∧ P57 v1 v3 v4 (v5 + 1) σ36)) → P57 v1 v3 v4 v5 σ) →
  (0 ≤ x1 ∧ x1 < 16) ∧
   R32 (x2 - (σ 11 x1)) ∧
   ((0 ≤ (x2 - (σ 11 x1))) →
    (0 ≤ x1 ∧ x1 < 16) ∧
    (0 ≤ x1 ∧ x1 < 16) ∧
    ∀ σ6 : Mem, σ6 = mset σ 11 x1 x2 →
    ∀ σ11 : Mem, OKm σ11 → ((∀ i : Int, 0 ≤ i → i < 100 → σ11 53 i = (0 : Int)) ∧ Fr [53] σ6 σ11) →
    ∀ σ14 : Mem, σ14 = mset σ11 53 0 1 →
    P57 x1 (x2 - (σ 11 x1)) (σ 11 x1) 0 σ14) ∧
   (((x2 - (σ 11 x1)) < 0) →
    Q 0 σ)
theorem mt_X3_waysToSuck {d : Nat} (hd : 4 ≤ d) {x1 : Int} {x2 : Int} {σ : Mem} {Q : Int → Mem → Prop} (hx1 : R32 x1) (hx2 : R32 x2) (hO : OKm σ) (h : wp_X3_waysToSuck x1 x2 σ Q) : Mt yX3_waysToSuck cX3_waysToSuck 6 (some .long) d [aR (49), aI (x1), aI (x2)] σ (QL Q) := by
  refine Mt.intro (by decide +kernel) (Nat.le_of_ble_eq_true rfl) [(0, aR (49)), (1, aI (x1)), (2, aI (x2))] rfl ?_
  unfold wp_X3_waysToSuck at h
  have h := h (fun (v1 : Int) (v3 : Int) (v4 : Int) (v5 : Int) (σ : Mem) => R32 v1 → R32 v3 → R32 v4 → R32 v5 → OKm σ → G yX3_waysToSuck cX3_waysToSuck 6 (some .long) d (QL Q) 57 [(0, aR (49)), (1, aI (v1)), (3, aI (v3)), (4, aI (v4)), (5, aI (v5))] [] σ) ?_
  · refine G_iload_n 2 rfl rfl dX3_waysToSuck_0 ?_
    refine G_aload_n 0 rfl rfl dX3_waysToSuck_1 ?_
    refine G_get (k := 1) (kd := (2, 10)) (v := aR 10) gf_X3_33 rfl rfl rfl rfl dX3_waysToSuck_2 ?_
    refine G_get (k := 0) (kd := (3, 1)) (v := aR (11)) gf_X3_41 rfl rfl rfl rfl dX3_waysToSuck_5 ?_
    refine G_iload_n 1 rfl rfl dX3_waysToSuck_8 ?_
    obtain ⟨c1, h⟩ := h
    refine G_iald (n := 16) rfl c1.1 c1.2 dX3_waysToSuck_9 ?_
    refine G_isub dX3_waysToSuck_10 ?_
    refine G_istore_n (lv' := [(3, aI ((x2 - (σ 11 x1)))), (0, aR (49)), (1, aI (x1)), (2, aI (x2))]) rfl rfl (by decide) dX3_waysToSuck_11 ?_
    refine G_iload_n 0 rfl rfl dX3_waysToSuck_12 ?_
    obtain ⟨c2, h⟩ := h
    refine G_if_ge c2 dX3_waysToSuck_13 (tgt := 18) (by decide) (fun c3 => ?_) (fun c3 => ?_)
    · have h := h.1 c3
      refine G_aload_n 1 rfl rfl dX3_waysToSuck_18 ?_
      refine G_get (k := 1) (kd := (2, 10)) (v := aR 10) gf_X3_33 rfl rfl rfl rfl dX3_waysToSuck_19 ?_
      refine G_get (k := 0) (kd := (3, 1)) (v := aR (11)) gf_X3_41 rfl rfl rfl rfl dX3_waysToSuck_22 ?_
      refine G_iload_n 2 rfl rfl dX3_waysToSuck_25 ?_
      obtain ⟨c4, h⟩ := h
      refine G_iald (n := 16) rfl c4.1 c4.2 dX3_waysToSuck_26 ?_
      refine G_istore (lv' := [(4, aI ((σ 11 x1))), (3, aI ((x2 - (σ 11 x1)))), (0, aR (49)), (1, aI (x1)), (2, aI (x2))]) rfl (by decide) dX3_waysToSuck_27 ?_
      refine G_aload_n 2 rfl rfl dX3_waysToSuck_29 ?_
      refine G_get (k := 1) (kd := (2, 10)) (v := aR 10) gf_X3_33 rfl rfl rfl rfl dX3_waysToSuck_30 ?_
      refine G_get (k := 0) (kd := (3, 1)) (v := aR (11)) gf_X3_41 rfl rfl rfl rfl dX3_waysToSuck_33 ?_
      refine G_iload_n 3 rfl rfl dX3_waysToSuck_36 ?_
      refine G_iload_n 4 rfl rfl dX3_waysToSuck_37 ?_
      obtain ⟨c5, h⟩ := h
      obtain ⟨σ6, e8⟩ : ∃ τ : Mem, τ = mset σ 11 x1 x2 := ⟨_, rfl⟩
      have h := h σ6 e8
      have o7 : OKm σ6 := by rw [e8]; exact OKm.seti hO _ _ _ hx2 (isLg_row (show shp 11 = (1, 16, []) from rfl) _)
      refine G_iast (n := 16) rfl c5.1 c5.2 dX3_waysToSuck_38 ?_
      rw [← e8]
      refine G_aload_n 2 rfl rfl dX3_waysToSuck_39 ?_
      refine G_get (k := 7) (kd := (3, 4)) (v := aR (53)) gf_X3_25 rfl rfl rfl rfl dX3_waysToSuck_40 ?_
      refine G_lconst (n := 0) (by decide) dX3_waysToSuck_43 ?_
      refine G_callS (as := [_, _]) cf_X3_80 rfl (sp_J7_fill_d0a16_w (d - 1) (by omega) _ o7 _ (rLL 0 rfl)) (by omega) rfl rfl (Nat.le_of_ble_eq_true rfl) dX3_waysToSuck_44 ?_
      rintro _ σ11 ⟨rfl, z13⟩ o10 r9
      have h := h _ o10 z13
      refine G_aload_n 2 rfl rfl dX3_waysToSuck_47 ?_
      refine G_get (k := 7) (kd := (3, 4)) (v := aR (53)) gf_X3_25 rfl rfl rfl rfl dX3_waysToSuck_48 ?_
      refine G_iconst dX3_waysToSuck_51 ?_
      refine G_lconst (n := 1) (by decide) dX3_waysToSuck_52 ?_
      obtain ⟨σ14, e16⟩ : ∃ τ : Mem, τ = mset σ11 53 0 1 := ⟨_, rfl⟩
      have h := h σ14 e16
      have o15 : OKm σ14 := by rw [e16]; exact OKm.setl o10 _ _ _ (rLL 1 rfl) (isLg_rowL (show shp 53 = (2, 100, []) from rfl) _)
      refine G_last (n := 100) rfl (by decide) (by decide) dX3_waysToSuck_53 ?_
      rw [← e16]
      refine G_iconst dX3_waysToSuck_54 ?_
      refine G_istore (lv' := [(5, aI (0)), (4, aI ((σ 11 x1))), (3, aI ((x2 - (σ 11 x1)))), (0, aR (49)), (1, aI (x1)), (2, aI (x2))]) rfl (by decide) dX3_waysToSuck_55 ?_
      exact G_pick [3, 4, 2, 1, 0] rfl (h hx1 c2 (OKm.i hO 11 x1 (isLg_row (show shp 11 = (1, 16, []) from rfl) _)) (rL 0 rfl) o15)
    · have h := h.2 c3
      refine G_lconst (n := 0) (by decide) dX3_waysToSuck_16 ?_
      exact G_lret rfl (rLL 0 rfl) dX3_waysToSuck_17 ⟨_, rfl, h⟩ hO
  · intro v1 v3 v4 v5 σ h hv1 hv3 hv4 hv5 hO
    have h := h hv1 hv3 hv4 hv5 hO
    refine G_iload 4 rfl dX3_waysToSuck_57 ?_
    refine G_aload_n 0 rfl rfl dX3_waysToSuck_59 ?_
    refine G_get (k := 0) (kd := (2, 1)) (v := aR 1) gf_X3_29 rfl rfl rfl rfl dX3_waysToSuck_60 ?_
    refine G_get (k := 9) (kd := (0, 0)) (v := aI (σ 1 9)) gf_X3_73 rfl rfl rfl rfl dX3_waysToSuck_63 ?_
    refine G_icmp_ge hv5 (OKm.i hO 1 9 rfl) dX3_waysToSuck_66 (tgt := 97) (by decide) (fun c17 => ?_) (fun c17 => ?_)
    · have h := h.1 c17
      refine G_aload_n 0 rfl rfl dX3_waysToSuck_97 ?_
      refine G_get (k := 1) (kd := (2, 10)) (v := aR 10) gf_X3_33 rfl rfl rfl rfl dX3_waysToSuck_98 ?_
      refine G_get (k := 0) (kd := (3, 1)) (v := aR (11)) gf_X3_41 rfl rfl rfl rfl dX3_waysToSuck_101 ?_
      refine G_iload_n 1 rfl rfl dX3_waysToSuck_104 ?_
      refine G_iload 3 rfl dX3_waysToSuck_105 ?_
      obtain ⟨c18, h⟩ := h
      obtain ⟨σ19, e21⟩ : ∃ τ : Mem, τ = mset σ 11 v1 v4 := ⟨_, rfl⟩
      have h := h σ19 e21
      have o20 : OKm σ19 := by rw [e21]; exact OKm.seti hO _ _ _ hv4 (isLg_row (show shp 11 = (1, 16, []) from rfl) _)
      refine G_iast (n := 16) rfl c18.1 c18.2 dX3_waysToSuck_107 ?_
      rw [← e21]
      refine G_aload_n 0 rfl rfl dX3_waysToSuck_108 ?_
      refine G_get (k := 7) (kd := (3, 4)) (v := aR (53)) gf_X3_25 rfl rfl rfl rfl dX3_waysToSuck_109 ?_
      refine G_iload_n 2 rfl rfl dX3_waysToSuck_112 ?_
      obtain ⟨c22, h⟩ := h
      refine G_lald (n := 100) rfl c22.1 c22.2 dX3_waysToSuck_113 ?_
      exact G_lret rfl (OKm.l o20 53 v3 (isLg_rowL (show shp 53 = (2, 100, []) from rfl) _)) dX3_waysToSuck_114 ⟨_, rfl, h⟩ o20
    · have h := h.2 c17
      refine G_aload_n 0 rfl rfl dX3_waysToSuck_69 ?_
      refine G_aload_n 0 rfl rfl dX3_waysToSuck_70 ?_
      refine G_get (k := 2) (kd := (2, 36)) (v := aR 36) gf_X3_37 rfl rfl rfl rfl dX3_waysToSuck_71 ?_
      refine G_aload_n 0 rfl rfl dX3_waysToSuck_74 ?_
      refine G_get (k := 0) (kd := (2, 1)) (v := aR 1) gf_X3_29 rfl rfl rfl rfl dX3_waysToSuck_75 ?_
      refine G_get (k := 12) (kd := (0, 0)) (v := aI (σ 1 12)) gf_X3_46 rfl rfl rfl rfl dX3_waysToSuck_78 ?_
      refine G_iload 4 rfl dX3_waysToSuck_81 ?_
      refine G_iload_n 1 rfl rfl dX3_waysToSuck_83 ?_
      obtain ⟨g23, g24, c25, h⟩ := h
      refine G_callV (as := [_, _, _]) cf_X3_51 rfl rfl rfl (sp_X2_sucking (d - 1) (by omega) _ hO _ (OKm.i hO 1 12 rfl) _ hv5 _ hv1 g23 g24 c25) (by omega) rfl rfl (Nat.le_of_ble_eq_true rfl) dX3_waysToSuck_84 ?_
      rintro _ σ28 ⟨u29, rfl, z30⟩ o27 r26
      have h := h _ _ (r26 _ rfl) o27 z30
      refine G_iload_n 2 rfl rfl dX3_waysToSuck_87 ?_
      obtain ⟨g31, g32, c33, h⟩ := h
      refine G_callV (as := [_, _]) cf_X3_83 rfl rfl rfl (sp_X3_addGoer (d - 1) (by omega) _ o27 _ (r26 _ rfl) _ hv3 g31 g32 c33) (by omega) rfl rfl (Nat.le_of_ble_eq_true rfl) dX3_waysToSuck_88 ?_
      rintro _ σ36 ⟨rfl, z38⟩ o35 r34
      have h := h _ o35 z38
      refine G_iinc (lv' := [(5, aI ((v5 + 1))), (0, aR (49)), (1, aI (v1)), (3, aI (v3)), (4, aI (v4))]) (k := 4) rfl rfl (by decide) dX3_waysToSuck_91 ?_
      refine G_goto (tgt := 57) dX3_waysToSuck_94 (by decide) ?_
      obtain ⟨c39, h⟩ := h
      exact G_pick [1, 2, 3, 4, 0] rfl (h hv1 hv3 hv4 c39 o35)

theorem sp_X3_waysToSuck (d : Nat) (hd : 4 ≤ d) (σ : Mem) (hO : OKm σ) (x1 : Int) (hx1 : R32 x1) (x2 : Int) (hx2 : R32 x2) (A : Mem) (tx : Nat → Txt) (hpre : vwC σ A tx ∧ (0 ≤ x1 ∧ x1 < A 10 0) ∧ (0 ≤ x2 ∧ x2 ≤ A 14 x1)) : Mt yX3_waysToSuck cX3_waysToSuck 6 (some .long) d [aR (49), aI (x1), aI (x2)] σ (QL (fun v σ' => v = wayN (skM A tx x1 x2) (A 10 1).toNat (x2 - A 1 x1) ∧ vwC σ' A tx ∧ Fr [11, 37, 53] σ σ')) := mt_X3_waysToSuck hd hx1 hx2 hO (by
  unfold wp_X3_waysToSuck
  intro P57 h57
  obtain ⟨hV, hr, hx2⟩ := hpre
  have hI := hV.2.2.1
  have hc := hI.1
  have k1 := hI.2.1 x1 hr.1 hr.2
  have e11 : σ 11 x1 = A 1 x1 := hV.2.1.2.1 x1 hr.1 hr.2
  rw [e11]
  have hm := skM_r (tx := tx) hI hr hx2
  have hinv : ∀ th : Int, 0 ≤ th ∧ th ≤ A 14 x1 → InvA (mset A 1 x1 th) := fun th h => hI.thick (fun _ _ => h)
  have b10 : mset A 1 x1 x2 10 = A 10 := mset_ne (by omega)
  have H : ∀ (n k : Nat) (τ : Mem), k + n = (A 10 1).toNat → (x2 - A 1 x1 ≥ 0) → vwC τ (mset A 1 x1 x2) tx → Fr [11, 37, 53] σ τ → (∀ s : Int, 0 ≤ s → s ≤ x2 - A 1 x1 → τ 53 s = wayN (skM A tx x1 x2) k s) → P57 x1 (x2 - A 1 x1) (A 1 x1) (k : Int) τ := by
    intro n
    induction n with
    | zero =>
      intro k τ hk hs hVt hF hw
      have f9 : τ 1 9 = A 10 1 := by rw [hVt.1.1.2.1, b10]
      refine h57 _ _ _ _ _ (fun _ _ _ _ _ => ⟨fun _ => ⟨by omega, fun σ19 e19 => ⟨by omega, ?_, ?_, by rw [e19]; exact hF.set (by simp)⟩⟩, fun h => absurd h (by omega)⟩)
      · rw [e19, mset_off (by omega), hw _ (by omega) (by omega)]
        congr 1
      · have := hVt.th (v := A 1 x1) (hinv _ (by omega))
        rw [e19]; rw [mset_id] at this; exact this
    | succ n ih =>
      intro k τ hk hs hVt hF hw
      have f9 : τ 1 9 = A 10 1 := by rw [hVt.1.1.2.1, b10]
      have f12 : τ 1 12 = A 10 4 := by have := hVt.1.1.2.2.2.2; rw [this, b10]
      refine h57 _ _ _ _ _ (fun _ _ _ _ _ => ⟨fun h => absurd h (by omega), fun _ => ?_⟩)
      rw [f12]
      refine ⟨_, tx, ⟨hVt, by rw [b10]; omega, by rw [b10]; omega, by rw [b10]; exact hr⟩, ?_⟩
      intro u29 σ28 hu29 hO28 ⟨eu29, hF28⟩
      have eu : u29 = skM A tx x1 x2 k := by
        have : u29 = skT A tx (k : Int) x1 x2 := eu29
        rw [this]; unfold skM; rw [if_pos (by omega)]
      refine ⟨skM A tx x1 x2, k, ⟨fun s s0 s1 => by rw [hF28 53 (by simp)]; exact hw s s0 s1, fun g => (hm g).1, by have := hm k; omega, by omega, by omega⟩, ?_⟩
      intro σ36 hO36 ⟨hw36, hF36⟩
      refine ⟨by unfold R32; omega, ?_⟩
      rw [show ((k : Int) + 1) = ((k + 1 : Nat) : Int) by omega]
      exact ih (k + 1) σ36 (by omega) hs ((hVt.fr (fr37 hF28)).fr (hF36.wk (by simp [ScrC]))) ((hF.tr (hF28.wk (by simp))).tr (hF36.wk (by simp))) hw36
  refine ⟨by omega, by unfold R32; omega, fun hs => ⟨by omega, by omega, ?_⟩, fun hs => ⟨?_, hV, Fr.rf _ _⟩⟩
  rotate_left
  · rw [wayN_neg (fun g => (hm g).1) _ _ hs]
  intro σ6 e6 σ11 hO11 ⟨hf, hF11⟩ σ14 e14
  refine H _ 0 σ14 (Nat.zero_add _) hs ?_ ?_ ?_
  · have h0 : vwC σ (mset A 1 x1 (A 1 x1)) tx := by rw [mset_id]; exact hV
    have h6 : vwC σ6 (mset A 1 x1 x2) tx := by rw [e6]; exact h0.th (hinv _ hx2)
    refine (h6.fr (hF11.wk (by simp [ScrC]))).fr (?_ : Fr ScrC σ11 σ14)
    rw [e14]; exact (Fr.rf _ _).set (by simp [ScrC])
  · rw [e14]; exact ((by rw [e6]; exact (Fr.rf _ _).set (by simp) : Fr [11, 37, 53] σ σ6).tr (hF11.wk (by simp))).set (by simp)
  · intro s s0 s1
    show _ = if s = 0 then (1 : Int) else 0
    rw [e14]
    by_cases e : s = 0
    · subst e; rw [mset_hit rfl, if_pos rfl]
    · rw [mset_miss e, if_neg e]; exact hf s s0 (by omega))

def wp_X11_who (x1 : Int) (σ : Mem) (Q : Int → Mem → Prop) : Prop :=
  ((¬ (0 ≤ x1 ∧ x1 < σ 1 8)) →
    Q (-1) σ) ∧
   ((0 ≤ x1 ∧ x1 < σ 1 8) →
    ((¬ (0 ≤ x1 ∧ x1 < σ 17 8)) →
     Q (-1) σ) ∧
    ((0 ≤ x1 ∧ x1 < σ 17 8) →
     (0 ≤ x1 ∧ x1 < 65) ∧
     ∃ g13 : Mem, ∃ g14 : Nat → Txt, (vwC σ g13 g14 ∧ (0 ≤ x1 ∧ x1 < g13 10 0) ∧ (0 ≤ (σ 26 x1) ∧ (σ 26 x1) ≤ g13 14 x1)) ∧
     ∀ (u19 : Int) (σ18 : Mem), R64 u19 → OKm σ18 → (u19 = wayN (skM g13 g14 x1 (σ 26 x1)) (g13 10 1).toNat ((σ 26 x1) - g13 1 x1) ∧ vwC σ18 g13 g14 ∧ Fr [11, 37, 53] σ σ18) →
     Q u19 σ18))
theorem mt_X11_who {d : Nat} (hd : 5 ≤ d) {x1 : Int} {σ : Mem} {Q : Int → Mem → Prop} (hx1 : R32 x1) (hO : OKm σ) (h : wp_X11_who x1 σ Q) : Mt yX11_who cX11_who 3 (some .long) d [aR (0), aI (x1)] σ (QL Q) := by
  refine Mt.intro (by decide +kernel) (Nat.le_of_ble_eq_true rfl) [(0, aR (0)), (1, aI (x1))] rfl ?_
  unfold wp_X11_who at h
  refine G_aload_n 0 rfl rfl dX11_who_0 ?_
  refine G_get (k := 0) (kd := (2, 1)) (v := aR 1) gf_X11_10 rfl rfl rfl rfl dX11_who_1 ?_
  refine G_iload_n 1 rfl rfl dX11_who_4 ?_
  refine G_callV (as := [_]) cf_X11_188 rfl rfl rfl (sp_X10_hasRoad (d - 1) (by omega) _ hO _ hx1) (by omega) rfl rfl (Nat.le_of_ble_eq_true rfl) dX11_who_5 ?_
  rintro _ _ ⟨_, rfl, rfl, rfl⟩ o2 r1
  refine G_if_eq (bI_R _) dX11_who_8 (tgt := 26) (by decide) (fun c3 => ?_) (fun c3 => ?_)
  · have h := h.1 ((bI_0 _).mp c3)
    refine G_iconst dX11_who_26 ?_
    refine G_istore_n (lv' := [(2, aI (0)), (0, aR (0)), (1, aI (x1))]) rfl rfl (by decide) dX11_who_27 ?_
    refine G_iload_n 0 rfl rfl dX11_who_28 ?_
    refine G_if_eq (rL 0 rfl) dX11_who_29 (tgt := 51) (by decide) (fun _ => ?_) (fun c4 => absurd c4 (by decide))
    refine G_ldc2 (n := (-1)) rfl (by decide) kc_X11_305 dX11_who_51 ?_
    exact G_lret rfl (rLL (-1) rfl) dX11_who_54 ⟨_, rfl, h⟩ hO
  · have h := h.2 (bI_ne c3)
    refine G_aload_n 0 rfl rfl dX11_who_11 ?_
    refine G_get (k := 3) (kd := (2, 17)) (v := aR 17) gf_X11_30 rfl rfl rfl rfl dX11_who_12 ?_
    refine G_iload_n 1 rfl rfl dX11_who_15 ?_
    refine G_callV (as := [_]) cf_X11_188 rfl rfl rfl (sp_X10_hasRoad_i (d - 1) (by omega) _ hO _ hx1) (by omega) rfl rfl (Nat.le_of_ble_eq_true rfl) dX11_who_16 ?_
    rintro _ _ ⟨_, rfl, rfl, rfl⟩ o6 r5
    refine G_if_eq (bI_R _) dX11_who_19 (tgt := 26) (by decide) (fun c7 => ?_) (fun c7 => ?_)
    · have h := h.1 ((bI_0 _).mp c7)
      refine G_iconst dX11_who_26 ?_
      refine G_istore_n (lv' := [(2, aI (0)), (0, aR (0)), (1, aI (x1))]) rfl rfl (by decide) dX11_who_27 ?_
      refine G_iload_n 0 rfl rfl dX11_who_28 ?_
      refine G_if_eq (rL 0 rfl) dX11_who_29 (tgt := 51) (by decide) (fun _ => ?_) (fun c8 => absurd c8 (by decide))
      refine G_ldc2 (n := (-1)) rfl (by decide) kc_X11_305 dX11_who_51 ?_
      exact G_lret rfl (rLL (-1) rfl) dX11_who_54 ⟨_, rfl, h⟩ hO
    · have h := h.2 (bI_ne c7)
      refine G_iconst dX11_who_22 ?_
      refine G_goto (tgt := 27) dX11_who_23 (by decide) ?_
      refine G_istore_n (lv' := [(2, aI (1)), (0, aR (0)), (1, aI (x1))]) rfl rfl (by decide) dX11_who_27 ?_
      refine G_iload_n 0 rfl rfl dX11_who_28 ?_
      refine G_if_eq (rL 1 rfl) dX11_who_29 (tgt := 51) (by decide) (fun c9 => absurd c9 (by decide)) (fun _ => ?_)
      refine G_aload_n 1 rfl rfl dX11_who_32 ?_
      refine G_get (k := 12) (kd := (2, 49)) (v := aR 49) gf_X11_94 rfl rfl rfl rfl dX11_who_33 ?_
      refine G_iload_n 2 rfl rfl dX11_who_36 ?_
      refine G_aload_n 1 rfl rfl dX11_who_37 ?_
      refine G_get (k := 4) (kd := (2, 26)) (v := aR 26) gf_X11_33 rfl rfl rfl rfl dX11_who_38 ?_
      refine G_iload_n 2 rfl rfl dX11_who_41 ?_
      obtain ⟨c10, h⟩ := h
      refine G_callS (as := [_, _]) cf_X11_297 rfl (sp_X6_thickIn (d - 1) (by omega) _ hO _ hx1 c10) (by omega) rfl rfl (Nat.le_of_ble_eq_true rfl) dX11_who_42 ?_
      rintro _ _ ⟨_, rfl, rfl, rfl⟩ o12 r11
      obtain ⟨g13, g14, c15, h⟩ := h
      refine G_callV (as := [_, _]) cf_X11_301 rfl rfl rfl (sp_X3_waysToSuck (d - 1) (by omega) _ hO _ hx1 _ (r11 _ rfl) g13 g14 c15) (by omega) rfl rfl (Nat.le_of_ble_eq_true rfl) dX11_who_45 ?_
      rintro _ σ18 ⟨u19, rfl, z20⟩ o17 r16
      have h := h _ _ (r16 _ rfl) o17 z20
      refine G_goto (tgt := 54) dX11_who_48 (by decide) ?_
      exact G_lret rfl (r16 _ rfl) dX11_who_54 ⟨_, rfl, h⟩ o17

theorem sp_X11_who (d : Nat) (hd : 5 ≤ d) (σ : Mem) (hO : OKm σ) (x1 : Int) (hx1 : R32 x1) (A : Mem) (tx : Nat → Txt) (IA : Mem) (IL : List Mem) (hpre : vwC σ A tx ∧ imgC σ IA IL ∧ (∀ r : Int, 0 ≤ r → r < IA 10 0 → 0 ≤ IA 1 r ∧ IA 1 r ≤ A 14 r)) : Mt yX11_who cX11_who 3 (some .long) d [aR (0), aI (x1)] σ (QL (fun v σ' => v = whoS A IA tx x1 ∧ vwC σ' A tx ∧ Fr [11, 37, 53] σ σ')) := mt_X11_who hd hx1 hO (by
  unfold wp_X11_who
  obtain ⟨hV, hM, hth⟩ := hpre
  have hI := hV.2.2.1
  have hc := hI.1
  have e8 : σ 1 8 = A 10 0 := hV.1.1.1
  have e17 : σ 17 8 = IA 10 0 := hM.1.1.1
  rw [e8, e17]
  unfold whoS
  refine ⟨fun h => ⟨by rw [if_neg (fun q => h q.1)], hV, Fr.rf _ _⟩, fun hr => ⟨fun h => ⟨by rw [if_neg (fun q => h ⟨by omega, q.2⟩)], hV, Fr.rf _ _⟩, fun hi => ⟨by omega, ?_⟩⟩⟩
  have e26 : σ 26 x1 = IA 1 x1 := by have := hM.2.1.2.1 x1 hr.1 hi.2; simpa using this
  rw [e26]
  refine ⟨A, tx, ⟨hV, hr, hth x1 hr.1 hi.2⟩, ?_⟩
  intro u σ1 hu hO1 ⟨eu, hV1, hF⟩
  exact ⟨by rw [if_pos ⟨hr, hi.2⟩]; exact eu, hV1, hF⟩)

def wp_X12_who (x1 : Int) (σ : Mem) (Q : Int → Mem → Prop) : Prop :=
 ∀ P65 : Int → Int → Int → Int → Mem → Prop,
 ∀ P118 : Int → Int → Int → Mem → Prop,
 ∀ P139 : Int → Int → Int → Int → Int → Mem → Prop,
 (∀ (v1 : Int) (v2 : Int) (v3 : Int) (v4 : Int) (σ : Mem), (R32 v1 → R32 v2 → R32 v3 → R32 v4 → OKm σ →
   (((σ 75 1) ≤ v4) →
     (0 ≤ (11 + v1) ∧ (11 + v1) < 2119) ∧
     ∀ σ17 : Mem, σ17 = mset σ 75 (11 + v1) v2 →
     P118 v3 0 0 σ17) ∧
    ((v4 < (σ 75 1)) →
     ∃ g20 : Mem, ∃ g21 : Nat → Txt, (vwM σ g20 g21 ∧ (-1 ≤ (σ 75 3) ∧ (σ 75 3) < g20 10 2) ∧ (0 ≤ v4 ∧ v4 < g20 10 1) ∧ (0 ≤ v1 ∧ v1 < g20 10 0)) ∧
     ∀ (u26 : Int) (σ25 : Mem), R32 u26 → OKm σ25 → (u26 = skS g20 g21 (σ 75 3) v4 v1 ∧ vwM σ25 g20 g21 ∧ Fr [80, 81, 82] σ σ25) →
     (0 ≤ v4 ∧ v4 < 7) ∧
     ∀ σ29 : Mem, σ29 = mset σ25 88 v4 u26 →
     R32 (v4 + 1) ∧ P65 v1 v2 v3 (v4 + 1) σ29)) → P65 v1 v2 v3 v4 σ) →
 (∀ (v3 : Int) (v4 : Int) (v6 : Int) (σ : Mem), (R32 v3 → R64 v4 → R32 v6 → OKm σ →
   (((bShl 1 (2 * (σ 75 1))) ≤ v6) →
     Q v4 σ) ∧
    ((v6 < (bShl 1 (2 * (σ 75 1)))) →
     P139 v3 v4 v6 0 0 σ)) → P118 v3 v4 v6 σ) →
 (∀ (v3 : Int) (v4 : Int) (v6 : Int) (v7 : Int) (v8 : Int) (σ : Mem), (R32 v3 → R64 v4 → R32 v6 → R32 v7 → R32 v8 → OKm σ →
   (((σ 75 1) ≤ v8) →
     ((v7 ≠ v3) →
      R64 (v4 + 0) ∧ R32 (v6 + 1) ∧ P118 v3 (v4 + 0) (v6 + 1) σ) ∧
     ((v7 = v3) →
      R64 (v4 + 1) ∧ R32 (v6 + 1) ∧ P118 v3 (v4 + 1) (v6 + 1) σ)) ∧
    ((v8 < (σ 75 1)) →
     (0 ≤ v8 ∧ v8 < 7) ∧
     R32 (v7 + ((bAnd (bShr v6 (2 * v8)) 3) * (σ 88 v8))) ∧
     ∀ y42 : Int, y42 = (v7 + ((bAnd (bShr v6 (2 * v8)) 3) * (σ 88 v8))) →
     R32 (v8 + 1) ∧ P139 v3 v4 v6 y42 (v8 + 1) σ)) → P139 v3 v4 v6 v7 v8 σ) →
  (0 ≤ σ 75 0) ∧
   ((¬ (0 ≤ x1 ∧ x1 < σ 75 0)) →
    Q (-1) σ) ∧
   ((0 ≤ x1 ∧ x1 < σ 75 0) →
    ((x1 < (σ 76 0)) →
     (0 ≤ (11 + x1) ∧ (11 + x1) < 2119) ∧
     (0 ≤ (11 + x1) ∧ (11 + x1) < 2119) ∧
     R32 ((σ 76 (11 + x1)) - (σ 75 (11 + x1))) ∧
     ∀ y9 : Int, y9 = ((σ 76 (11 + x1)) - (σ 75 (11 + x1))) →
     (0 ≤ (11 + x1) ∧ (11 + x1) < 2119) ∧
     (0 ≤ (11 + x1) ∧ (11 + x1) < 2119) ∧
     ∀ σ12 : Mem, σ12 = mset σ 75 (11 + x1) (σ 76 (11 + x1)) →
     P65 x1 (σ 75 (11 + x1)) y9 0 σ12) ∧
    (((σ 76 0) ≤ x1) →
     Q (-1) σ))
theorem mt_X12_who {d : Nat} (hd : 5 ≤ d) {x1 : Int} {σ : Mem} {Q : Int → Mem → Prop} (hx1 : R32 x1) (hO : OKm σ) (h : wp_X12_who x1 σ Q) : Mt yX12_who cX12_who 9 (some .long) d [aR (74), aI (x1)] σ (QL Q) := by
  refine Mt.intro (by decide +kernel) (Nat.le_of_ble_eq_true rfl) [(0, aR (74)), (1, aI (x1))] rfl ?_
  unfold wp_X12_who at h
  have h := h (fun (v1 : Int) (v2 : Int) (v3 : Int) (v4 : Int) (σ : Mem) => R32 v1 → R32 v2 → R32 v3 → R32 v4 → OKm σ → G yX12_who cX12_who 9 (some .long) d (QL Q) 65 [(0, aR (74)), (1, aI (v1)), (2, aI (v2)), (3, aI (v3)), (4, aI (v4))] [] σ)
    (fun (v3 : Int) (v4 : Int) (v6 : Int) (σ : Mem) => R32 v3 → R64 v4 → R32 v6 → OKm σ → G yX12_who cX12_who 9 (some .long) d (QL Q) 118 [(0, aR (74)), (3, aI (v3)), (4, aL (v4)), (6, aI (v6))] [] σ)
    (fun (v3 : Int) (v4 : Int) (v6 : Int) (v7 : Int) (v8 : Int) (σ : Mem) => R32 v3 → R64 v4 → R32 v6 → R32 v7 → R32 v8 → OKm σ → G yX12_who cX12_who 9 (some .long) d (QL Q) 139 [(0, aR (74)), (3, aI (v3)), (4, aL (v4)), (6, aI (v6)), (7, aI (v7)), (8, aI (v8))] [] σ) ?_ ?_ ?_
  · refine G_aload_n 0 rfl rfl dX12_who_0 ?_
    refine G_iload_n 1 rfl rfl dX12_who_1 ?_
    obtain ⟨c1, h⟩ := h
    refine G_callV (as := [_]) cf_X12_333 rfl rfl rfl (sp_X12_isRoad (d - 1) (by omega) _ hO _ hx1 c1) (by omega) rfl rfl (Nat.le_of_ble_eq_true rfl) dX12_who_2 ?_
    rintro _ _ ⟨_, rfl, rfl, rfl⟩ o3 r2
    refine G_if_eq (bI_R _) dX12_who_5 (tgt := 18) (by decide) (fun c4 => ?_) (fun c4 => ?_)
    · have h := h.1 ((bI_0 _).mp c4)
      refine G_ldc2 (n := (-1)) rfl (by decide) kc_X12_455 dX12_who_18 ?_
      exact G_lret rfl (rLL (-1) rfl) dX12_who_21 ⟨_, rfl, h⟩ hO
    · have h := h.2 (bI_ne c4)
      refine G_iload_n 1 rfl rfl dX12_who_8 ?_
      refine G_aload_n 0 rfl rfl dX12_who_9 ?_
      refine G_get (k := 1) (kd := (2, 76)) (v := aR 76) gf_X12_13 rfl rfl rfl rfl dX12_who_10 ?_
      refine G_iconst dX12_who_13 ?_
      refine G_iald (n := 2119) rfl (by decide) (by decide) dX12_who_14 ?_
      refine G_icmp_lt hx1 (OKm.i hO 76 0 (isLg_row (show shp 76 = (1, 2119, []) from rfl) _)) dX12_who_15 (tgt := 22) (by decide) (fun c5 => ?_) (fun c5 => ?_)
      · have h := h.1 c5
        refine G_aload_n 0 rfl rfl dX12_who_22 ?_
        refine G_get (k := 0) (kd := (2, 75)) (v := aR 75) gf_X12_7 rfl rfl rfl rfl dX12_who_23 ?_
        refine G_bipush (by decide) dX12_who_26 ?_
        refine G_iload_n 1 rfl rfl dX12_who_28 ?_
        refine G_iadd dX12_who_29 ?_
        obtain ⟨c6, h⟩ := h
        refine G_iald (n := 2119) rfl c6.1 c6.2 dX12_who_30 ?_
        refine G_istore_n (lv' := [(2, aI ((σ 75 (11 + x1)))), (0, aR (74)), (1, aI (x1))]) rfl rfl (by decide) dX12_who_31 ?_
        refine G_aload_n 1 rfl rfl dX12_who_32 ?_
        refine G_get (k := 1) (kd := (2, 76)) (v := aR 76) gf_X12_13 rfl rfl rfl rfl dX12_who_33 ?_
        refine G_bipush (by decide) dX12_who_36 ?_
        refine G_iload_n 2 rfl rfl dX12_who_38 ?_
        refine G_iadd dX12_who_39 ?_
        obtain ⟨c7, h⟩ := h
        refine G_iald (n := 2119) rfl c7.1 c7.2 dX12_who_40 ?_
        refine G_iload_n 0 rfl rfl dX12_who_41 ?_
        refine G_isub dX12_who_42 ?_
        obtain ⟨c8, h⟩ := h
        have h := h _ rfl
        refine G_istore_n (lv' := [(3, aI ((((σ 76 (11 + x1)) - (σ 75 (11 + x1)))))), (2, aI ((σ 75 (11 + x1)))), (0, aR (74)), (1, aI (x1))]) rfl rfl (by decide) dX12_who_43 ?_
        refine G_aload_n 2 rfl rfl dX12_who_44 ?_
        refine G_get (k := 0) (kd := (2, 75)) (v := aR 75) gf_X12_7 rfl rfl rfl rfl dX12_who_45 ?_
        refine G_bipush (by decide) dX12_who_48 ?_
        refine G_iload_n 3 rfl rfl dX12_who_50 ?_
        refine G_iadd dX12_who_51 ?_
        refine G_aload_n 2 rfl rfl dX12_who_52 ?_
        refine G_get (k := 1) (kd := (2, 76)) (v := aR 76) gf_X12_13 rfl rfl rfl rfl dX12_who_53 ?_
        refine G_bipush (by decide) dX12_who_56 ?_
        refine G_iload_n 3 rfl rfl dX12_who_58 ?_
        refine G_iadd dX12_who_59 ?_
        obtain ⟨c10, h⟩ := h
        refine G_iald (n := 2119) rfl c10.1 c10.2 dX12_who_60 ?_
        obtain ⟨c11, h⟩ := h
        obtain ⟨σ12, e14⟩ : ∃ τ : Mem, τ = mset σ 75 (11 + x1) (σ 76 (11 + x1)) := ⟨_, rfl⟩
        have h := h σ12 e14
        have o13 : OKm σ12 := by rw [e14]; exact OKm.seti hO _ _ _ (OKm.i hO 76 (11 + x1) (isLg_row (show shp 76 = (1, 2119, []) from rfl) _)) (isLg_row (show shp 75 = (1, 2119, []) from rfl) _)
        refine G_iast (n := 2119) rfl c11.1 c11.2 dX12_who_61 ?_
        rw [← e14]
        refine G_iconst dX12_who_62 ?_
        refine G_istore (lv' := [(4, aI (0)), (3, aI ((((σ 76 (11 + x1)) - (σ 75 (11 + x1)))))), (2, aI ((σ 75 (11 + x1)))), (0, aR (74)), (1, aI (x1))]) rfl (by decide) dX12_who_63 ?_
        exact G_pick [3, 4, 2, 1, 0] rfl (h hx1 (OKm.i hO 75 (11 + x1) (isLg_row (show shp 75 = (1, 2119, []) from rfl) _)) c8 (rL 0 rfl) o13)
      · have h := h.2 c5
        refine G_ldc2 (n := (-1)) rfl (by decide) kc_X12_455 dX12_who_18 ?_
        exact G_lret rfl (rLL (-1) rfl) dX12_who_21 ⟨_, rfl, h⟩ hO
  · intro v1 v2 v3 v4 σ h hv1 hv2 hv3 hv4 hO
    have h := h hv1 hv2 hv3 hv4 hO
    refine G_iload 4 rfl dX12_who_65 ?_
    refine G_aload_n 0 rfl rfl dX12_who_67 ?_
    refine G_get (k := 0) (kd := (2, 75)) (v := aR 75) gf_X12_7 rfl rfl rfl rfl dX12_who_68 ?_
    refine G_iconst dX12_who_71 ?_
    refine G_iald (n := 2119) rfl (by decide) (by decide) dX12_who_72 ?_
    refine G_icmp_ge hv4 (OKm.i hO 75 1 (isLg_row (show shp 75 = (1, 2119, []) from rfl) _)) dX12_who_73 (tgt := 102) (by decide) (fun c15 => ?_) (fun c15 => ?_)
    · have h := h.1 c15
      refine G_aload_n 0 rfl rfl dX12_who_102 ?_
      refine G_get (k := 0) (kd := (2, 75)) (v := aR 75) gf_X12_7 rfl rfl rfl rfl dX12_who_103 ?_
      refine G_bipush (by decide) dX12_who_106 ?_
      refine G_iload_n 1 rfl rfl dX12_who_108 ?_
      refine G_iadd dX12_who_109 ?_
      refine G_iload_n 2 rfl rfl dX12_who_110 ?_
      obtain ⟨c16, h⟩ := h
      obtain ⟨σ17, e19⟩ : ∃ τ : Mem, τ = mset σ 75 (11 + v1) v2 := ⟨_, rfl⟩
      have h := h σ17 e19
      have o18 : OKm σ17 := by rw [e19]; exact OKm.seti hO _ _ _ hv2 (isLg_row (show shp 75 = (1, 2119, []) from rfl) _)
      refine G_iast (n := 2119) rfl c16.1 c16.2 dX12_who_111 ?_
      rw [← e19]
      refine G_lconst (n := 0) (by decide) dX12_who_112 ?_
      refine G_lstore (lv' := [(4, aL (0)), (0, aR (74)), (1, aI (v1)), (2, aI (v2)), (3, aI (v3))]) rfl (by decide) dX12_who_113 ?_
      refine G_iconst dX12_who_115 ?_
      refine G_istore (lv' := [(6, aI (0)), (4, aL (0)), (0, aR (74)), (1, aI (v1)), (2, aI (v2)), (3, aI (v3))]) rfl (by decide) dX12_who_116 ?_
      exact G_pick [2, 5, 1, 0] rfl (h hv3 (rLL 0 rfl) (rL 0 rfl) o18)
    · have h := h.2 c15
      refine G_aload_n 0 rfl rfl dX12_who_76 ?_
      refine G_get (k := 30) (kd := (2, 88)) (v := aR 88) gf_X12_62 rfl rfl rfl rfl dX12_who_77 ?_
      refine G_iload 4 rfl dX12_who_80 ?_
      refine G_aload_n 0 rfl rfl dX12_who_82 ?_
      refine G_aload_n 0 rfl rfl dX12_who_83 ?_
      refine G_get (k := 0) (kd := (2, 75)) (v := aR 75) gf_X12_7 rfl rfl rfl rfl dX12_who_84 ?_
      refine G_iconst dX12_who_87 ?_
      refine G_iald (n := 2119) rfl (by decide) (by decide) dX12_who_88 ?_
      refine G_iload 4 rfl dX12_who_89 ?_
      refine G_iload_n 1 rfl rfl dX12_who_91 ?_
      obtain ⟨g20, g21, c22, h⟩ := h
      refine G_callV (as := [_, _, _]) cf_X12_327 rfl rfl rfl (sp_X12_sucksOf (d - 1) (by omega) _ hO _ (OKm.i hO 75 3 (isLg_row (show shp 75 = (1, 2119, []) from rfl) _)) _ hv4 _ hv1 g20 g21 c22) (by omega) rfl rfl (Nat.le_of_ble_eq_true rfl) dX12_who_92 ?_
      rintro _ σ25 ⟨u26, rfl, z27⟩ o24 r23
      have h := h _ _ (r23 _ rfl) o24 z27
      obtain ⟨c28, h⟩ := h
      obtain ⟨σ29, e31⟩ : ∃ τ : Mem, τ = mset σ25 88 v4 u26 := ⟨_, rfl⟩
      have h := h σ29 e31
      have o30 : OKm σ29 := by rw [e31]; exact OKm.seti o24 _ _ _ (r23 _ rfl) (isLg_row (show shp 88 = (1, 7, []) from rfl) _)
      refine G_iast (n := 7) rfl c28.1 c28.2 dX12_who_95 ?_
      rw [← e31]
      refine G_iinc (lv' := [(4, aI ((v4 + 1))), (0, aR (74)), (1, aI (v1)), (2, aI (v2)), (3, aI (v3))]) (k := 4) rfl rfl (by decide) dX12_who_96 ?_
      refine G_goto (tgt := 65) dX12_who_99 (by decide) ?_
      obtain ⟨c32, h⟩ := h
      exact G_pick [1, 2, 3, 4, 0] rfl (h hv1 hv2 hv3 c32 o30)
  · intro v3 v4 v6 σ h hv3 hv4 hv6 hO
    have h := h hv3 hv4 hv6 hO
    refine G_iload 3 rfl dX12_who_118 ?_
    refine G_iconst dX12_who_120 ?_
    refine G_iconst dX12_who_121 ?_
    refine G_aload_n 0 rfl rfl dX12_who_122 ?_
    refine G_get (k := 0) (kd := (2, 75)) (v := aR 75) gf_X12_7 rfl rfl rfl rfl dX12_who_123 ?_
    refine G_iconst dX12_who_126 ?_
    refine G_iald (n := 2119) rfl (by decide) (by decide) dX12_who_127 ?_
    refine G_imul dX12_who_128 ?_
    refine G_ishl dX12_who_129 ?_
    refine G_icmp_ge hv6 (r32_of _) dX12_who_130 (tgt := 200) (by decide) (fun c33 => ?_) (fun c33 => ?_)
    · have h := h.1 c33
      refine G_lload 2 rfl dX12_who_200 ?_
      exact G_lret rfl hv4 dX12_who_202 ⟨_, rfl, h⟩ hO
    · have h := h.2 c33
      refine G_iconst dX12_who_133 ?_
      refine G_istore (lv' := [(7, aI (0)), (0, aR (74)), (3, aI (v3)), (4, aL (v4)), (6, aI (v6))]) rfl (by decide) dX12_who_134 ?_
      refine G_iconst dX12_who_136 ?_
      refine G_istore (lv' := [(8, aI (0)), (7, aI (0)), (0, aR (74)), (3, aI (v3)), (4, aL (v4)), (6, aI (v6))]) rfl (by decide) dX12_who_137 ?_
      exact G_pick [2, 3, 4, 5, 1, 0] rfl (h hv3 hv4 hv6 (rL 0 rfl) (rL 0 rfl) hO)
  · intro v3 v4 v6 v7 v8 σ h hv3 hv4 hv6 hv7 hv8 hO
    have h := h hv3 hv4 hv6 hv7 hv8 hO
    refine G_iload 5 rfl dX12_who_139 ?_
    refine G_aload_n 0 rfl rfl dX12_who_141 ?_
    refine G_get (k := 0) (kd := (2, 75)) (v := aR 75) gf_X12_7 rfl rfl rfl rfl dX12_who_142 ?_
    refine G_iconst dX12_who_145 ?_
    refine G_iald (n := 2119) rfl (by decide) (by decide) dX12_who_146 ?_
    refine G_icmp_ge hv8 (OKm.i hO 75 1 (isLg_row (show shp 75 = (1, 2119, []) from rfl) _)) dX12_who_147 (tgt := 178) (by decide) (fun c34 => ?_) (fun c34 => ?_)
    · have h := h.1 c34
      refine G_lload 2 rfl dX12_who_178 ?_
      refine G_iload 4 rfl dX12_who_180 ?_
      refine G_iload_n 1 rfl rfl dX12_who_182 ?_
      refine G_icmp_ne hv7 hv3 dX12_who_183 (tgt := 190) (by decide) (fun c35 => ?_) (fun c35 => ?_)
      · have h := h.1 c35
        refine G_lconst (n := 0) (by decide) dX12_who_190 ?_
        refine G_ladd dX12_who_191 ?_
        refine G_lstore (lv' := [(4, aL ((v4 + 0))), (0, aR (74)), (3, aI (v3)), (6, aI (v6)), (7, aI (v7)), (8, aI (v8))]) rfl (by decide) dX12_who_192 ?_
        refine G_iinc (lv' := [(6, aI ((v6 + 1))), (4, aL ((v4 + 0))), (0, aR (74)), (3, aI (v3)), (7, aI (v7)), (8, aI (v8))]) (k := 3) rfl rfl (by decide) dX12_who_194 ?_
        refine G_goto (tgt := 118) dX12_who_197 (by decide) ?_
        obtain ⟨c36, h⟩ := h
        obtain ⟨c37, h⟩ := h
        exact G_pick [2, 3, 1, 0] rfl (h hv3 c36 c37 hO)
      · have h := h.2 c35
        refine G_lconst (n := 1) (by decide) dX12_who_186 ?_
        refine G_goto (tgt := 191) dX12_who_187 (by decide) ?_
        refine G_ladd dX12_who_191 ?_
        refine G_lstore (lv' := [(4, aL ((v4 + 1))), (0, aR (74)), (3, aI (v3)), (6, aI (v6)), (7, aI (v7)), (8, aI (v8))]) rfl (by decide) dX12_who_192 ?_
        refine G_iinc (lv' := [(6, aI ((v6 + 1))), (4, aL ((v4 + 1))), (0, aR (74)), (3, aI (v3)), (7, aI (v7)), (8, aI (v8))]) (k := 3) rfl rfl (by decide) dX12_who_194 ?_
        refine G_goto (tgt := 118) dX12_who_197 (by decide) ?_
        obtain ⟨c38, h⟩ := h
        obtain ⟨c39, h⟩ := h
        exact G_pick [2, 3, 1, 0] rfl (h hv3 c38 c39 hO)
    · have h := h.2 c34
      refine G_iload 4 rfl dX12_who_150 ?_
      refine G_iload 3 rfl dX12_who_152 ?_
      refine G_iconst dX12_who_154 ?_
      refine G_iload 5 rfl dX12_who_155 ?_
      refine G_imul dX12_who_157 ?_
      refine G_ishr dX12_who_158 ?_
      refine G_iconst dX12_who_159 ?_
      refine G_iand dX12_who_160 ?_
      refine G_aload_n 0 rfl rfl dX12_who_161 ?_
      refine G_get (k := 30) (kd := (2, 88)) (v := aR 88) gf_X12_62 rfl rfl rfl rfl dX12_who_162 ?_
      refine G_iload 5 rfl dX12_who_165 ?_
      obtain ⟨c40, h⟩ := h
      refine G_iald (n := 7) rfl c40.1 c40.2 dX12_who_167 ?_
      refine G_imul dX12_who_168 ?_
      refine G_iadd dX12_who_169 ?_
      obtain ⟨c41, h⟩ := h
      have h := h _ rfl
      refine G_istore (lv' := [(7, aI (((v7 + ((bAnd (bShr v6 (2 * v8)) 3) * (σ 88 v8)))))), (0, aR (74)), (3, aI (v3)), (4, aL (v4)), (6, aI (v6)), (8, aI (v8))]) rfl (by decide) dX12_who_170 ?_
      refine G_iinc (lv' := [(8, aI ((v8 + 1))), (7, aI (((v7 + ((bAnd (bShr v6 (2 * v8)) 3) * (σ 88 v8)))))), (0, aR (74)), (3, aI (v3)), (4, aL (v4)), (6, aI (v6))]) (k := 5) rfl rfl (by decide) dX12_who_172 ?_
      refine G_goto (tgt := 139) dX12_who_175 (by decide) ?_
      obtain ⟨c43, h⟩ := h
      exact G_pick [2, 3, 4, 5, 1, 0] rfl (h hv3 hv4 hv6 c41 c43 hO)

theorem sp_X12_who (d : Nat) (hd : 5 ≤ d) (σ : Mem) (hO : OKm σ) (x1 : Int) (hx1 : R32 x1) (A : Mem) (tx : Nat → Txt) (IA : Mem) (IL : List Mem) (hpre : vwM σ A tx ∧ imgM σ IA IL ∧ (∀ r : Int, 0 ≤ r → r < IA 10 0 → 0 ≤ IA 1 r ∧ IA 1 r ≤ A 14 r)) : Mt yX12_who cX12_who 9 (some .long) d [aR (74), aI (x1)] σ (QL (fun v σ' => v = whoS A IA tx x1 ∧ vwM σ' A tx ∧ (∀ j : Int, j ≠ 11 + x1 → σ' 75 j = σ 75 j) ∧ Fr [75, 80, 81, 82, 88] σ σ')) := mt_X12_who hd hx1 hO (by
  unfold wp_X12_who
  intro P65 P118 P139 h65 h118 h139
  obtain ⟨hV, hM, hth⟩ := hpre
  have hI := hV.2.2.1
  have hc := hI.1
  have e0 : σ 75 0 = A 10 0 := hV.1.1.1
  have e76 : σ 76 0 = IA 10 0 := hM.1.1.1
  rw [e0, e76]
  have no : ¬ ((0 ≤ x1 ∧ x1 < A 10 0) ∧ x1 < IA 10 0) → (-1 : Int) = whoS A IA tx x1 ∧ vwM σ A tx ∧ (∀ j : Int, j ≠ 11 + x1 → σ 75 j = σ 75 j) ∧ Fr [75, 80, 81, 82, 88] σ σ := fun h => ⟨by unfold whoS; rw [if_neg h], hV, fun _ _ => rfl, Fr.rf _ _⟩
  refine ⟨by omega, fun h => no (fun q => h q.1), fun hr => ⟨fun hi => ?_, fun h => no (fun q => by omega)⟩⟩
  have k1 := hI.2.1 x1 hr.1 hr.2
  have hx2 := hth x1 hr.1 hi
  have e11 : σ 75 (11 + x1) = A 1 x1 := hV.2.1.2.1 x1 hr.1 hr.2
  have f11 : σ 76 (11 + x1) = IA 1 x1 := hM.2.1.2.1 x1 hr.1 hi
  rw [e11, f11]
  have hm := skM_r (tx := tx) hI hr hx2
  have hinv : ∀ th : Int, 0 ≤ th ∧ th ≤ A 14 x1 → InvA (mset A 1 x1 th) := fun th h => hI.thick (fun _ _ => h)
  have b10 : mset A 1 x1 (IA 1 x1) 10 = A 10 := mset_ne (by omega)
  have ew : whoS A IA tx x1 = wayN (skM A tx x1 (IA 1 x1)) (A 10 1).toNat (IA 1 x1 - A 1 x1) := by unfold whoS; rw [if_pos ⟨hr, hi⟩]
  rw [ew, ← wcnt_all] at h118
  have hmk : ∀ k : Nat, (k : Int) < A 10 1 → skM A tx x1 (IA 1 x1) k = skT A tx (k : Int) x1 (IA 1 x1) := fun k h => by unfold skM; rw [if_pos h]
  generalize skM A tx x1 (IA 1 x1) = m at *
  generalize hD : IA 1 x1 - A 1 x1 = D at *
  have h4 := pow4_le (n := (A 10 1).toNat) (by omega)
  have H139 : ∀ (c : Nat) (τ : Mem), vwM τ A tx → (∀ g : Nat, g < (A 10 1).toNat → τ 88 (g : Int) = m g) → c < 4 ^ (A 10 1).toNat → P118 D (wcnt m (A 10 1).toNat D (c + 1)) ((c + 1 : Nat) : Int) τ → ∀ (n k : Nat), k + n = (A 10 1).toNat → P139 D (wcnt m (A 10 1).toNat D c) (c : Int) (csum m k c) (k : Int) τ := by
    intro c τ hVt h88 hcl hgo n
    have f1 : τ 75 1 = A 10 1 := hVt.1.1.2.1
    have hw := wcnt_r (m := m) (n := (A 10 1).toNat) (s := D) c
    induction n with
    | zero =>
      intro k hk
      refine h139 _ _ _ _ _ _ (fun _ _ _ _ _ _ => ⟨fun _ => ⟨fun h => ⟨by unfold R64; omega, by unfold R32; omega, ?_⟩, fun h => ⟨by unfold R64; omega, by unfold R32; omega, ?_⟩⟩, fun h => absurd h (by omega)⟩)
      · have : wcnt m (A 10 1).toNat D (c + 1) = wcnt m (A 10 1).toNat D c + 0 := by
          show _ + (if csum m (A 10 1).toNat c = D then (1 : Int) else 0) = _
          rw [if_neg]; rw [← hk]; exact h
        rw [← this]; exact hgo
      · have : wcnt m (A 10 1).toNat D (c + 1) = wcnt m (A 10 1).toNat D c + 1 := by
          show _ + (if csum m (A 10 1).toNat c = D then (1 : Int) else 0) = _
          rw [if_pos]; rw [← hk]; exact h
        rw [← this]; exact hgo
    | succ n ih =>
      intro k hk
      have hcs := csum_r hm c k
      have hcs1 := csum_r hm c (k + 1)
      refine h139 _ _ _ _ _ _ (fun _ _ _ _ _ _ => ⟨fun h => absurd h (by omega), fun _ => ?_⟩)
      rw [dig_bits (by omega) (by omega), h88 k (by omega)]
      refine ⟨by omega, ?_, fun y e => ⟨by unfold R32; omega, ?_⟩⟩
      · show R32 (csum m (k + 1) c); unfold R32; omega
      · rw [e]; exact ih (k + 1) (by omega)
  have H118 : ∀ (τ : Mem), vwM τ A tx → (∀ j : Int, j ≠ 11 + x1 → τ 75 j = σ 75 j) → (∀ g : Nat, g < (A 10 1).toNat → τ 88 (g : Int) = m g) → Fr [75, 80, 81, 82, 88] σ τ → ∀ (n c : Nat), c + n = 4 ^ (A 10 1).toNat → P118 D (wcnt m (A 10 1).toNat D c) (c : Int) τ := by
    intro τ hVt hj h88 hF n
    have f1 : τ 75 1 = A 10 1 := hVt.1.1.2.1
    induction n with
    | zero =>
      intro c hk
      refine h118 _ _ _ _ (fun _ _ _ _ => ?_)
      rw [f1, shl_4 (by omega)]
      refine ⟨fun _ => ⟨?_, hVt, hj, hF⟩, fun h => absurd h (by omega)⟩
      rw [← hk]; rfl
    | succ n ih =>
      intro c hk
      refine h118 _ _ _ _ (fun _ _ _ _ => ?_)
      rw [f1, shl_4 (by omega)]
      refine ⟨fun h => absurd h (by omega), fun _ => ?_⟩
      exact H139 c τ hVt h88 (by omega) (ih (c + 1) (by omega)) _ 0 (Nat.zero_add _)
  refine ⟨by omega, by omega, by unfold R32; omega, fun y9 e9 => ⟨by omega, by omega, fun σ12 e12 => ?_⟩⟩
  rw [e9]
  have H65 : ∀ (n k : Nat) (τ : Mem), k + n = (A 10 1).toNat → vwM τ (mset A 1 x1 (IA 1 x1)) tx → (∀ j : Int, j ≠ 11 + x1 → τ 75 j = σ 75 j) → (∀ g : Nat, g < k → τ 88 (g : Int) = m g) → Fr [75, 80, 81, 82, 88] σ τ → P65 x1 (A 1 x1) D (k : Int) τ := by
    intro n
    induction n with
    | zero =>
      intro k τ hk hVt hj h88 hF
      have f1 : τ 75 1 = A 10 1 := by rw [hVt.1.1.2.1, b10]
      refine h65 _ _ _ _ _ (fun _ _ _ _ _ => ⟨fun _ => ⟨by omega, fun σ17 e17 => ?_⟩, fun h => absurd h (by omega)⟩)
      refine H118 σ17 ?_ (fun j h => by rw [e17, mset_miss h]; exact hj j h) (fun g hg => by rw [e17, mset_off (by omega)]; exact h88 g (by omega)) (by rw [e17]; exact hF.set (by simp)) _ 0 (Nat.zero_add _)
      have := hVt.th (v := A 1 x1) (by omega) (hinv _ (by omega))
      rw [e17]; rw [mset_id] at this; exact this
    | succ n ih =>
      intro k τ hk hVt hj h88 hF
      have f1 : τ 75 1 = A 10 1 := by rw [hVt.1.1.2.1, b10]
      have f3 : τ 75 3 = A 10 4 := by rw [vwM_tx hVt, b10]
      refine h65 _ _ _ _ _ (fun _ _ _ _ _ => ⟨fun h => absurd h (by omega), fun _ => ?_⟩)
      rw [f3]
      refine ⟨_, tx, ⟨hVt, by rw [b10]; omega, by rw [b10]; omega, by rw [b10]; exact hr⟩, ?_⟩
      intro u26 σ25 hu26 hO25 ⟨eu26, hV25, hF25⟩
      have eu : u26 = m k := by
        have : u26 = skT A tx (k : Int) x1 (IA 1 x1) := eu26
        rw [this, hmk k (by omega)]
      refine ⟨by omega, fun σ29 e29 => ⟨by unfold R32; omega, ?_⟩⟩
      rw [show ((k : Int) + 1) = ((k + 1 : Nat) : Int) by omega]
      refine ih (k + 1) σ29 (by omega) (hV25.fr (by rw [e29]; exact (Fr.rf _ _).set (by simp [ScrM]))) (fun j h => by rw [e29, mset_off (by omega), hF25 75 (by simp)]; exact hj j h) (fun g hg => ?_) (by rw [e29]; exact (hF.tr (hF25.wk (by simp))).set (by simp))
      rw [e29]
      by_cases e : g = k
      · subst e; rw [mset_hit rfl, eu]
      · rw [mset_miss (by omega), hF25 88 (by simp)]; exact h88 g (by omega)
  refine H65 _ 0 σ12 (Nat.zero_add _) ?_ (fun j h => by rw [e12, mset_miss h]) (fun g hg => absurd hg (by omega)) (by rw [e12]; exact (Fr.rf _ _).set (by simp))
  have h0 : vwM σ (mset A 1 x1 (A 1 x1)) tx := by rw [mset_id]; exact hV
  rw [e12]; exact h0.th (by omega) (hinv _ hx2))
