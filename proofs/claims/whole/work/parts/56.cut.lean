/-! CUTS -/
def thrN (A : Mem) (s : Int) : Nat → Int
  | 0 => 0
  | n + 1 => thrN A s n + (if tbt s (A 11 (n : Int)) = tbt s (A 12 (n : Int)) then 0 else A 1 (n : Int))
def thrS (A : Mem) (s : Int) : Int := thrN A s (A 10 0).toNat
theorem thrN_r {A : Mem} {s : Int} (hI : InvA A) : ∀ n : Nat, (n : Int) ≤ A 10 0 → 0 ≤ thrN A s n ∧ thrN A s n ≤ 99 * n
  | 0, _ => by simp [thrN]
  | n + 1, hn => by
    have := thrN_r (s := s) hI n (by omega)
    have := hI.2.1 (n : Int) (by omega) (by omega)
    unfold thrN; split <;> omega
theorem tbt_sh {s k : Int} (hs : 0 ≤ s ∧ s < 65536) (hk : 0 ≤ k ∧ k < 16) : bAnd (bShr s k) 1 = if tbt s k = true then 1 else 0 := by
  obtain ⟨n, rfl⟩ : ∃ n : Nat, s = n := ⟨s.toNat, by omega⟩
  obtain ⟨m, rfl⟩ : ∃ m : Nat, k = m := ⟨k.toNat, by omega⟩
  rw [has_bit (by omega) (by omega)]
  unfold tbt
  rw [Int.toNat_natCast, Int.toNat_natCast]
def isCut (a b s : Int) : Bool := tbt s a && !tbt s b
def cutN (A : Mem) (a b : Int) : Nat → Int
  | 0 => -1
  | n + 1 => if isCut a b (n : Int) = true ∧ (cutN A a b n = -1 ∨ thrS A (n : Int) < thrS A (cutN A a b n)) then (n : Int) else cutN A a b n
def cutC (A : Mem) (a b : Int) : Nat → Int
  | 0 => bShl 1 a
  | n + 1 => if isCut a b (n : Int) = true ∧ (thrS A (n : Int) < thrS A (cutC A a b n) ∨ thrS A (n : Int) = thrS A (cutC A a b n) ∧ (n : Int) < cutC A a b n) then (n : Int) else cutC A a b n
def lexl (A : Mem) (x y : Int) : Prop := thrS A x < thrS A y ∨ (thrS A x = thrS A y ∧ x ≤ y)
theorem cutN_ok {A : Mem} {a b : Int} : ∀ n : Nat, (cutN A a b n = -1 → ∀ s : Nat, s < n → isCut a b (s : Int) = false) ∧ (cutN A a b n ≠ -1 → (0 ≤ cutN A a b n ∧ cutN A a b n < n ∧ isCut a b (cutN A a b n) = true) ∧ ∀ s : Nat, s < n → isCut a b (s : Int) = true → lexl A (cutN A a b n) (s : Int))
  | 0 => ⟨fun _ s h => by omega, fun h => absurd rfl h⟩
  | n + 1 => by
    obtain ⟨i1, i2⟩ := cutN_ok (A := A) (a := a) (b := b) n
    by_cases hc : isCut a b (n : Int) = true ∧ (cutN A a b n = -1 ∨ thrS A (n : Int) < thrS A (cutN A a b n))
    · have e : cutN A a b (n + 1) = n := by show (if _ then _ else _) = _; rw [if_pos hc]
      rw [e]
      refine ⟨fun h => by omega, fun _ => ⟨⟨by omega, by omega, hc.1⟩, fun s hs hq => ?_⟩⟩
      by_cases e2 : s = n
      · subst e2; exact Or.inr ⟨rfl, Int.le_refl _⟩
      · rcases hc.2 with h | h
        · have := i1 h s (by omega); rw [hq] at this; cases this
        · by_cases h1 : cutN A a b n = -1
          · have := i1 h1 s (by omega); rw [hq] at this; cases this
          · have := (i2 h1).2 s (by omega) hq
            unfold lexl at *; omega
    · have e : cutN A a b (n + 1) = cutN A a b n := by show (if _ then _ else _) = _; rw [if_neg hc]
      rw [e]
      refine ⟨fun h s hs => ?_, fun h => ⟨⟨(i2 h).1.1, by have := (i2 h).1.2.1; omega, (i2 h).1.2.2⟩, fun s hs hq => ?_⟩⟩
      · by_cases e2 : s = n
        · subst e2
          cases hq : isCut a b (s : Int) with
          | false => rfl
          | true => exact absurd ⟨hq, Or.inl h⟩ hc
        · exact i1 h s (by omega)
      · by_cases e2 : s = n
        · subst e2
          have : ¬ thrS A (s : Int) < thrS A (cutN A a b s) := fun q => hc ⟨hq, Or.inr q⟩
          have := (i2 h).1.2.1
          unfold lexl; omega
        · exact (i2 h).2 s (by omega) hq
theorem cutC_ok {A : Mem} {a b : Int} : ∀ n : Nat, (cutC A a b n = bShl 1 a ∨ (0 ≤ cutC A a b n ∧ cutC A a b n < n ∧ isCut a b (cutC A a b n) = true)) ∧ lexl A (cutC A a b n) (bShl 1 a) ∧ ∀ s : Nat, s < n → isCut a b (s : Int) = true → lexl A (cutC A a b n) (s : Int)
  | 0 => ⟨Or.inl rfl, Or.inr ⟨rfl, Int.le_refl _⟩, fun s h => by omega⟩
  | n + 1 => by
    obtain ⟨i1, i2, i3⟩ := cutC_ok (A := A) (a := a) (b := b) n
    by_cases hc : isCut a b (n : Int) = true ∧ (thrS A (n : Int) < thrS A (cutC A a b n) ∨ thrS A (n : Int) = thrS A (cutC A a b n) ∧ (n : Int) < cutC A a b n)
    · have e : cutC A a b (n + 1) = n := by show (if _ then _ else _) = _; rw [if_pos hc]
      rw [e]
      have hc2 := hc.2
      refine ⟨Or.inr ⟨by omega, by omega, hc.1⟩, ?_, fun s hs hq => ?_⟩
      · unfold lexl at *; omega
      · by_cases e2 : s = n
        · subst e2; exact Or.inr ⟨rfl, Int.le_refl _⟩
        · have := i3 s (by omega) hq
          unfold lexl at *; omega
    · have e : cutC A a b (n + 1) = cutC A a b n := by show (if _ then _ else _) = _; rw [if_neg hc]
      rw [e]
      refine ⟨?_, i2, fun s hs hq => ?_⟩
      · rcases i1 with h | h
        · exact Or.inl h
        · exact Or.inr ⟨h.1, by omega, h.2.2⟩
      · by_cases e2 : s = n
        · subst e2
          have : ¬ (thrS A (s : Int) < thrS A (cutC A a b s) ∨ thrS A (s : Int) = thrS A (cutC A a b s) ∧ (s : Int) < cutC A a b s) := fun q => hc ⟨hq, q⟩
          unfold lexl; omega
        · exact i3 s (by omega) hq
theorem shl8 {a : Int} (ha : 0 ≤ a ∧ a ≤ 7) : 0 ≤ bShl 1 a ∧ bShl 1 a < 256 := by
  have h := (tb_shl (k := a) (t := 0) (by omega) (by omega)).1
  refine ⟨h.1, low8 h.1 (fun t ht => ?_)⟩
  rw [(tb_shl (k := a) (t := t) (by omega) (by omega)).2, decide_eq_false (by omega)]
theorem cut_eq {A : Mem} {a b : Int} (ha : 0 ≤ a ∧ a ≤ 7) (hb : 0 ≤ b ∧ b ≤ 7) (hab : a ≠ b) : cutC A a b 256 = cutN A a b 256 ∧ (0 ≤ cutN A a b 256 ∧ cutN A a b 256 < 256) := by
  have hs := shl8 ha
  have hq : isCut a b (bShl 1 a) = true := by
    unfold isCut
    rw [(tb_shl (k := a) (by omega) ha.1).2, (tb_shl (k := a) (by omega) hb.1).2, decide_eq_true rfl, decide_eq_false (by omega)]; rfl
  obtain ⟨c1, c2, c3⟩ := cutC_ok (A := A) (a := a) (b := b) 256
  obtain ⟨n1, n2⟩ := cutN_ok (A := A) (a := a) (b := b) 256
  have hN : (((bShl 1 a).toNat : Nat) : Int) = bShl 1 a := by omega
  have hne : cutN A a b 256 ≠ -1 := fun h => by
    have := n1 h (bShl 1 a).toNat (by omega)
    rw [hN, hq] at this; cases this
  obtain ⟨m1, m2⟩ := n2 hne
  have hcc : 0 ≤ cutC A a b 256 ∧ cutC A a b 256 < 256 ∧ isCut a b (cutC A a b 256) = true := by
    rcases c1 with h | h
    · rw [h]; exact ⟨hs.1, hs.2, hq⟩
    · exact ⟨h.1, by omega, h.2.2⟩
  have l1 := c3 (cutN A a b 256).toNat (by omega) (by rw [show (((cutN A a b 256).toNat : Nat) : Int) = cutN A a b 256 by omega]; exact m1.2.2)
  have l2 := m2 (cutC A a b 256).toNat (by omega) (by rw [show (((cutC A a b 256).toNat : Nat) : Int) = cutC A a b 256 by omega]; exact hcc.2.2)
  rw [show (((cutN A a b 256).toNat : Nat) : Int) = cutN A a b 256 by omega] at l1
  rw [show (((cutC A a b 256).toNat : Nat) : Int) = cutC A a b 256 by omega] at l2
  unfold lexl at l1 l2
  exact ⟨by omega, by omega⟩
def twoT (a b : Int) : Prop := (0 ≤ a ∧ a ≤ 7) ∧ (0 ≤ b ∧ b ≤ 7) ∧ a ≠ b
def cutS (A : Mem) (a b : Int) : Int := if (0 ≤ a ∧ a ≤ 7) ∧ (0 ≤ b ∧ b ≤ 7) ∧ a ≠ b then cutN A a b 256 else -1
def flowS (A : Mem) (a b : Int) : Int := if (0 ≤ a ∧ a ≤ 7) ∧ (0 ≤ b ∧ b ≤ 7) ∧ a ≠ b then thrS A (cutN A a b 256) else -1

def wp_X4_thickAround (x1 : Int) (σ : Mem) (Q : Int → Mem → Prop) : Prop :=
 ∀ P4 : Int → Int → Int → Mem → Prop,
 (∀ (v1 : Int) (v2 : Int) (v3 : Int) (σ : Mem), (R32 v1 → R32 v2 → R32 v3 → OKm σ →
   (((σ 1 8) ≤ v3) →
     Q v2 σ) ∧
    ((v3 < (σ 1 8)) →
     (0 ≤ v3 ∧ v3 < 16) ∧
     (0 ≤ v3 ∧ v3 < 16) ∧
     (((bAnd (bShr v1 (σ 2 v3)) 1) = (bAnd (bShr v1 (σ 3 v3)) 1)) →
      R32 (v3 + 1) ∧ P4 v1 v2 (v3 + 1) σ) ∧
     (((bAnd (bShr v1 (σ 2 v3)) 1) ≠ (bAnd (bShr v1 (σ 3 v3)) 1)) →
      (0 ≤ v3 ∧ v3 < 16) ∧
      R32 (v2 + (σ 11 v3)) ∧ R32 (v3 + 1) ∧ P4 v1 (v2 + (σ 11 v3)) (v3 + 1) σ))) → P4 v1 v2 v3 σ) →
  P4 x1 0 0 σ
theorem mt_X4_thickAround {d : Nat} (hd : 0 ≤ d) {x1 : Int} {σ : Mem} {Q : Int → Mem → Prop} (hx1 : R32 x1) (hO : OKm σ) (h : wp_X4_thickAround x1 σ Q) : Mt yX4_thickAround cX4_thickAround 4 (some .int) d [aR (40), aI (x1)] σ (QI Q) := by
  refine Mt.intro (by decide +kernel) (Nat.le_of_ble_eq_true rfl) [(0, aR (40)), (1, aI (x1))] rfl ?_
  unfold wp_X4_thickAround at h
  have h := h (fun (v1 : Int) (v2 : Int) (v3 : Int) (σ : Mem) => R32 v1 → R32 v2 → R32 v3 → OKm σ → G yX4_thickAround cX4_thickAround 4 (some .int) d (QI Q) 4 [(0, aR (40)), (1, aI (v1)), (2, aI (v2)), (3, aI (v3))] [] σ) ?_
  · refine G_iconst dX4_thickAround_0 ?_
    refine G_istore_n (lv' := [(2, aI (0)), (0, aR (40)), (1, aI (x1))]) rfl rfl (by decide) dX4_thickAround_1 ?_
    refine G_iconst dX4_thickAround_2 ?_
    refine G_istore_n (lv' := [(3, aI (0)), (2, aI (0)), (0, aR (40)), (1, aI (x1))]) rfl rfl (by decide) dX4_thickAround_3 ?_
    exact G_pick [2, 3, 1, 0] rfl (h hx1 (rL 0 rfl) (rL 0 rfl) hO)
  · intro v1 v2 v3 σ h hv1 hv2 hv3 hO
    have h := h hv1 hv2 hv3 hO
    refine G_iload_n 3 rfl rfl dX4_thickAround_4 ?_
    refine G_aload_n 0 rfl rfl dX4_thickAround_5 ?_
    refine G_get (k := 0) (kd := (2, 1)) (v := aR 1) gf_X4_37 rfl rfl rfl rfl dX4_thickAround_6 ?_
    refine G_get (k := 8) (kd := (0, 0)) (v := aI (σ 1 8)) gf_X4_50 rfl rfl rfl rfl dX4_thickAround_9 ?_
    refine G_icmp_ge hv3 (OKm.i hO 1 8 rfl) dX4_thickAround_12 (tgt := 62) (by decide) (fun c1 => ?_) (fun c1 => ?_)
    · have h := h.1 c1
      refine G_iload_n 2 rfl rfl dX4_thickAround_62 ?_
      exact G_iret rfl hv2 dX4_thickAround_63 ⟨_, rfl, h⟩ hO
    · have h := h.2 c1
      refine G_iload_n 1 rfl rfl dX4_thickAround_15 ?_
      refine G_aload_n 0 rfl rfl dX4_thickAround_16 ?_
      refine G_get (k := 0) (kd := (2, 1)) (v := aR 1) gf_X4_37 rfl rfl rfl rfl dX4_thickAround_17 ?_
      refine G_get (k := 0) (kd := (3, 1)) (v := aR (2)) gf_X4_71 rfl rfl rfl rfl dX4_thickAround_20 ?_
      refine G_iload_n 3 rfl rfl dX4_thickAround_23 ?_
      obtain ⟨c2, h⟩ := h
      refine G_iald (n := 16) rfl c2.1 c2.2 dX4_thickAround_24 ?_
      refine G_ishr dX4_thickAround_25 ?_
      refine G_iconst dX4_thickAround_26 ?_
      refine G_iand dX4_thickAround_27 ?_
      refine G_iload_n 1 rfl rfl dX4_thickAround_28 ?_
      refine G_aload_n 0 rfl rfl dX4_thickAround_29 ?_
      refine G_get (k := 0) (kd := (2, 1)) (v := aR 1) gf_X4_37 rfl rfl rfl rfl dX4_thickAround_30 ?_
      refine G_get (k := 1) (kd := (3, 2)) (v := aR (3)) gf_X4_74 rfl rfl rfl rfl dX4_thickAround_33 ?_
      refine G_iload_n 3 rfl rfl dX4_thickAround_36 ?_
      obtain ⟨c3, h⟩ := h
      refine G_iald (n := 16) rfl c3.1 c3.2 dX4_thickAround_37 ?_
      refine G_ishr dX4_thickAround_38 ?_
      refine G_iconst dX4_thickAround_39 ?_
      refine G_iand dX4_thickAround_40 ?_
      refine G_icmp_eq (r32_of _) (r32_of _) dX4_thickAround_41 (tgt := 56) (by decide) (fun c4 => ?_) (fun c4 => ?_)
      · have h := h.1 c4
        refine G_iinc (lv' := [(3, aI ((v3 + 1))), (0, aR (40)), (1, aI (v1)), (2, aI (v2))]) (k := 3) rfl rfl (by decide) dX4_thickAround_56 ?_
        refine G_goto (tgt := 4) dX4_thickAround_59 (by decide) ?_
        obtain ⟨c5, h⟩ := h
        exact G_pick [1, 2, 3, 0] rfl (h hv1 hv2 c5 hO)
      · have h := h.2 c4
        refine G_iload_n 2 rfl rfl dX4_thickAround_44 ?_
        refine G_aload_n 0 rfl rfl dX4_thickAround_45 ?_
        refine G_get (k := 1) (kd := (2, 10)) (v := aR 10) gf_X4_41 rfl rfl rfl rfl dX4_thickAround_46 ?_
        refine G_get (k := 0) (kd := (3, 1)) (v := aR (11)) gf_X4_45 rfl rfl rfl rfl dX4_thickAround_49 ?_
        refine G_iload_n 3 rfl rfl dX4_thickAround_52 ?_
        obtain ⟨c6, h⟩ := h
        refine G_iald (n := 16) rfl c6.1 c6.2 dX4_thickAround_53 ?_
        refine G_iadd dX4_thickAround_54 ?_
        refine G_istore_n (lv' := [(2, aI ((v2 + (σ 11 v3)))), (0, aR (40)), (1, aI (v1)), (3, aI (v3))]) rfl rfl (by decide) dX4_thickAround_55 ?_
        refine G_iinc (lv' := [(3, aI ((v3 + 1))), (2, aI ((v2 + (σ 11 v3)))), (0, aR (40)), (1, aI (v1))]) (k := 3) rfl rfl (by decide) dX4_thickAround_56 ?_
        refine G_goto (tgt := 4) dX4_thickAround_59 (by decide) ?_
        obtain ⟨c7, h⟩ := h
        obtain ⟨c8, h⟩ := h
        exact G_pick [2, 3, 1, 0] rfl (h hv1 c7 c8 hO)

theorem sp_X4_thickAround (d : Nat) (hd : 0 ≤ d) (σ : Mem) (hO : OKm σ) (x1 : Int) (hx1 : R32 x1) (A : Mem) (tx : Nat → Txt) (hpre : vwC σ A tx ∧ (0 ≤ x1 ∧ x1 < 65536)) : Mt yX4_thickAround cX4_thickAround 4 (some .int) d [aR (40), aI (x1)] σ (QI (fun v σ' => v = thrS A x1 ∧ σ' = σ)) := mt_X4_thickAround hd hx1 hO (by
  unfold wp_X4_thickAround
  intro P4 h4
  obtain ⟨hV, hx⟩ := hpre
  have hI := hV.2.2.1
  have hc := hI.1
  have e8 : σ 1 8 = A 10 0 := hV.1.1.1
  have H : ∀ (n k : Nat), k + n = (A 10 0).toNat → P4 x1 (thrN A x1 k) (k : Int) σ := by
    intro n
    induction n with
    | zero =>
      intro k hk
      have hk2 : k = (A 10 0).toNat := by omega
      exact h4 _ _ _ _ (fun _ _ _ _ => ⟨fun _ => ⟨by unfold thrS; rw [hk2], rfl⟩, fun h => absurd h (by omega)⟩)
    | succ n ih =>
      intro k hk
      have ih1 := ih (k + 1) (by omega)
      have t1 := hV.1.2.1 (k : Int) (by omega) (by omega)
      have n1 := hV.2.1.2.1 (k : Int) (by omega) (by omega)
      have s2 : σ 2 (k : Int) = A 11 (k : Int) := t1.1
      have s3 : σ 3 (k : Int) = A 12 (k : Int) := t1.2.1
      have hl := hI.2.1 (k : Int) (by omega) (by omega)
      have hr := thrN_r (s := x1) hI k (by omega)
      refine h4 _ _ _ _ (fun _ _ _ _ => ⟨fun h => absurd h (by omega), fun _ => ?_⟩)
      rw [s2, s3, n1, tbt_sh hx (by omega), tbt_sh hx (by omega)]
      have hiff : ((if tbt x1 (A 11 (k : Int)) = true then (1 : Int) else 0) = (if tbt x1 (A 12 (k : Int)) = true then 1 else 0)) ↔ tbt x1 (A 11 (k : Int)) = tbt x1 (A 12 (k : Int)) := by
        cases tbt x1 (A 11 (k : Int)) <;> cases tbt x1 (A 12 (k : Int)) <;> simp
      refine ⟨by omega, by omega, fun h => ⟨by unfold R32; omega, ?_⟩, fun h => ⟨by omega, by unfold R32; omega, by unfold R32; omega, ?_⟩⟩
      · have e : thrN A x1 (k + 1) = thrN A x1 k := by show _ + (if _ then _ else _) = _; rw [if_pos (hiff.mp h), Int.add_zero]
        rw [e] at ih1; exact ih1
      · have e : thrN A x1 (k + 1) = thrN A x1 k + A 1 (k : Int) := by show _ + (if _ then _ else _) = _; rw [if_neg (fun q => h (hiff.mpr q))]
        rw [e] at ih1; exact ih1
  exact H _ 0 (Nat.zero_add _))

def wp_X12_throughOf (x1 : Int) (σ : Mem) (Q : Int → Mem → Prop) : Prop :=
 ∀ P4 : Int → Int → Int → Mem → Prop,
 (∀ (v1 : Int) (v2 : Int) (v3 : Int) (σ : Mem), (R32 v1 → R32 v2 → R32 v3 → OKm σ →
   (((σ 75 0) ≤ v3) →
     Q v2 σ) ∧
    ((v3 < (σ 75 0)) →
     (0 ≤ v3 ∧ v3 < 16 ∧ 0 ≤ (0 : Int) ∧ (0 : Int) < 4) ∧
     ((0 ≤ v1 ∧ v1 < 2147483648) ∧ (0 ≤ (σ 75 (39 + 4 * v3 + (0 : Int))) ∧ (σ 75 (39 + 4 * v3 + (0 : Int))) < 31)) ∧
     (0 ≤ v3 ∧ v3 < 16 ∧ 0 ≤ (1 : Int) ∧ (1 : Int) < 4) ∧
     ((0 ≤ v1 ∧ v1 < 2147483648) ∧ (0 ≤ (σ 75 (39 + 4 * v3 + (1 : Int))) ∧ (σ 75 (39 + 4 * v3 + (1 : Int))) < 31)) ∧
     (((bI ((v1).toNat.testBit ((σ 75 (39 + 4 * v3 + (0 : Int)))).toNat = true)) = (bI ((v1).toNat.testBit ((σ 75 (39 + 4 * v3 + (1 : Int)))).toNat = true))) →
      R32 (v2 + 0) ∧ R32 (v3 + 1) ∧ P4 v1 (v2 + 0) (v3 + 1) σ) ∧
     (((bI ((v1).toNat.testBit ((σ 75 (39 + 4 * v3 + (0 : Int)))).toNat = true)) ≠ (bI ((v1).toNat.testBit ((σ 75 (39 + 4 * v3 + (1 : Int)))).toNat = true))) →
      (0 ≤ (11 + v3) ∧ (11 + v3) < 2119) ∧
      R32 (v2 + (σ 75 (11 + v3))) ∧ R32 (v3 + 1) ∧ P4 v1 (v2 + (σ 75 (11 + v3))) (v3 + 1) σ))) → P4 v1 v2 v3 σ) →
  P4 x1 0 0 σ
theorem mt_X12_throughOf {d : Nat} (hd : 1 ≤ d) {x1 : Int} {σ : Mem} {Q : Int → Mem → Prop} (hx1 : R32 x1) (hO : OKm σ) (h : wp_X12_throughOf x1 σ Q) : Mt yX12_throughOf cX12_throughOf 4 (some .int) d [aR (74), aI (x1)] σ (QI Q) := by
  refine Mt.intro (by decide +kernel) (Nat.le_of_ble_eq_true rfl) [(0, aR (74)), (1, aI (x1))] rfl ?_
  unfold wp_X12_throughOf at h
  have h := h (fun (v1 : Int) (v2 : Int) (v3 : Int) (σ : Mem) => R32 v1 → R32 v2 → R32 v3 → OKm σ → G yX12_throughOf cX12_throughOf 4 (some .int) d (QI Q) 4 [(0, aR (74)), (1, aI (v1)), (2, aI (v2)), (3, aI (v3))] [] σ) ?_
  · refine G_iconst dX12_throughOf_0 ?_
    refine G_istore_n (lv' := [(2, aI (0)), (0, aR (74)), (1, aI (x1))]) rfl rfl (by decide) dX12_throughOf_1 ?_
    refine G_iconst dX12_throughOf_2 ?_
    refine G_istore_n (lv' := [(3, aI (0)), (2, aI (0)), (0, aR (74)), (1, aI (x1))]) rfl rfl (by decide) dX12_throughOf_3 ?_
    exact G_pick [2, 3, 1, 0] rfl (h hx1 (rL 0 rfl) (rL 0 rfl) hO)
  · intro v1 v2 v3 σ h hv1 hv2 hv3 hO
    have h := h hv1 hv2 hv3 hO
    refine G_iload_n 3 rfl rfl dX12_throughOf_4 ?_
    refine G_aload_n 0 rfl rfl dX12_throughOf_5 ?_
    refine G_get (k := 0) (kd := (2, 75)) (v := aR 75) gf_X12_7 rfl rfl rfl rfl dX12_throughOf_6 ?_
    refine G_iconst dX12_throughOf_9 ?_
    refine G_iald (n := 2119) rfl (by decide) (by decide) dX12_throughOf_10 ?_
    refine G_icmp_ge hv3 (OKm.i hO 75 0 (isLg_row (show shp 75 = (1, 2119, []) from rfl) _)) dX12_throughOf_11 (tgt := 59) (by decide) (fun c1 => ?_) (fun c1 => ?_)
    · have h := h.1 c1
      refine G_iload_n 2 rfl rfl dX12_throughOf_59 ?_
      exact G_iret rfl hv2 dX12_throughOf_60 ⟨_, rfl, h⟩ hO
    · have h := h.2 c1
      refine G_iload_n 2 rfl rfl dX12_throughOf_14 ?_
      refine G_iload_n 1 rfl rfl dX12_throughOf_15 ?_
      refine G_aload_n 0 rfl rfl dX12_throughOf_16 ?_
      refine G_iload_n 3 rfl rfl dX12_throughOf_17 ?_
      refine G_iconst dX12_throughOf_18 ?_
      obtain ⟨c2, h⟩ := h
      refine G_callV (as := [_, _]) cf_X12_85 rfl rfl rfl (sp_X12_told (d - 1) (by omega) _ hO _ hv3 _ (rL 0 rfl) c2) (by omega) rfl rfl (Nat.le_of_ble_eq_true rfl) dX12_throughOf_19 ?_
      rintro _ _ ⟨_, rfl, rfl, rfl⟩ o4 r3
      obtain ⟨c5, h⟩ := h
      refine G_callS (as := [_, _]) cf_X12_258 rfl (sp_X12_has (d - 1) (by omega) _ hO _ hv1 _ (r3 _ rfl) c5) (by omega) rfl rfl (Nat.le_of_ble_eq_true rfl) dX12_throughOf_22 ?_
      rintro _ _ ⟨_, rfl, rfl, rfl⟩ o7 r6
      refine G_iload_n 1 rfl rfl dX12_throughOf_25 ?_
      refine G_aload_n 0 rfl rfl dX12_throughOf_26 ?_
      refine G_iload_n 3 rfl rfl dX12_throughOf_27 ?_
      refine G_iconst dX12_throughOf_28 ?_
      obtain ⟨c8, h⟩ := h
      refine G_callV (as := [_, _]) cf_X12_85 rfl rfl rfl (sp_X12_told (d - 1) (by omega) _ hO _ hv3 _ (rL 1 rfl) c8) (by omega) rfl rfl (Nat.le_of_ble_eq_true rfl) dX12_throughOf_29 ?_
      rintro _ _ ⟨_, rfl, rfl, rfl⟩ o10 r9
      obtain ⟨c11, h⟩ := h
      refine G_callS (as := [_, _]) cf_X12_258 rfl (sp_X12_has (d - 1) (by omega) _ hO _ hv1 _ (r9 _ rfl) c11) (by omega) rfl rfl (Nat.le_of_ble_eq_true rfl) dX12_throughOf_32 ?_
      rintro _ _ ⟨_, rfl, rfl, rfl⟩ o13 r12
      refine G_icmp_eq (bI_R _) (bI_R _) dX12_throughOf_35 (tgt := 50) (by decide) (fun c14 => ?_) (fun c14 => ?_)
      · have h := h.1 c14
        refine G_iconst dX12_throughOf_50 ?_
        refine G_iadd dX12_throughOf_51 ?_
        refine G_istore_n (lv' := [(2, aI ((v2 + 0))), (0, aR (74)), (1, aI (v1)), (3, aI (v3))]) rfl rfl (by decide) dX12_throughOf_52 ?_
        refine G_iinc (lv' := [(3, aI ((v3 + 1))), (2, aI ((v2 + 0))), (0, aR (74)), (1, aI (v1))]) (k := 3) rfl rfl (by decide) dX12_throughOf_53 ?_
        refine G_goto (tgt := 4) dX12_throughOf_56 (by decide) ?_
        obtain ⟨c15, h⟩ := h
        obtain ⟨c16, h⟩ := h
        exact G_pick [2, 3, 1, 0] rfl (h hv1 c15 c16 hO)
      · have h := h.2 c14
        refine G_aload_n 0 rfl rfl dX12_throughOf_38 ?_
        refine G_get (k := 0) (kd := (2, 75)) (v := aR 75) gf_X12_7 rfl rfl rfl rfl dX12_throughOf_39 ?_
        refine G_bipush (by decide) dX12_throughOf_42 ?_
        refine G_iload_n 3 rfl rfl dX12_throughOf_44 ?_
        refine G_iadd dX12_throughOf_45 ?_
        obtain ⟨c17, h⟩ := h
        refine G_iald (n := 2119) rfl c17.1 c17.2 dX12_throughOf_46 ?_
        refine G_goto (tgt := 51) dX12_throughOf_47 (by decide) ?_
        refine G_iadd dX12_throughOf_51 ?_
        refine G_istore_n (lv' := [(2, aI ((v2 + (σ 75 (11 + v3))))), (0, aR (74)), (1, aI (v1)), (3, aI (v3))]) rfl rfl (by decide) dX12_throughOf_52 ?_
        refine G_iinc (lv' := [(3, aI ((v3 + 1))), (2, aI ((v2 + (σ 75 (11 + v3))))), (0, aR (74)), (1, aI (v1))]) (k := 3) rfl rfl (by decide) dX12_throughOf_53 ?_
        refine G_goto (tgt := 4) dX12_throughOf_56 (by decide) ?_
        obtain ⟨c18, h⟩ := h
        obtain ⟨c19, h⟩ := h
        exact G_pick [2, 3, 1, 0] rfl (h hv1 c18 c19 hO)

theorem sp_X12_throughOf (d : Nat) (hd : 1 ≤ d) (σ : Mem) (hO : OKm σ) (x1 : Int) (hx1 : R32 x1) (A : Mem) (tx : Nat → Txt) (hpre : vwM σ A tx ∧ (0 ≤ x1 ∧ x1 < 65536)) : Mt yX12_throughOf cX12_throughOf 4 (some .int) d [aR (74), aI (x1)] σ (QI (fun v σ' => v = thrS A x1 ∧ σ' = σ)) := mt_X12_throughOf hd hx1 hO (by
  unfold wp_X12_throughOf
  intro P4 h4
  obtain ⟨hV, hx⟩ := hpre
  have hI := hV.2.2.1
  have hc := hI.1
  have e0 : σ 75 0 = A 10 0 := hV.1.1.1
  have H : ∀ (n k : Nat), k + n = (A 10 0).toNat → P4 x1 (thrN A x1 k) (k : Int) σ := by
    intro n
    induction n with
    | zero =>
      intro k hk
      have hk2 : k = (A 10 0).toNat := by omega
      exact h4 _ _ _ _ (fun _ _ _ _ => ⟨fun _ => ⟨by unfold thrS; rw [hk2], rfl⟩, fun h => absurd h (by omega)⟩)
    | succ n ih =>
      intro k hk
      have ih1 := ih (k + 1) (by omega)
      have t1 := hV.1.2.1 (k : Int) (by omega) (by omega)
      have n1 := hV.2.1.2.1 (k : Int) (by omega) (by omega)
      have s2 : σ 75 (39 + 4 * (k : Int) + 0) = A 11 (k : Int) := by rw [Int.add_zero]; exact t1.1
      have s3 : σ 75 (39 + 4 * (k : Int) + 1) = A 12 (k : Int) := t1.2.1
      have hl := hI.2.1 (k : Int) (by omega) (by omega)
      have hr := thrN_r (s := x1) hI k (by omega)
      refine h4 _ _ _ _ (fun _ _ _ _ => ⟨fun h => absurd h (by omega), fun _ => ?_⟩)
      rw [s2, s3, n1]
      have hiff : (bI (x1.toNat.testBit (A 11 (k : Int)).toNat = true) = bI (x1.toNat.testBit (A 12 (k : Int)).toNat = true)) ↔ tbt x1 (A 11 (k : Int)) = tbt x1 (A 12 (k : Int)) := by
        unfold tbt bI
        cases x1.toNat.testBit (A 11 (k : Int)).toNat <;> cases x1.toNat.testBit (A 12 (k : Int)).toNat <;> simp
      refine ⟨by omega, by omega, by omega, by omega, fun h => ⟨by unfold R32; omega, by unfold R32; omega, ?_⟩, fun h => ⟨by omega, by unfold R32; omega, by unfold R32; omega, ?_⟩⟩
      · have e : thrN A x1 (k + 1) = thrN A x1 k + 0 := by show _ + (if _ then _ else _) = _; rw [if_pos (hiff.mp h)]
        rw [e] at ih1; exact ih1
      · have e : thrN A x1 (k + 1) = thrN A x1 k + A 1 (k : Int) := by show _ + (if _ then _ else _) = _; rw [if_neg (fun q => h (hiff.mpr q))]
        rw [e] at ih1; exact ih1
  exact H _ 0 (Nat.zero_add _))
