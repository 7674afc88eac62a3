def i8 (x : Int) : Int := ((Int32.ofInt x).toInt8.toInt32).toInt
theorem i8_r (x : Int) : R32 (i8 x) := by
  have h1 := Int32.le_toInt ((Int32.ofInt x).toInt8.toInt32)
  have h2 := Int32.toInt_lt ((Int32.ofInt x).toInt8.toInt32)
  unfold R32 i8; omega
theorem G_i2b {y : MethodName} {cc : ByteArray} {nL : Nat} {rt : Option FieldType} {d : Nat} {Q : Option AV → Mem → Prop} {pc : Nat} {lv : List (Nat × AV)} {st : List AV} {σ : Mem} {a : Int} (hd : decode cc pc = .ok (.i2b, 1)) (kk : G y cc nL rt d Q (pc + 1) lv (aI (i8 a) :: st) σ) : G y cc nL rt d Q pc lv (aI a :: st) σ := by
  intro l p e s m args below meth c D E ad A H locs ls hC hH hS hl
  have hX := hC.2.2.2.2.2.2.2.2.2
  exact lv_i2b hC.1 hC.2.1 hd (v := Int32.ofInt (i8 a)) (Int32.ofInt_toInt _).symm (kk l p e s m args below meth c D E ad A H locs ls hC hH hS hl)
/-- the first place of a byte in the constant of signs, from k on -/
def ixF (c : Int) : Nat → Int → Int
  | 0, _ => -1
  | n + 1, k => if sB 1 k = i8 c then k else ixF c n (k + 1)

def wp_J1_canEncode_9a6ad (x1 : Int) (σ : Mem) (Q : Int → Mem → Prop) : Prop :=
  ((x1 < 0) →
    Q 0 σ) ∧
   ((0 ≤ x1) →
    ((255 < x1) →
     Q 0 σ) ∧
    ((x1 ≤ 255) →
     Q 1 σ))
theorem mt_J1_canEncode_9a6ad {d : Nat} (hd : 0 ≤ d) {x1 : Int} {σ : Mem} {Q : Int → Mem → Prop} (hx1 : R32 x1) (hO : OKm σ) (h : wp_J1_canEncode_9a6ad x1 σ Q) : Mt yJ1_canEncode_9a6ad cJ1_canEncode_9a6ad 1 (some .boolean) d [aI (x1)] σ (QI Q) := by
  refine Mt.introF (by decide +kernel) (Nat.le_of_ble_eq_true rfl) [(0, aI (x1))] rfl ?_
  unfold wp_J1_canEncode_9a6ad at h
  refine G_iload_n 0 rfl rfl dJ1_canEncode_9a6ad_0 ?_
  refine G_if_lt hx1 dJ1_canEncode_9a6ad_1 (tgt := 15) (by decide) (fun c1 => ?_) (fun c1 => ?_)
  · have h := h.1 c1
    refine G_iconst dJ1_canEncode_9a6ad_15 ?_
    exact G_zret rfl (by decide) dJ1_canEncode_9a6ad_16 ⟨_, rfl, h⟩ hO
  · have h := h.2 c1
    refine G_iload_n 0 rfl rfl dJ1_canEncode_9a6ad_4 ?_
    refine G_sipush (by decide) dJ1_canEncode_9a6ad_5 ?_
    refine G_icmp_gt hx1 (rL 255 rfl) dJ1_canEncode_9a6ad_8 (tgt := 15) (by decide) (fun c2 => ?_) (fun c2 => ?_)
    · have h := h.1 c2
      refine G_iconst dJ1_canEncode_9a6ad_15 ?_
      exact G_zret rfl (by decide) dJ1_canEncode_9a6ad_16 ⟨_, rfl, h⟩ hO
    · have h := h.2 c2
      refine G_iconst dJ1_canEncode_9a6ad_11 ?_
      refine G_goto (tgt := 16) dJ1_canEncode_9a6ad_12 (by decide) ?_
      exact G_zret rfl (by decide) dJ1_canEncode_9a6ad_16 ⟨_, rfl, h⟩ hO

theorem sp_J1_canEncode_9a6ad (d : Nat) (hd : 0 ≤ d) (σ : Mem) (hO : OKm σ) (x1 : Int) (hx1 : R32 x1) : Mt yJ1_canEncode_9a6ad cJ1_canEncode_9a6ad 1 (some .boolean) d [aI (x1)] σ (QI (fun v σ' => bI (0 ≤ x1 ∧ x1 ≤ 255) = v ∧ σ = σ')) := mt_J1_canEncode_9a6ad hd hx1 hO (by
  unfold wp_J1_canEncode_9a6ad
  grind [bI])

def wp_J1_indexOfChar_4cfef_s1 (x2 : Int) (x3 : Int) (x4 : Int) (σ : Mem) (Q : Int → Mem → Prop) : Prop :=
 ∀ P7 : Int → Int → Int → Mem → Prop,
 (∀ (v3 : Int) (v4 : Int) (v5 : Int) (σ : Mem), (R32 v3 → R32 v4 → R32 v5 → OKm σ →
   ((v3 ≤ v5) →
     Q (-1) σ) ∧
    ((v5 < v3) →
     (0 ≤ v5 ∧ v5 < 11) ∧
     (((sB 1 v5) ≠ v4) →
      R32 (v5 + 1) ∧ P7 v3 v4 (v5 + 1) σ) ∧
     (((sB 1 v5) = v4) →
      Q v5 σ))) → P7 v3 v4 v5 σ) →
  P7 x4 (i8 x2) x3 σ
theorem mt_J1_indexOfChar_4cfef_s1 {d : Nat} (hd : 0 ≤ d) {x2 : Int} {x3 : Int} {x4 : Int} {σ : Mem} {Q : Int → Mem → Prop} (hx2 : R32 x2) (hx3 : R32 x3) (hx4 : R32 x4) (hO : OKm σ) (h : wp_J1_indexOfChar_4cfef_s1 x2 x3 x4 σ Q) : Mt yJ1_indexOfChar_4cfef cJ1_indexOfChar_4cfef 6 (some .int) d [aR (1011), aI (x2), aI (x3), aI (x4)] σ (QI Q) := by
  refine Mt.introF (by decide +kernel) (Nat.le_of_ble_eq_true rfl) [(0, aR (1011)), (1, aI (x2)), (2, aI (x3)), (3, aI (x4))] rfl ?_
  unfold wp_J1_indexOfChar_4cfef_s1 at h
  have h := h (fun (v3 : Int) (v4 : Int) (v5 : Int) (σ : Mem) => R32 v3 → R32 v4 → R32 v5 → OKm σ → G yJ1_indexOfChar_4cfef cJ1_indexOfChar_4cfef 6 (some .int) d (QI Q) 7 [(0, aR (1011)), (3, aI (v3)), (4, aI (v4)), (5, aI (v5))] [] σ) ?_
  · refine G_iload_n 1 rfl rfl dJ1_indexOfChar_4cfef_0 ?_
    refine G_i2b dJ1_indexOfChar_4cfef_1 ?_
    refine G_istore (lv' := [(4, aI ((i8 x2))), (0, aR (1011)), (1, aI (x2)), (2, aI (x3)), (3, aI (x4))]) rfl (by decide) dJ1_indexOfChar_4cfef_2 ?_
    refine G_iload_n 3 rfl rfl dJ1_indexOfChar_4cfef_4 ?_
    refine G_istore (lv' := [(5, aI (x3)), (4, aI ((i8 x2))), (0, aR (1011)), (1, aI (x2)), (2, aI (x3)), (3, aI (x4))]) rfl (by decide) dJ1_indexOfChar_4cfef_5 ?_
    exact G_pick [2, 5, 1, 0] rfl (h hx4 (i8_r _) hx3 hO)
  · intro v3 v4 v5 σ h hv3 hv4 hv5 hO
    have h := h hv3 hv4 hv5 hO
    refine G_iload 3 rfl dJ1_indexOfChar_4cfef_7 ?_
    refine G_iload_n 1 rfl rfl dJ1_indexOfChar_4cfef_9 ?_
    refine G_icmp_ge hv5 hv3 dJ1_indexOfChar_4cfef_10 (tgt := 31) (by decide) (fun c1 => ?_) (fun c1 => ?_)
    · have h := h.1 c1
      refine G_iconst dJ1_indexOfChar_4cfef_31 ?_
      exact G_iret rfl (rL (-1) rfl) dJ1_indexOfChar_4cfef_32 ⟨_, rfl, h⟩ hO
    · have h := h.2 c1
      refine G_aload_n 0 rfl rfl dJ1_indexOfChar_4cfef_13 ?_
      refine G_iload 3 rfl dJ1_indexOfChar_4cfef_14 ?_
      obtain ⟨c2, h⟩ := h
      refine G_sbyt (i := 1) (by decide) c2.1 (strL1 c2.2) (sB_v _ _) dJ1_indexOfChar_4cfef_16 ?_
      refine G_iload 2 rfl dJ1_indexOfChar_4cfef_17 ?_
      refine G_icmp_ne (sB_r _ _) hv4 dJ1_indexOfChar_4cfef_19 (tgt := 25) (by decide) (fun c3 => ?_) (fun c3 => ?_)
      · have h := h.1 c3
        refine G_iinc (lv' := [(5, aI ((v5 + 1))), (0, aR (1011)), (3, aI (v3)), (4, aI (v4))]) (k := 3) rfl rfl (by decide) dJ1_indexOfChar_4cfef_25 ?_
        refine G_goto (tgt := 7) dJ1_indexOfChar_4cfef_28 (by decide) ?_
        obtain ⟨c4, h⟩ := h
        exact G_pick [1, 2, 3, 0] rfl (h hv3 hv4 c4 hO)
      · have h := h.2 c3
        refine G_iload 3 rfl dJ1_indexOfChar_4cfef_22 ?_
        exact G_iret rfl hv5 dJ1_indexOfChar_4cfef_24 ⟨_, rfl, h⟩ hO

theorem sp_J1_indexOfChar_4cfef_s1 (d : Nat) (hd : 0 ≤ d) (σ : Mem) (hO : OKm σ) (x2 : Int) (hx2 : R32 x2) (x3 : Int) (hx3 : R32 x3) (x4 : Int) (hx4 : R32 x4) (u : Unit) (hpre : x3 = 0 ∧ x4 = 11) : Mt yJ1_indexOfChar_4cfef cJ1_indexOfChar_4cfef 6 (some .int) d [aR (1011), aI (x2), aI (x3), aI (x4)] σ (QI (fun v σ' => v = ixF x2 11 0 ∧ σ' = σ)) := mt_J1_indexOfChar_4cfef_s1 hd hx2 hx3 hx4 hO (by
  unfold wp_J1_indexOfChar_4cfef_s1
  intro P7 h7
  obtain ⟨e3, e4⟩ := hpre
  have H : ∀ (n : Nat) (k : Int), k + n = 11 → 0 ≤ k → ixF x2 n k = ixF x2 11 0 → P7 11 (i8 x2) k σ := by
    intro n
    induction n with
    | zero =>
      intro k hk h0 he
      exact h7 _ _ _ _ (fun _ _ _ _ => ⟨fun _ => ⟨by rw [← he]; rfl, rfl⟩, fun h => absurd h (by omega)⟩)
    | succ n ih =>
      intro k hk h0 he
      refine h7 _ _ _ _ (fun _ _ _ _ => ⟨fun h => absurd h (by omega), fun _ => ⟨by omega, fun hne => ⟨by unfold R32; omega, ih (k + 1) (by omega) (by omega) ?_⟩, fun heq => ⟨?_, rfl⟩⟩⟩)
      · rw [← he]; show _ = if sB 1 k = i8 x2 then _ else _; rw [if_neg hne]
      · rw [← he]; show k = if sB 1 k = i8 x2 then _ else _; rw [if_pos heq]
  rw [e3, e4]
  exact H 11 0 (by omega) (by omega) rfl)

def wp_J1_indexOf_4cfef_s1 (x2 : Int) (x3 : Int) (x4 : Int) (σ : Mem) (Q : Int → Mem → Prop) : Prop :=
  ((0 ≤ x2 ∧ x2 ≤ 255) →
    (((max x3 0) < (min x4 11)) →
     ∃ g5 : Unit, ((max x3 0) = 0 ∧ (min x4 11) = 11) ∧
     ∀ (u10 : Int) (σ9 : Mem), R32 u10 → OKm σ9 → (u10 = ixF x2 11 0 ∧ σ9 = σ) →
     Q u10 σ9) ∧
    (((min x4 11) ≤ (max x3 0)) →
     Q (-1) σ)) ∧
   ((¬ (0 ≤ x2 ∧ x2 ≤ 255)) →
    Q (-1) σ)
theorem mt_J1_indexOf_4cfef_s1 {d : Nat} (hd : 1 ≤ d) {x2 : Int} {x3 : Int} {x4 : Int} {σ : Mem} {Q : Int → Mem → Prop} (hx2 : R32 x2) (hx3 : R32 x3) (hx4 : R32 x4) (hO : OKm σ) (h : wp_J1_indexOf_4cfef_s1 x2 x3 x4 σ Q) : Mt yJ1_indexOf_4cfef cJ1_indexOf_4cfef 4 (some .int) d [aR (1011), aI (x2), aI (x3), aI (x4)] σ (QI Q) := by
  refine Mt.introF (by decide +kernel) (Nat.le_of_ble_eq_true rfl) [(0, aR (1011)), (1, aI (x2)), (2, aI (x3)), (3, aI (x4))] rfl ?_
  unfold wp_J1_indexOf_4cfef_s1 at h
  refine G_iload_n 1 rfl rfl dJ1_indexOf_4cfef_0 ?_
  refine G_callS (as := [_]) cf_J1_88 rfl (sp_J1_canEncode_9a6ad (d - 1) (by omega) _ hO _ hx2) (by omega) rfl rfl (Nat.le_of_ble_eq_true rfl) dJ1_indexOf_4cfef_1 ?_
  rintro _ _ ⟨_, rfl, rfl, rfl⟩ o2 r1
  refine G_if_ne (bI_R _) dJ1_indexOf_4cfef_4 (tgt := 9) (by decide) (fun c3 => ?_) (fun c3 => ?_)
  · have h := h.1 (bI_ne c3)
    refine G_iload_n 2 rfl rfl dJ1_indexOf_4cfef_9 ?_
    refine G_iconst dJ1_indexOf_4cfef_10 ?_
    refine G_mmax rfl hx3 (rL 0 rfl) (Nat.le_of_ble_eq_true rfl) sf_J1_92 dJ1_indexOf_4cfef_11 ?_
    refine G_istore_n (lv' := [(2, aI ((max x3 0))), (0, aR (1011)), (1, aI (x2)), (3, aI (x4))]) rfl rfl (by decide) dJ1_indexOf_4cfef_14 ?_
    refine G_iload_n 3 rfl rfl dJ1_indexOf_4cfef_15 ?_
    refine G_aload_n 1 rfl rfl dJ1_indexOf_4cfef_16 ?_
    refine G_slen (i := 1) (v := 11) (by decide) (by decide +kernel) dJ1_indexOf_4cfef_17 ?_
    refine G_mmin rfl hx4 (rL 11 rfl) (Nat.le_of_ble_eq_true rfl) sf_J1_38 dJ1_indexOf_4cfef_18 ?_
    refine G_istore_n (lv' := [(3, aI ((min x4 11))), (2, aI ((max x3 0))), (0, aR (1011)), (1, aI (x2))]) rfl rfl (by decide) dJ1_indexOf_4cfef_21 ?_
    refine G_iload_n 1 rfl rfl dJ1_indexOf_4cfef_22 ?_
    refine G_iload_n 0 rfl rfl dJ1_indexOf_4cfef_23 ?_
    refine G_icmp_lt (r32_max hx3 (rL 0 rfl)) (r32_min hx4 (rL 11 rfl)) dJ1_indexOf_4cfef_24 (tgt := 29) (by decide) (fun c4 => ?_) (fun c4 => ?_)
    · have h := h.1 c4
      refine G_aload_n 2 rfl rfl dJ1_indexOf_4cfef_29 ?_
      refine G_iload_n 3 rfl rfl dJ1_indexOf_4cfef_30 ?_
      refine G_iload_n 1 rfl rfl dJ1_indexOf_4cfef_31 ?_
      refine G_iload_n 0 rfl rfl dJ1_indexOf_4cfef_32 ?_
      obtain ⟨g5, c6, h⟩ := h
      refine G_callS (as := [_, _, _, _]) cf_J1_95 rfl (sp_J1_indexOfChar_4cfef_s1 (d - 1) (by omega) _ hO _ hx2 _ (r32_max hx3 (rL 0 rfl)) _ (r32_min hx4 (rL 11 rfl)) g5 c6) (by omega) rfl rfl (Nat.le_of_ble_eq_true rfl) dJ1_indexOf_4cfef_33 ?_
      rintro _ σ9 ⟨u10, rfl, z11⟩ o8 r7
      have h := h _ _ (r7 _ rfl) o8 z11
      exact G_iret rfl (r7 _ rfl) dJ1_indexOf_4cfef_36 ⟨_, rfl, h⟩ o8
    · have h := h.2 c4
      refine G_iconst dJ1_indexOf_4cfef_27 ?_
      exact G_iret rfl (rL (-1) rfl) dJ1_indexOf_4cfef_28 ⟨_, rfl, h⟩ hO
  · have h := h.2 ((bI_0 _).mp c3)
    refine G_iconst dJ1_indexOf_4cfef_7 ?_
    exact G_iret rfl (rL (-1) rfl) dJ1_indexOf_4cfef_8 ⟨_, rfl, h⟩ hO

theorem sp_J1_indexOf_4cfef_s1 (d : Nat) (hd : 1 ≤ d) (σ : Mem) (hO : OKm σ) (x2 : Int) (hx2 : R32 x2) (x3 : Int) (hx3 : R32 x3) (x4 : Int) (hx4 : R32 x4) (u : Unit) (hpre : x3 = 0 ∧ x4 = 11) : Mt yJ1_indexOf_4cfef cJ1_indexOf_4cfef 4 (some .int) d [aR (1011), aI (x2), aI (x3), aI (x4)] σ (QI (fun v σ' => v = (if 0 ≤ x2 ∧ x2 ≤ 255 then ixF x2 11 0 else -1) ∧ σ' = σ)) := mt_J1_indexOf_4cfef_s1 hd hx2 hx3 hx4 hO (by
  unfold wp_J1_indexOf_4cfef_s1
  obtain ⟨e3, e4⟩ := hpre
  rw [e3, e4]
  refine ⟨fun h => ⟨fun _ => ⟨(), ⟨by decide, by decide⟩, fun u1 σ9 _ _ ⟨e1, e2⟩ => ⟨by rw [if_pos h]; exact e1, e2⟩⟩, fun h2 => absurd h2 (by decide)⟩, fun h => ⟨by rw [if_neg h], rfl⟩⟩)

def wp_J0_indexOf_7cf53_s1 (x1 : Int) (x2 : Int) (σ : Mem) (Q : Int → Mem → Prop) : Prop :=
  ((((1 : Int)) = 0) →
    False) ∧
   ((((1 : Int)) ≠ 0) →
    ∃ g6 : Unit, (x2 = 0 ∧ ((11 : Int)) = 11) ∧
    ∀ (u11 : Int) (σ10 : Mem), R32 u11 → OKm σ10 → (u11 = (if 0 ≤ x1 ∧ x1 ≤ 255 then ixF x1 11 0 else -1) ∧ σ10 = σ) →
    Q u11 σ10)
theorem mt_J0_indexOf_7cf53_s1 {d : Nat} (hd : 2 ≤ d) {x1 : Int} {x2 : Int} {σ : Mem} {Q : Int → Mem → Prop} (hx1 : R32 x1) (hx2 : R32 x2) (hO : OKm σ) (h : wp_J0_indexOf_7cf53_s1 x1 x2 σ Q) : Mt yJ0_indexOf_7cf53 cJ0_indexOf_7cf53 3 (some .int) d [aR (1001), aI (x1), aI (x2)] σ (QI Q) := by
  refine Mt.introF (by decide +kernel) (Nat.le_of_ble_eq_true rfl) [(0, aR (1001)), (1, aI (x1)), (2, aI (x2))] rfl ?_
  unfold wp_J0_indexOf_7cf53_s1 at h
  refine G_aload_n 0 rfl rfl dJ0_indexOf_7cf53_0 ?_
  refine G_callVs (i := 1) (as := []) (by decide) cf_J0_492 rfl (sp_J0_isLatin1_aae02_s1 (d - 1) (by omega) _ hO ) (by omega) rfl rfl (Nat.le_of_ble_eq_true rfl) dJ0_indexOf_7cf53_1 ?_
  rintro _ _ ⟨_, rfl, rfl, rfl⟩ o2 r1
  refine G_if_eq (r1 _ rfl) dJ0_indexOf_7cf53_4 (tgt := 23) (by decide) (fun c3 => ?_) (fun c3 => ?_)
  · have h := h.1 c3
    exact h.elim
  · have h := h.2 c3
    refine G_aload_n 0 rfl rfl dJ0_indexOf_7cf53_7 ?_
    refine G_sval (i := 1) (by decide) rfl sw_val dJ0_indexOf_7cf53_8 ?_
    refine G_iload_n 1 rfl rfl dJ0_indexOf_7cf53_11 ?_
    refine G_iload_n 2 rfl rfl dJ0_indexOf_7cf53_12 ?_
    refine G_aload_n 0 rfl rfl dJ0_indexOf_7cf53_13 ?_
    refine G_callVs (i := 1) (as := []) (by decide) cf_J0_505 rfl (sp_J0_length_8abf5_s1 (d - 1) (by omega) _ hO ) (by omega) rfl rfl (Nat.le_of_ble_eq_true rfl) dJ0_indexOf_7cf53_14 ?_
    rintro _ _ ⟨_, rfl, rfl, rfl⟩ o5 r4
    obtain ⟨g6, c7, h⟩ := h
    refine G_callS (as := [_, _, _, _]) cf_J0_637 rfl (sp_J1_indexOf_4cfef_s1 (d - 1) (by omega) _ hO _ hx1 _ hx2 _ (r4 _ rfl) g6 c7) (by omega) rfl rfl (Nat.le_of_ble_eq_true rfl) dJ0_indexOf_7cf53_17 ?_
    rintro _ σ10 ⟨u11, rfl, z12⟩ o9 r8
    have h := h _ _ (r8 _ rfl) o9 z12
    refine G_goto (tgt := 36) dJ0_indexOf_7cf53_20 (by decide) ?_
    exact G_iret rfl (r8 _ rfl) dJ0_indexOf_7cf53_36 ⟨_, rfl, h⟩ o9

theorem sp_J0_indexOf_7cf53_s1 (d : Nat) (hd : 2 ≤ d) (σ : Mem) (hO : OKm σ) (x1 : Int) (hx1 : R32 x1) (x2 : Int) (hx2 : R32 x2) (u : Unit) (hpre : x2 = 0) : Mt yJ0_indexOf_7cf53 cJ0_indexOf_7cf53 3 (some .int) d [aR (1001), aI (x1), aI (x2)] σ (QI (fun v σ' => v = (if 0 ≤ x1 ∧ x1 ≤ 255 then ixF x1 11 0 else -1) ∧ σ' = σ)) := mt_J0_indexOf_7cf53_s1 hd hx1 hx2 hO (by
  unfold wp_J0_indexOf_7cf53_s1
  refine ⟨fun h => absurd h (by decide), fun _ => ⟨(), ⟨hpre, rfl⟩, fun u1 σ9 _ _ ⟨e1, e2⟩ => ⟨e1, e2⟩⟩⟩)

def wp_J0_indexOf_0f7a4_s1 (x1 : Int) (σ : Mem) (Q : Int → Mem → Prop) : Prop :=
  ∃ g1 : Unit, ((0 : Int) = 0) ∧
   ∀ (u6 : Int) (σ5 : Mem), R32 u6 → OKm σ5 → (u6 = (if 0 ≤ x1 ∧ x1 ≤ 255 then ixF x1 11 0 else -1) ∧ σ5 = σ) →
   Q u6 σ5
theorem mt_J0_indexOf_0f7a4_s1 {d : Nat} (hd : 3 ≤ d) {x1 : Int} {σ : Mem} {Q : Int → Mem → Prop} (hx1 : R32 x1) (hO : OKm σ) (h : wp_J0_indexOf_0f7a4_s1 x1 σ Q) : Mt yJ0_indexOf_0f7a4 cJ0_indexOf_0f7a4 2 (some .int) d [aR (1001), aI (x1)] σ (QI Q) := by
  refine Mt.introF (by decide +kernel) (Nat.le_of_ble_eq_true rfl) [(0, aR (1001)), (1, aI (x1))] rfl ?_
  unfold wp_J0_indexOf_0f7a4_s1 at h
  refine G_aload_n 0 rfl rfl dJ0_indexOf_0f7a4_0 ?_
  refine G_iload_n 1 rfl rfl dJ0_indexOf_0f7a4_1 ?_
  refine G_iconst dJ0_indexOf_0f7a4_2 ?_
  obtain ⟨g1, c2, h⟩ := h
  refine G_callVs (i := 1) (as := [_, _]) (by decide) cf_J0_633 rfl (sp_J0_indexOf_7cf53_s1 (d - 1) (by omega) _ hO _ hx1 _ (rL 0 rfl) g1 c2) (by omega) rfl rfl (Nat.le_of_ble_eq_true rfl) dJ0_indexOf_0f7a4_3 ?_
  rintro _ σ5 ⟨u6, rfl, z7⟩ o4 r3
  have h := h _ _ (r3 _ rfl) o4 z7
  exact G_iret rfl (r3 _ rfl) dJ0_indexOf_0f7a4_6 ⟨_, rfl, h⟩ o4

theorem sp_J0_indexOf_0f7a4_s1 (d : Nat) (hd : 3 ≤ d) (σ : Mem) (hO : OKm σ) (x1 : Int) (hx1 : R32 x1) (u : Unit) (hpre : True) : Mt yJ0_indexOf_0f7a4 cJ0_indexOf_0f7a4 2 (some .int) d [aR (1001), aI (x1)] σ (QI (fun v σ' => v = (if 0 ≤ x1 ∧ x1 ≤ 255 then ixF x1 11 0 else -1) ∧ σ' = σ)) := mt_J0_indexOf_0f7a4_s1 hd hx1 hO (by
  unfold wp_J0_indexOf_0f7a4_s1
  exact ⟨(), rfl, fun u1 σ9 _ _ ⟨e1, e2⟩ => ⟨e1, e2⟩⟩)
