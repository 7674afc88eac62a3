/-- all but the book is the same -/
def eqB (A A' : Mem) : Prop := (∀ q, q ≠ 0 → q ≠ 4 → q ≠ 5 → q ≠ 6 → q ≠ 7 → A q = A' q) ∧ ∀ j : Int, j ≠ 4 → A 0 j = A' 0 j
theorem eqB.rf (A : Mem) : eqB A A := ⟨fun _ _ _ _ _ _ => rfl, fun _ _ => rfl⟩
theorem eqB.sm {A B : Mem} (h : eqB A B) : eqB B A := ⟨fun q a b c d e => (h.1 q a b c d e).symm, fun j hj => (h.2 j hj).symm⟩
theorem eqB.tr {A B C : Mem} (h : eqB A B) (h2 : eqB B C) : eqB A C := ⟨fun q a b c d e => (h.1 q a b c d e).trans (h2.1 q a b c d e), fun j hj => (h.2 j hj).trans (h2.2 j hj)⟩
theorem eqB.r {A B : Mem} (h : eqB A B) (q : Nat) (hq : 1 ≤ q ∧ q ≤ 3 ∨ 8 ≤ q) : A q = B q := h.1 q (by omega) (by omega) (by omega) (by omega) (by omega)
theorem eqB.set {A B : Mem} (h : eqB A B) (q : Nat) (i v : Int) : eqB (mset A q i v) (mset B q i v) := by
  refine ⟨fun q' a b c d e => ?_, fun j hj => ?_⟩
  · funext j
    rw [mset_at, mset_at, h.1 q' a b c d e]
  · rw [mset_at, mset_at, h.2 j hj]
theorem nmA_eqB {A B : Mem} (h : eqB A B) (k g r : Int) : nmA A k g r = nmA B k g r := by
  unfold nmA
  rw [h.2 2 (by omega), h.2 1 (by omega), h.r 13 (by omega), h.r 1 (by omega), h.r 14 (by omega), h.r 10 (by omega), h.r 15 (by omega), h.r 3 (by omega)]
theorem envA_eqB {A B : Mem} (h : eqB A B) (g r : Int) : envA A g r = envA B g r := by
  unfold envA
  rw [h.r 10 (by omega), h.r 1 (by omega)]
  congr 1
  funext k
  exact nmA_eqB h k g r
theorem skS_eqB {A B : Mem} (h : eqB A B) (tx : Nat → Txt) (t g r : Int) : skS A tx t g r = skS B tx t g r := by
  unfold skS; rw [envA_eqB h, h.r 15 (by omega)]
theorem swS_eqB {A B : Mem} (h : eqB A B) (tx : Nat → Txt) (r : Int) : swS A tx r = swS B tx r := by
  unfold swS; rw [envA_eqB h, h.r 10 (by omega), h.2 1 (by omega)]
theorem canGo_eqB {A B : Mem} (h : eqB A B) (tx : Nat → Txt) (g r : Int) : canGo A tx g r = canGo B tx g r := by
  unfold canGo; rw [skS_eqB h, h.r 10 (by omega), h.r 11 (by omega), h.r 12 (by omega), h.r 2 (by omega), h.r 1 (by omega)]
theorem opN_eqB {A B : Mem} (h : eqB A B) (tx : Nat → Txt) (g : Int) : ∀ n : Nat, opN A tx g n = opN B tx g n
  | 0 => rfl
  | n + 1 => by unfold opN; rw [opN_eqB h tx g n, canGo_eqB h]
theorem opS_eqB {A B : Mem} (h : eqB A B) (tx : Nat → Txt) (g : Int) : opS A tx g = opS B tx g := by
  unfold opS; rw [opN_eqB h, h.r 10 (by omega)]
theorem kthR_eqB {A B : Mem} (h : eqB A B) (tx : Nat → Txt) (g : Int) : kthR A tx g = kthR B tx g := by
  unfold kthR; rw [opS_eqB h, h.2 3 (by omega)]
theorem bkW_eqB {A : Mem} (w g r m : Int) : eqB (bkW w A g r m) A := by
  unfold bkW
  split
  · exact eqB.rf A
  · exact ⟨fun q a b c d e => bkS_off ⟨a, b, c, d, e⟩, fun j hj => bkS_0 hj⟩
theorem goneW_eqB {A B : Mem} (h : eqB A B) (w w' : Int) (tx : Nat → Txt) (g r : Int) : eqB (goneW w A tx g r) (goneW w' B tx g r) := by
  unfold goneW
  have e1 : acrS A r (A 2 g) = acrS B r (B 2 g) := by unfold acrS; rw [h.r 11 (by omega), h.r 12 (by omega), h.r 2 (by omega)]
  rw [e1, skS_eqB h, h.r 10 (by omega), h.r 1 (by omega), h.r 3 (by omega)]
  exact ((((bkW_eqB w g r _).tr h).tr (bkW_eqB w' g r _).sm).set 1 r _).set 2 g _ |>.set 3 g _
theorem gstepW_eqB {A B : Mem} (h : eqB A B) (w w' : Int) (tx : Nat → Txt) (g : Int) : eqB (gstepW w A tx g) (gstepW w' B tx g) := by
  unfold gstepW
  rw [opS_eqB h, kthR_eqB h, h.2 3 (by omega)]
  split
  · exact h
  · exact goneW_eqB (h.set 0 3 _) w w' tx g _
theorem goersW_eqB {A B : Mem} (h : eqB A B) (w w' : Int) (tx : Nat → Txt) : ∀ n : Nat, eqB (goersW w A tx n).1 (goersW w' B tx n).1
  | 0 => h
  | n + 1 => gstepW_eqB (goersW_eqB h w w' tx n) w w' tx n
theorem swN_eqB {A B : Mem} (h : eqB A B) (tx : Nat → Txt) : ∀ n : Nat, eqB (swN A tx n) (swN B tx n)
  | 0 => h
  | n + 1 => by
    have ih := swN_eqB h tx n
    unfold swN
    rw [swS_eqB ih, ih.r 14 (by omega), ih.r 1 (by omega)]
    exact ih.set 1 _ _
theorem passW_eqB {A B : Mem} (h : eqB A B) (w w' : Int) (tx : Nat → Txt) : eqB (passW w A tx).1 (passW w' B tx).1 := by
  unfold passW
  have hr : eqB (rainS A) (rainS B) := by unfold rainS; rw [h.2 3 (by omega)]; exact (h.set 0 3 _).set 0 1 _
  show eqB (mset _ 0 2 (A 0 2 + 1)) (mset _ 0 2 (B 0 2 + 1))
  rw [h.2 2 (by omega), h.r 10 (by omega)]
  exact (swN_eqB (goersW_eqB hr w w' tx _) tx _).set 0 2 _
theorem passW_eq (w : Int) (A : Mem) (tx : Nat → Txt) : (passW w A tx).1 = mset (swN (goersW w (rainS A) tx (A 10 1).toNat).1 tx (A 10 0).toNat) 0 2 (A 0 2 + 1) := rfl
/-- days ahead -/
def foreW (w : Int) (tx : Nat → Txt) (A : Mem) : Nat → Mem
  | 0 => A
  | n + 1 => (passW w (foreW w tx A n) tx).1
theorem foreW_eqB {A : Mem} (w w' : Int) (tx : Nat → Txt) : ∀ n : Nat, eqB (foreW w tx A n) (foreW w' tx A n)
  | 0 => eqB.rf A
  | n + 1 => passW_eqB (foreW_eqB w w' tx n) w w' tx
theorem goneW_book {A : Mem} {tx : Nat → Txt} {g r : Int} {q : Nat} (hq : q = 4 ∨ q = 5 ∨ q = 6 ∨ q = 7) : goneW 0 A tx g r q = A q := by
  unfold goneW bkW; rw [if_pos rfl, mset_ne (by omega), mset_ne (by omega), mset_ne (by omega)]
theorem goneW_bn {A : Mem} {tx : Nat → Txt} {g r : Int} : goneW 0 A tx g r 0 4 = A 0 4 := by
  unfold goneW bkW; rw [if_pos rfl]; simp (disch := omega) only [mset_off]
theorem goersW_book {A : Mem} {tx : Nat → Txt} : ∀ n : Nat, (∀ q, (q = 4 ∨ q = 5 ∨ q = 6 ∨ q = 7) → (goersW 0 A tx n).1 q = A q) ∧ (goersW 0 A tx n).1 0 4 = A 0 4
  | 0 => ⟨fun _ _ => rfl, rfl⟩
  | n + 1 => by
    obtain ⟨i1, i2⟩ := goersW_book (A := A) (tx := tx) n
    refine ⟨fun q hq => ?_, ?_⟩
    · show gstepW 0 _ tx _ q = A q
      unfold gstepW
      split
      · exact i1 q hq
      · rw [goneW_book hq, mset_ne (by omega)]; exact i1 q hq
    · show gstepW 0 _ tx _ 0 4 = A 0 4
      unfold gstepW
      split
      · exact i2
      · rw [goneW_bn, mset_miss (by omega)]; exact i2
theorem swN_bn {A : Mem} {tx : Nat → Txt} (n : Nat) : swN A tx n 0 4 = A 0 4 := by rw [swN_told (by omega)]
theorem foreW_book {A : Mem} {tx : Nat → Txt} : ∀ n : Nat, (∀ q, (q = 4 ∨ q = 5 ∨ q = 6 ∨ q = 7) → foreW 0 tx A n q = A q) ∧ foreW 0 tx A n 0 4 = A 0 4
  | 0 => ⟨fun _ _ => rfl, rfl⟩
  | n + 1 => by
    obtain ⟨i1, i2⟩ := foreW_book (A := A) (tx := tx) n
    refine ⟨fun q hq => ?_, ?_⟩
    · show (passW 0 (foreW 0 tx A n) tx).1 q = A q
      rw [passW_eq, mset_ne (by omega), swN_told (by omega), (goersW_book _).1 q hq]
      unfold rainS
      rw [mset_ne (by omega), mset_ne (by omega)]; exact i1 q hq
    · show (passW 0 (foreW 0 tx A n) tx).1 0 4 = A 0 4
      rw [passW_eq, mset_miss (by omega), swN_bn, (goersW_book _).2]
      unfold rainS
      rw [mset_miss (by omega), mset_miss (by omega)]; exact i2
theorem goersW_told {w : Int} {A : Mem} {tx : Nat → Txt} {q : Nat} (hq : 8 ≤ q) : ∀ n : Nat, (goersW w A tx n).1 q = A q
  | 0 => rfl
  | n + 1 => by show gstepW w _ tx _ q = A q; rw [gstepW_told hq]; exact goersW_told hq n
theorem foreW_told {w : Int} {A : Mem} {tx : Nat → Txt} {q : Nat} (hq : 8 ≤ q) : ∀ n : Nat, foreW w tx A n q = A q
  | 0 => rfl
  | n + 1 => by
    show (passW w (foreW w tx A n) tx).1 q = A q
    rw [passW_eq, mset_ne (by omega), swN_told (by omega), goersW_told hq]
    unfold rainS
    rw [mset_ne (by omega), mset_ne (by omega)]; exact foreW_told hq n
theorem foreW_day {w : Int} {A : Mem} {tx : Nat → Txt} : ∀ n : Nat, foreW w tx A n 0 2 = A 0 2 + n
  | 0 => by show A 0 2 = _; simp
  | n + 1 => by
    show (passW w (foreW w tx A n) tx).1 0 2 = _
    rw [passW_eq, mset_self, foreW_day n]; omega
def foreS (A : Mem) (tx : Nat → Txt) (n what which : Int) : Int :=
  if what = 0 then foreW 0 tx A (min n (9999 - A 0 2)).toNat 1 which else if what = 1 then foreW 0 tx A (min n (9999 - A 0 2)).toNat 2 which else foreW 0 tx A (min n (9999 - A 0 2)).toNat 3 which
theorem restC_now {σ σ' A : Mem} (h : restC σ σ' A) : nowC σ' A := by
  obtain ⟨r0, r1, -, r3, -, r5⟩ := h
  exact ⟨r0, r1, r3, r5⟩

def wp_X0_foresee (x1 : Int) (x2 : Int) (x3 : Int) (σ : Mem) (Q : Int → Mem → Prop) : Prop :=
 ∀ P36 : Int → Int → Int → Int → Mem → Prop,
 (∀ (v2 : Int) (v3 : Int) (v4 : Int) (v5 : Int) (σ : Mem), (R32 v2 → R32 v3 → R32 v4 → R32 v5 → OKm σ →
   ((v4 ≤ v5) →
     ((v2 ≠ 0) →
      ((v2 ≠ 1) →
       (0 ≤ v3 ∧ v3 < 6) ∧
       ∃ g14 : Mem, (rowC σ 39 (0 : Int) g14 ∧ Cnt g14 ∧ (0 ≤ (0 : Int) ∧ (0 : Int) + 65 ≤ 65)) ∧
       ∀ σ18 : Mem, OKm σ18 → (restC σ σ18 g14 ∧ Fr [10, 11, 12, 13, 14] σ σ18) →
       Q (σ 13 v3) σ18) ∧
      ((v2 = 1) →
       (0 ≤ v3 ∧ v3 < 6) ∧
       ∃ g22 : Mem, (rowC σ 39 (0 : Int) g22 ∧ Cnt g22 ∧ (0 ≤ (0 : Int) ∧ (0 : Int) + 65 ≤ 65)) ∧
       ∀ σ26 : Mem, OKm σ26 → (restC σ σ26 g22 ∧ Fr [10, 11, 12, 13, 14] σ σ26) →
       Q (σ 12 v3) σ26)) ∧
     ((v2 = 0) →
      (0 ≤ v3 ∧ v3 < 16) ∧
      ∃ g30 : Mem, (rowC σ 39 (0 : Int) g30 ∧ Cnt g30 ∧ (0 ≤ (0 : Int) ∧ (0 : Int) + 65 ≤ 65)) ∧
      ∀ σ34 : Mem, OKm σ34 → (restC σ σ34 g30 ∧ Fr [10, 11, 12, 13, 14] σ σ34) →
      Q (σ 11 v3) σ34)) ∧
    ((v5 < v4) →
     ∃ g37 : Mem, ∃ g38 : Nat → Txt, (vwC σ g37 g38 ∧ g37 0 2 < 9999) ∧
     ∀ (u43 : Int) (σ42 : Mem), R32 u43 → OKm σ42 → (u43 = (passS g37 g38).2 ∧ vwC σ42 (passS g37 g38).1 g38 ∧ Fr PDC σ σ42) →
     R32 (v5 + 1) ∧ P36 v2 v3 v4 (v5 + 1) σ42)) → P36 v2 v3 v4 v5 σ) →
  ∃ g1 : Mem, (nowC σ g1 ∧ σ 1 8 = g1 10 0 ∧ σ 1 9 = g1 10 1 ∧ Cnt g1 ∧ (0 ≤ (0 : Int) ∧ (0 : Int) + 65 ≤ 65)) ∧
   ∀ σ5 : Mem, OKm σ5 → (rowC σ5 39 (0 : Int) g1 ∧ Fr [39] σ σ5 ∧ ∀ i : Int, (i < (0 : Int) ∨ (0 : Int) + 65 ≤ i) → σ5 39 i = σ 39 i) →
   R32 (9999 - (σ5 10 7)) ∧
   ∀ y9 : Int, y9 = (min x1 (9999 - (σ5 10 7))) →
   P36 x2 x3 y9 0 σ5
theorem mt_X0_foresee {d : Nat} (hd : 6 ≤ d) {x1 : Int} {x2 : Int} {x3 : Int} {σ : Mem} {Q : Int → Mem → Prop} (hx1 : R32 x1) (hx2 : R32 x2) (hx3 : R32 x3) (hO : OKm σ) (h : wp_X0_foresee x1 x2 x3 σ Q) : Mt yX0_foresee cX0_foresee 6 (some .int) d [aR (38), aI (x1), aI (x2), aI (x3)] σ (QI Q) := by
  refine Mt.intro (by decide +kernel) (Nat.le_of_ble_eq_true rfl) [(0, aR (38)), (1, aI (x1)), (2, aI (x2)), (3, aI (x3))] rfl ?_
  unfold wp_X0_foresee at h
  have h := h (fun (v2 : Int) (v3 : Int) (v4 : Int) (v5 : Int) (σ : Mem) => R32 v2 → R32 v3 → R32 v4 → R32 v5 → OKm σ → G yX0_foresee cX0_foresee 6 (some .int) d (QI Q) 36 [(0, aR (38)), (2, aI (v2)), (3, aI (v3)), (4, aI (v4)), (5, aI (v5))] [] σ) ?_
  · refine G_aload_n 0 rfl rfl dX0_foresee_0 ?_
    refine G_get (k := 1) (kd := (2, 10)) (v := aR 10) gf_X0_21 rfl rfl rfl rfl dX0_foresee_1 ?_
    refine G_aload_n 0 rfl rfl dX0_foresee_4 ?_
    refine G_get (k := 4) (kd := (3, 1)) (v := aR (39)) gf_X0_11 rfl rfl rfl rfl dX0_foresee_5 ?_
    refine G_iconst dX0_foresee_8 ?_
    refine G_aload_n 0 rfl rfl dX0_foresee_9 ?_
    refine G_get (k := 0) (kd := (2, 1)) (v := aR 1) gf_X0_17 rfl rfl rfl rfl dX0_foresee_10 ?_
    obtain ⟨g1, c2, h⟩ := h
    refine G_callV (as := [_, _, _]) cf_X0_176 rfl rfl rfl (sp_X6_keep_k (d - 1) (by omega) _ hO _ (rL 0 rfl) g1 c2) (by omega) rfl rfl (Nat.le_of_ble_eq_true rfl) dX0_foresee_13 ?_
    rintro _ σ5 ⟨rfl, z7⟩ o4 r3
    have h := h _ o4 z7
    refine G_iload_n 1 rfl rfl dX0_foresee_16 ?_
    refine G_sipush (by decide) dX0_foresee_17 ?_
    refine G_aload_n 0 rfl rfl dX0_foresee_20 ?_
    refine G_get (k := 1) (kd := (2, 10)) (v := aR 10) gf_X0_21 rfl rfl rfl rfl dX0_foresee_21 ?_
    refine G_get (k := 7) (kd := (0, 0)) (v := aI (σ5 10 7)) gf_X0_139 rfl rfl rfl rfl dX0_foresee_24 ?_
    refine G_isub dX0_foresee_27 ?_
    obtain ⟨c8, h⟩ := h
    refine G_mmin rfl hx1 c8 (Nat.le_of_ble_eq_true rfl) sf_X0_134 dX0_foresee_28 ?_
    have h := h _ rfl
    refine G_istore (lv' := [(4, aI (((min x1 (9999 - (σ5 10 7)))))), (0, aR (38)), (1, aI (x1)), (2, aI (x2)), (3, aI (x3))]) rfl (by decide) dX0_foresee_31 ?_
    refine G_iconst dX0_foresee_33 ?_
    refine G_istore (lv' := [(5, aI (0)), (4, aI (((min x1 (9999 - (σ5 10 7)))))), (0, aR (38)), (1, aI (x1)), (2, aI (x2)), (3, aI (x3))]) rfl (by decide) dX0_foresee_34 ?_
    exact G_pick [2, 4, 5, 1, 0] rfl (h hx2 hx3 (r32_min hx1 c8) (rL 0 rfl) o4)
  · intro v2 v3 v4 v5 σ h hv2 hv3 hv4 hv5 hO
    have h := h hv2 hv3 hv4 hv5 hO
    refine G_iload 4 rfl dX0_foresee_36 ?_
    refine G_iload 3 rfl dX0_foresee_38 ?_
    refine G_icmp_ge hv5 hv4 dX0_foresee_40 (tgt := 54) (by decide) (fun c10 => ?_) (fun c10 => ?_)
    · have h := h.1 c10
      refine G_iload_n 1 rfl rfl dX0_foresee_54 ?_
      refine G_if_ne hv2 dX0_foresee_55 (tgt := 70) (by decide) (fun c11 => ?_) (fun c11 => ?_)
      · have h := h.1 c11
        refine G_iload_n 1 rfl rfl dX0_foresee_70 ?_
        refine G_iconst dX0_foresee_71 ?_
        refine G_icmp_ne hv2 (rL 1 rfl) dX0_foresee_72 (tgt := 87) (by decide) (fun c12 => ?_) (fun c12 => ?_)
        · have h := h.1 c12
          refine G_aload_n 0 rfl rfl dX0_foresee_87 ?_
          refine G_get (k := 1) (kd := (2, 10)) (v := aR 10) gf_X0_21 rfl rfl rfl rfl dX0_foresee_88 ?_
          refine G_get (k := 2) (kd := (3, 3)) (v := aR (13)) gf_X0_63 rfl rfl rfl rfl dX0_foresee_91 ?_
          refine G_iload_n 2 rfl rfl dX0_foresee_94 ?_
          obtain ⟨c13, h⟩ := h
          refine G_iald (n := 6) rfl c13.1 c13.2 dX0_foresee_95 ?_
          refine G_istore (lv' := [(5, aI ((σ 13 v3))), (0, aR (38)), (2, aI (v2)), (3, aI (v3)), (4, aI (v4))]) rfl (by decide) dX0_foresee_96 ?_
          refine G_aload_n 1 rfl rfl dX0_foresee_98 ?_
          refine G_get (k := 1) (kd := (2, 10)) (v := aR 10) gf_X0_21 rfl rfl rfl rfl dX0_foresee_99 ?_
          refine G_aload_n 1 rfl rfl dX0_foresee_102 ?_
          refine G_get (k := 4) (kd := (3, 1)) (v := aR (39)) gf_X0_11 rfl rfl rfl rfl dX0_foresee_103 ?_
          refine G_iconst dX0_foresee_106 ?_
          obtain ⟨g14, c15, h⟩ := h
          refine G_callV (as := [_, _]) cf_X0_180 rfl rfl rfl (sp_X6_restore_k (d - 1) (by omega) _ hO _ (rL 0 rfl) g14 c15) (by omega) rfl rfl (Nat.le_of_ble_eq_true rfl) dX0_foresee_107 ?_
          rintro _ σ18 ⟨rfl, z20⟩ o17 r16
          have h := h _ o17 z20
          refine G_iload 0 rfl dX0_foresee_110 ?_
          exact G_iret rfl (OKm.i hO 13 v3 (isLg_row (show shp 13 = (1, 6, []) from rfl) _)) dX0_foresee_112 ⟨_, rfl, h⟩ o17
        · have h := h.2 c12
          refine G_aload_n 0 rfl rfl dX0_foresee_75 ?_
          refine G_get (k := 1) (kd := (2, 10)) (v := aR 10) gf_X0_21 rfl rfl rfl rfl dX0_foresee_76 ?_
          refine G_get (k := 1) (kd := (3, 2)) (v := aR (12)) gf_X0_60 rfl rfl rfl rfl dX0_foresee_79 ?_
          refine G_iload_n 2 rfl rfl dX0_foresee_82 ?_
          obtain ⟨c21, h⟩ := h
          refine G_iald (n := 6) rfl c21.1 c21.2 dX0_foresee_83 ?_
          refine G_goto (tgt := 96) dX0_foresee_84 (by decide) ?_
          refine G_istore (lv' := [(5, aI ((σ 12 v3))), (0, aR (38)), (2, aI (v2)), (3, aI (v3)), (4, aI (v4))]) rfl (by decide) dX0_foresee_96 ?_
          refine G_aload_n 1 rfl rfl dX0_foresee_98 ?_
          refine G_get (k := 1) (kd := (2, 10)) (v := aR 10) gf_X0_21 rfl rfl rfl rfl dX0_foresee_99 ?_
          refine G_aload_n 1 rfl rfl dX0_foresee_102 ?_
          refine G_get (k := 4) (kd := (3, 1)) (v := aR (39)) gf_X0_11 rfl rfl rfl rfl dX0_foresee_103 ?_
          refine G_iconst dX0_foresee_106 ?_
          obtain ⟨g22, c23, h⟩ := h
          refine G_callV (as := [_, _]) cf_X0_180 rfl rfl rfl (sp_X6_restore_k (d - 1) (by omega) _ hO _ (rL 0 rfl) g22 c23) (by omega) rfl rfl (Nat.le_of_ble_eq_true rfl) dX0_foresee_107 ?_
          rintro _ σ26 ⟨rfl, z28⟩ o25 r24
          have h := h _ o25 z28
          refine G_iload 0 rfl dX0_foresee_110 ?_
          exact G_iret rfl (OKm.i hO 12 v3 (isLg_row (show shp 12 = (1, 6, []) from rfl) _)) dX0_foresee_112 ⟨_, rfl, h⟩ o25
      · have h := h.2 c11
        refine G_aload_n 0 rfl rfl dX0_foresee_58 ?_
        refine G_get (k := 1) (kd := (2, 10)) (v := aR 10) gf_X0_21 rfl rfl rfl rfl dX0_foresee_59 ?_
        refine G_get (k := 0) (kd := (3, 1)) (v := aR (11)) gf_X0_51 rfl rfl rfl rfl dX0_foresee_62 ?_
        refine G_iload_n 2 rfl rfl dX0_foresee_65 ?_
        obtain ⟨c29, h⟩ := h
        refine G_iald (n := 16) rfl c29.1 c29.2 dX0_foresee_66 ?_
        refine G_goto (tgt := 96) dX0_foresee_67 (by decide) ?_
        refine G_istore (lv' := [(5, aI ((σ 11 v3))), (0, aR (38)), (2, aI (v2)), (3, aI (v3)), (4, aI (v4))]) rfl (by decide) dX0_foresee_96 ?_
        refine G_aload_n 1 rfl rfl dX0_foresee_98 ?_
        refine G_get (k := 1) (kd := (2, 10)) (v := aR 10) gf_X0_21 rfl rfl rfl rfl dX0_foresee_99 ?_
        refine G_aload_n 1 rfl rfl dX0_foresee_102 ?_
        refine G_get (k := 4) (kd := (3, 1)) (v := aR (39)) gf_X0_11 rfl rfl rfl rfl dX0_foresee_103 ?_
        refine G_iconst dX0_foresee_106 ?_
        obtain ⟨g30, c31, h⟩ := h
        refine G_callV (as := [_, _]) cf_X0_180 rfl rfl rfl (sp_X6_restore_k (d - 1) (by omega) _ hO _ (rL 0 rfl) g30 c31) (by omega) rfl rfl (Nat.le_of_ble_eq_true rfl) dX0_foresee_107 ?_
        rintro _ σ34 ⟨rfl, z36⟩ o33 r32
        have h := h _ o33 z36
        refine G_iload 0 rfl dX0_foresee_110 ?_
        exact G_iret rfl (OKm.i hO 11 v3 (isLg_row (show shp 11 = (1, 16, []) from rfl) _)) dX0_foresee_112 ⟨_, rfl, h⟩ o33
    · have h := h.2 c10
      refine G_aload_n 0 rfl rfl dX0_foresee_43 ?_
      obtain ⟨g37, g38, c39, h⟩ := h
      refine G_callV (as := []) cf_X0_148 rfl rfl rfl (sp_X0_passDay (d - 1) (by omega) _ hO  g37 g38 c39) (by omega) rfl rfl (Nat.le_of_ble_eq_true rfl) dX0_foresee_44 ?_
      rintro _ σ42 ⟨u43, rfl, z44⟩ o41 r40
      have h := h _ _ (r40 _ rfl) o41 z44
      refine G_pop rfl dX0_foresee_47 ?_
      refine G_iinc (lv' := [(5, aI ((v5 + 1))), (0, aR (38)), (2, aI (v2)), (3, aI (v3)), (4, aI (v4))]) (k := 4) rfl rfl (by decide) dX0_foresee_48 ?_
      refine G_goto (tgt := 36) dX0_foresee_51 (by decide) ?_
      obtain ⟨c45, h⟩ := h
      exact G_pick [1, 2, 3, 4, 0] rfl (h hv2 hv3 hv4 c45 o41)

theorem sp_X0_foresee (d : Nat) (hd : 6 ≤ d) (σ : Mem) (hO : OKm σ) (x1 : Int) (hx1 : R32 x1) (x2 : Int) (hx2 : R32 x2) (x3 : Int) (hx3 : R32 x3) (A : Mem) (tx : Nat → Txt) (hpre : vwC σ A tx ∧ (1 ≤ x1 ∧ x1 ≤ 60) ∧ ((x2 = 0 ∧ 0 ≤ x3 ∧ x3 < A 10 0) ∨ ((x2 = 1 ∨ x2 = 2) ∧ 0 ≤ x3 ∧ x3 < A 10 1))) : Mt yX0_foresee cX0_foresee 6 (some .int) d [aR (38), aI (x1), aI (x2), aI (x3)] σ (QI (fun v σ' => v = foreS A tx x1 x2 x3 ∧ vwC σ' A tx ∧ Fr [10, 11, 12, 13, 14, 37, 39] σ σ')) := mt_X0_foresee hd hx1 hx2 hx3 hO (by
  unfold wp_X0_foresee
  intro P36 h36
  obtain ⟨hV, hn, hw⟩ := hpre
  have hI := hV.2.2.1
  have hc := hI.cnt
  have k3 := hI.2.2.2.1
  refine ⟨A, ⟨hV.2.1, hV.1.1.1, hV.1.1.2.1, hc, by omega⟩, ?_⟩
  intro σ5 hO5 ⟨hrow, hF5, _⟩
  have hV5 : vwC σ5 A tx := hV.fr (hF5.wk (by simp))
  have e7 : σ5 10 7 = A 0 2 := hV5.2.1.1.2.2.1
  rw [e7]
  refine ⟨by unfold R32; omega, ?_⟩
  intro y9 e9
  have H : ∀ (n k : Nat) (τ : Mem), k + n = y9.toNat → vwC τ (foreW 1 tx A k) tx → Fr PDC σ5 τ → P36 x2 x3 y9 (k : Int) τ := by
    intro n
    induction n with
    | zero =>
      intro k τ hk hVt hF
      have em : (min x1 (9999 - A 0 2)).toNat = k := by omega
      have f39 : τ 39 = σ5 39 := frPD hF 39 (by omega)
      have hrow2 : rowC τ 39 0 A := by unfold rowC at *; rw [f39]; exact hrow
      have hq := foreW_eqB (A := A) 1 0 tx k
      have t10 : foreW 1 tx A k 10 = A 10 := foreW_told (by omega) k
      have fin : ∀ σ9 : Mem, restC τ σ9 A → Fr [10, 11, 12, 13, 14] τ σ9 → vwC σ9 A tx ∧ Fr [10, 11, 12, 13, 14, 37, 39] σ σ9 := fun σ9 h1 h2 => by
        have hF9 : Fr [10, 11, 12, 13, 14, 37, 39] σ σ9 := ((hF5.wk (by simp)).tr (hF.wk (by simp))).tr (h2.wk (by simp))
        exact ⟨hV.now (restC_now h1) hI (fun _ _ => rfl) (fun q hq => hF9 q (by simp; omega)), hF9⟩
      refine h36 _ _ _ _ _ (fun _ _ _ _ _ => ⟨fun _ => ⟨fun h0 => ⟨fun h1 => ?_, fun h1 => ?_⟩, fun h0 => ?_⟩, fun h => absurd h (by omega)⟩)
      · have hg : 0 ≤ x3 ∧ x3 < A 10 1 := by rcases hw with ⟨h, _⟩ | ⟨_, h⟩; exact absurd h h0; exact h
        unfold Cnt at hc
        refine ⟨by omega, A, ⟨hrow2, hI.cnt, by omega⟩, ?_⟩
        intro σ9 hO9 ⟨hr9, hF9⟩
        refine ⟨?_, fin σ9 hr9 hF9⟩
        rw [(hVt.2.1.2.2.1 x3 hg.1 (by rw [t10]; exact hg.2)).2]
        unfold foreS
        rw [if_neg h0, if_neg h1, em, hq.r 3 (by omega)]
      · have hg : 0 ≤ x3 ∧ x3 < A 10 1 := by rcases hw with ⟨h, _⟩ | ⟨_, h⟩; exact absurd h h0; exact h
        unfold Cnt at hc
        refine ⟨by omega, A, ⟨hrow2, hI.cnt, by omega⟩, ?_⟩
        intro σ9 hO9 ⟨hr9, hF9⟩
        refine ⟨?_, fin σ9 hr9 hF9⟩
        rw [(hVt.2.1.2.2.1 x3 hg.1 (by rw [t10]; exact hg.2)).1]
        unfold foreS
        rw [if_neg h0, if_pos h1, em, hq.r 2 (by omega)]
      · have hg : 0 ≤ x3 ∧ x3 < A 10 0 := by rcases hw with ⟨_, h⟩ | ⟨h, _⟩; exact h; exact absurd h0 (by omega)
        unfold Cnt at hc
        refine ⟨by omega, A, ⟨hrow2, hI.cnt, by omega⟩, ?_⟩
        intro σ9 hO9 ⟨hr9, hF9⟩
        refine ⟨?_, fin σ9 hr9 hF9⟩
        rw [hVt.2.1.2.1 x3 hg.1 (by rw [t10]; exact hg.2)]
        unfold foreS
        rw [if_pos h0, em, hq.r 1 (by omega)]
    | succ n ih =>
      intro k τ hk hVt hF
      have hd := foreW_day (w := 1) (A := A) (tx := tx) k
      refine h36 _ _ _ _ _ (fun _ _ _ _ _ => ⟨fun h => absurd h (by omega), fun _ => ⟨foreW 1 tx A k, tx, ⟨hVt, by rw [hd]; omega⟩, ?_⟩⟩)
      intro u2 σ2 hu2 hO2 ⟨eu2, hV2, hF2⟩
      refine ⟨by unfold R32; omega, ?_⟩
      rw [show ((k : Int) + 1) = ((k + 1 : Nat) : Int) by omega]
      refine ih (k + 1) σ2 (by omega) ?_ (hF.tr hF2)
      show vwC σ2 (passW 1 (foreW 1 tx A k) tx).1 tx
      rw [passW_1 (by omega)]; exact hV2
  exact H y9.toNat 0 σ5 (by omega) hV5 (Fr.rf _ _))

theorem vwM.upd2 {σ σ' A A' : Mem} {tx : Nat → Txt} (h : vwM σ A tx) (hN : nowM σ' 75 A') (hI : InvA A') (hA : ∀ q, 8 ≤ q → A' q = A q) (h75 : ∀ i : Int, (0 ≤ i ∧ i ≤ 3 ∨ i = 5 ∨ 39 ≤ i ∧ i < 139) → σ' 75 i = σ 75 i) (h77 : σ' 77 = σ 77) (h80 : σ' 80 = σ 80) : vwM σ' A' tx := by
  obtain ⟨h1, h2, h3, h4, h5⟩ := h
  have := h3.1
  refine ⟨toldM_same (toldM_low h1 (by omega) h75) hA, hN, hI, fun i hi => (h4 i (by rw [hA 10 (by omega)] at hi; exact hi)).congr (by omega) (fun j _ _ => by rw [h77]), ?_⟩
  unfold nmOK; rw [h80]; exact h5
def foreOK (A : Mem) (n what which : Int) : Prop := (1 ≤ n ∧ n ≤ 60) ∧ ((what = 0 ∧ 0 ≤ which ∧ which < A 10 0) ∨ ((what = 1 ∨ what = 2) ∧ 0 ≤ which ∧ which < A 10 1))

def wp_X12_foretold (x1 : Int) (x2 : Int) (x3 : Int) (σ : Mem) (Q : Int → Mem → Prop) : Prop :=
 ∀ P48 : Int → Int → Int → Int → Mem → Prop,
 ∀ P83 : Int → Int → Int → Int → Mem → Prop,
 ∀ P152 : Int → Int → Mem → Prop,
 (∀ (v1 : Int) (v2 : Int) (v3 : Int) (v4 : Int) (σ : Mem), (R32 v1 → R32 v2 → R32 v3 → R32 v4 → OKm σ →
   ((39 ≤ v4) →
     ∀ σ17 : Mem, σ17 = mset σ 74 23 0 →
     P83 v1 v2 v3 0 σ17) ∧
    ((v4 < 39) →
     (0 ≤ v4 ∧ v4 < 2119) ∧
     (0 ≤ v4 ∧ v4 < 39) ∧
     ∀ σ22 : Mem, σ22 = mset σ 83 v4 (σ 75 v4) →
     R32 (v4 + 1) ∧ P48 v1 v2 v3 (v4 + 1) σ22)) → P48 v1 v2 v3 v4 σ) →
 (∀ (v1 : Int) (v2 : Int) (v3 : Int) (v4 : Int) (σ : Mem), (R32 v1 → R32 v2 → R32 v3 → R32 v4 → OKm σ →
   ((v1 ≤ v4) →
     ((v2 ≠ 0) →
      ((v2 ≠ 1) →
       (0 ≤ v3 ∧ v3 < 6) ∧
       P152 (σ 75 (27 + 2 * v3 + 1)) 6 σ) ∧
      ((v2 = 1) →
       (0 ≤ v3 ∧ v3 < 6) ∧
       P152 (σ 75 (27 + 2 * v3)) 6 σ)) ∧
     ((v2 = 0) →
      (0 ≤ (11 + v3) ∧ (11 + v3) < 2119) ∧
      P152 (σ 75 (11 + v3)) 6 σ)) ∧
    ((v4 < v1) →
     ((9999 ≤ (σ 75 6)) →
      R32 (v4 + 1) ∧ P83 v1 v2 v3 (v4 + 1) σ) ∧
     (((σ 75 6) < 9999) →
      ∃ g38 : Mem, ∃ g39 : Nat → Txt, (vwM σ g38 g39 ∧ g38 0 2 < 9999 ∧ (0 ≤ σ 74 24 ∧ σ 74 24 < 900000000)) ∧
      ∀ σ43 : Mem, OKm σ43 → (vwM σ43 (passW (σ 74 23) g38 g39).1 g39 ∧ σ43 74 24 = σ 74 24 + (passW (σ 74 23) g38 g39).2 ∧ keepM σ σ43) →
      R32 (v4 + 1) ∧ P83 v1 v2 v3 (v4 + 1) σ43))) → P83 v1 v2 v3 v4 σ) →
 (∀ (v4 : Int) (v5 : Int) (σ : Mem), (R32 v4 → R32 v5 → OKm σ →
   ((39 ≤ v5) →
     ∀ σ48 : Mem, σ48 = mset σ 74 23 1 →
     Q v4 σ48) ∧
    ((v5 < 39) →
     (0 ≤ v5 ∧ v5 < 39) ∧
     (0 ≤ v5 ∧ v5 < 2119) ∧
     ∀ σ53 : Mem, σ53 = mset σ 75 v5 (σ 83 v5) →
     R32 (v5 + 1) ∧ P152 v4 (v5 + 1) σ53)) → P152 v4 v5 σ) →
  ((¬ ((1 : Int) ≤ x1 ∧ x1 ≤ (60 : Int))) →
    Q (-1) σ) ∧
   (((1 : Int) ≤ x1 ∧ x1 ≤ (60 : Int)) →
    ((¬ ((0 : Int) ≤ x2 ∧ x2 ≤ (2 : Int))) →
     Q (-1) σ) ∧
    (((0 : Int) ≤ x2 ∧ x2 ≤ (2 : Int)) →
     ((x2 ≠ 0) →
      (0 ≤ σ 75 1) ∧
      ((0 ≤ x3 ∧ x3 < σ 75 1) →
       P48 x1 x2 x3 6 σ) ∧
      ((¬ (0 ≤ x3 ∧ x3 < σ 75 1)) →
       Q (-1) σ)) ∧
     ((x2 = 0) →
      (0 ≤ σ 75 0) ∧
      ((¬ (0 ≤ x3 ∧ x3 < σ 75 0)) →
       Q (-1) σ) ∧
      ((0 ≤ x3 ∧ x3 < σ 75 0) →
       P48 x1 x2 x3 6 σ))))
theorem mt_X12_foretold {d : Nat} (hd : 9 ≤ d) {x1 : Int} {x2 : Int} {x3 : Int} {σ : Mem} {Q : Int → Mem → Prop} (hx1 : R32 x1) (hx2 : R32 x2) (hx3 : R32 x3) (hO : OKm σ) (h : wp_X12_foretold x1 x2 x3 σ Q) : Mt yX12_foretold cX12_foretold 6 (some .int) d [aR (74), aI (x1), aI (x2), aI (x3)] σ (QI Q) := by
  refine Mt.intro (by decide +kernel) (Nat.le_of_ble_eq_true rfl) [(0, aR (74)), (1, aI (x1)), (2, aI (x2)), (3, aI (x3))] rfl ?_
  unfold wp_X12_foretold at h
  have h := h (fun (v1 : Int) (v2 : Int) (v3 : Int) (v4 : Int) (σ : Mem) => R32 v1 → R32 v2 → R32 v3 → R32 v4 → OKm σ → G yX12_foretold cX12_foretold 6 (some .int) d (QI Q) 48 [(0, aR (74)), (1, aI (v1)), (2, aI (v2)), (3, aI (v3)), (4, aI (v4))] [] σ)
    (fun (v1 : Int) (v2 : Int) (v3 : Int) (v4 : Int) (σ : Mem) => R32 v1 → R32 v2 → R32 v3 → R32 v4 → OKm σ → G yX12_foretold cX12_foretold 6 (some .int) d (QI Q) 83 [(0, aR (74)), (1, aI (v1)), (2, aI (v2)), (3, aI (v3)), (4, aI (v4))] [] σ)
    (fun (v4 : Int) (v5 : Int) (σ : Mem) => R32 v4 → R32 v5 → OKm σ → G yX12_foretold cX12_foretold 6 (some .int) d (QI Q) 152 [(0, aR (74)), (4, aI (v4)), (5, aI (v5))] [] σ) ?_ ?_ ?_
  · refine G_iload_n 1 rfl rfl dX12_foretold_0 ?_
    refine G_iconst dX12_foretold_1 ?_
    refine G_bipush (by decide) dX12_foretold_2 ?_
    refine G_callS (as := [_, _, _]) cf_X12_81 rfl (sp_X12_isIn (d - 1) (by omega) _ hO _ hx1 _ (rL 1 rfl) _ (rL 60 rfl)) (by omega) rfl rfl (Nat.le_of_ble_eq_true rfl) dX12_foretold_4 ?_
    rintro _ _ ⟨_, rfl, rfl, rfl⟩ o2 r1
    refine G_if_eq (bI_R _) dX12_foretold_7 (tgt := 42) (by decide) (fun c3 => ?_) (fun c3 => ?_)
    · have h := h.1 ((bI_0 _).mp c3)
      refine G_iconst dX12_foretold_42 ?_
      exact G_iret rfl (rL (-1) rfl) dX12_foretold_43 ⟨_, rfl, h⟩ hO
    · have h := h.2 (bI_ne c3)
      refine G_iload_n 2 rfl rfl dX12_foretold_10 ?_
      refine G_iconst dX12_foretold_11 ?_
      refine G_iconst dX12_foretold_12 ?_
      refine G_callS (as := [_, _, _]) cf_X12_81 rfl (sp_X12_isIn (d - 1) (by omega) _ hO _ hx2 _ (rL 0 rfl) _ (rL 2 rfl)) (by omega) rfl rfl (Nat.le_of_ble_eq_true rfl) dX12_foretold_13 ?_
      rintro _ _ ⟨_, rfl, rfl, rfl⟩ o5 r4
      refine G_if_eq (bI_R _) dX12_foretold_16 (tgt := 42) (by decide) (fun c6 => ?_) (fun c6 => ?_)
      · have h := h.1 ((bI_0 _).mp c6)
        refine G_iconst dX12_foretold_42 ?_
        exact G_iret rfl (rL (-1) rfl) dX12_foretold_43 ⟨_, rfl, h⟩ hO
      · have h := h.2 (bI_ne c6)
        refine G_iload_n 2 rfl rfl dX12_foretold_19 ?_
        refine G_if_ne hx2 dX12_foretold_20 (tgt := 34) (by decide) (fun c7 => ?_) (fun c7 => ?_)
        · have h := h.1 c7
          refine G_aload_n 0 rfl rfl dX12_foretold_34 ?_
          refine G_iload_n 3 rfl rfl dX12_foretold_35 ?_
          obtain ⟨c8, h⟩ := h
          refine G_callV (as := [_]) cf_X12_330 rfl rfl rfl (sp_X12_isGoer (d - 1) (by omega) _ hO _ hx3 c8) (by omega) rfl rfl (Nat.le_of_ble_eq_true rfl) dX12_foretold_36 ?_
          rintro _ _ ⟨_, rfl, rfl, rfl⟩ o10 r9
          refine G_if_ne (bI_R _) dX12_foretold_39 (tgt := 44) (by decide) (fun c11 => ?_) (fun c11 => ?_)
          · have h := h.1 (bI_ne c11)
            refine G_bipush (by decide) dX12_foretold_44 ?_
            refine G_istore (lv' := [(4, aI (6)), (0, aR (74)), (1, aI (x1)), (2, aI (x2)), (3, aI (x3))]) rfl (by decide) dX12_foretold_46 ?_
            exact G_pick [1, 2, 3, 4, 0] rfl (h hx1 hx2 hx3 (rL 6 rfl) hO)
          · have h := h.2 ((bI_0 _).mp c11)
            refine G_iconst dX12_foretold_42 ?_
            exact G_iret rfl (rL (-1) rfl) dX12_foretold_43 ⟨_, rfl, h⟩ hO
        · have h := h.2 c7
          refine G_aload_n 0 rfl rfl dX12_foretold_23 ?_
          refine G_iload_n 3 rfl rfl dX12_foretold_24 ?_
          obtain ⟨c12, h⟩ := h
          refine G_callV (as := [_]) cf_X12_333 rfl rfl rfl (sp_X12_isRoad (d - 1) (by omega) _ hO _ hx3 c12) (by omega) rfl rfl (Nat.le_of_ble_eq_true rfl) dX12_foretold_25 ?_
          rintro _ _ ⟨_, rfl, rfl, rfl⟩ o14 r13
          refine G_if_eq (bI_R _) dX12_foretold_28 (tgt := 42) (by decide) (fun c15 => ?_) (fun c15 => ?_)
          · have h := h.1 ((bI_0 _).mp c15)
            refine G_iconst dX12_foretold_42 ?_
            exact G_iret rfl (rL (-1) rfl) dX12_foretold_43 ⟨_, rfl, h⟩ hO
          · have h := h.2 (bI_ne c15)
            refine G_goto (tgt := 44) dX12_foretold_31 (by decide) ?_
            refine G_bipush (by decide) dX12_foretold_44 ?_
            refine G_istore (lv' := [(4, aI (6)), (0, aR (74)), (1, aI (x1)), (2, aI (x2)), (3, aI (x3))]) rfl (by decide) dX12_foretold_46 ?_
            exact G_pick [1, 2, 3, 4, 0] rfl (h hx1 hx2 hx3 (rL 6 rfl) hO)
  · intro v1 v2 v3 v4 σ h hv1 hv2 hv3 hv4 hO
    have h := h hv1 hv2 hv3 hv4 hO
    refine G_iload 4 rfl dX12_foretold_48 ?_
    refine G_bipush (by decide) dX12_foretold_50 ?_
    refine G_icmp_ge hv4 (rL 39 rfl) dX12_foretold_52 (tgt := 75) (by decide) (fun c16 => ?_) (fun c16 => ?_)
    · have h := h.1 c16
      refine G_aload_n 0 rfl rfl dX12_foretold_75 ?_
      refine G_iconst dX12_foretold_76 ?_
      obtain ⟨σ17, e19⟩ : ∃ τ : Mem, τ = mset σ 74 23 0 := ⟨_, rfl⟩
      have h := h σ17 e19
      have o18 : OKm σ17 := by rw [e19]; exact OKm.seti hO _ _ _ (r01 (by decide)) rfl
      refine G_put (k := 23) (ki := 23) (kd := (5, 0)) (x := _) pf_X12_43 rfl rfl rfl rfl (fa_z (mset_self _ _ _ _)) (fun _ => narrow_b (by decide)) (fun _ => fits_b (by decide)) dX12_foretold_77 ?_
      rw [← e19]
      refine G_iconst dX12_foretold_80 ?_
      refine G_istore (lv' := [(4, aI (0)), (0, aR (74)), (1, aI (v1)), (2, aI (v2)), (3, aI (v3))]) rfl (by decide) dX12_foretold_81 ?_
      exact G_pick [1, 2, 3, 4, 0] rfl (h hv1 hv2 hv3 (rL 0 rfl) o18)
    · have h := h.2 c16
      refine G_aload_n 0 rfl rfl dX12_foretold_55 ?_
      refine G_get (k := 25) (kd := (2, 83)) (v := aR 83) gf_X12_47 rfl rfl rfl rfl dX12_foretold_56 ?_
      refine G_iload 4 rfl dX12_foretold_59 ?_
      refine G_aload_n 0 rfl rfl dX12_foretold_61 ?_
      refine G_get (k := 0) (kd := (2, 75)) (v := aR 75) gf_X12_7 rfl rfl rfl rfl dX12_foretold_62 ?_
      refine G_iload 4 rfl dX12_foretold_65 ?_
      obtain ⟨c20, h⟩ := h
      refine G_iald (n := 2119) rfl c20.1 c20.2 dX12_foretold_67 ?_
      obtain ⟨c21, h⟩ := h
      obtain ⟨σ22, e24⟩ : ∃ τ : Mem, τ = mset σ 83 v4 (σ 75 v4) := ⟨_, rfl⟩
      have h := h σ22 e24
      have o23 : OKm σ22 := by rw [e24]; exact OKm.seti hO _ _ _ (OKm.i hO 75 v4 (isLg_row (show shp 75 = (1, 2119, []) from rfl) _)) (isLg_row (show shp 83 = (1, 39, []) from rfl) _)
      refine G_iast (n := 39) rfl c21.1 c21.2 dX12_foretold_68 ?_
      rw [← e24]
      refine G_iinc (lv' := [(4, aI ((v4 + 1))), (0, aR (74)), (1, aI (v1)), (2, aI (v2)), (3, aI (v3))]) (k := 4) rfl rfl (by decide) dX12_foretold_69 ?_
      refine G_goto (tgt := 48) dX12_foretold_72 (by decide) ?_
      obtain ⟨c25, h⟩ := h
      exact G_pick [1, 2, 3, 4, 0] rfl (h hv1 hv2 hv3 c25 o23)
  · intro v1 v2 v3 v4 σ h hv1 hv2 hv3 hv4 hO
    have h := h hv1 hv2 hv3 hv4 hO
    refine G_iload 4 rfl dX12_foretold_83 ?_
    refine G_iload_n 1 rfl rfl dX12_foretold_85 ?_
    refine G_icmp_ge hv4 hv1 dX12_foretold_86 (tgt := 112) (by decide) (fun c26 => ?_) (fun c26 => ?_)
    · have h := h.1 c26
      refine G_iload_n 2 rfl rfl dX12_foretold_112 ?_
      refine G_if_ne hv2 dX12_foretold_113 (tgt := 128) (by decide) (fun c27 => ?_) (fun c27 => ?_)
      · have h := h.1 c27
        refine G_iload_n 2 rfl rfl dX12_foretold_128 ?_
        refine G_iconst dX12_foretold_129 ?_
        refine G_icmp_ne hv2 (rL 1 rfl) dX12_foretold_130 (tgt := 141) (by decide) (fun c28 => ?_) (fun c28 => ?_)
        · have h := h.1 c28
          refine G_aload_n 0 rfl rfl dX12_foretold_141 ?_
          refine G_iload_n 3 rfl rfl dX12_foretold_142 ?_
          obtain ⟨c29, h⟩ := h
          refine G_callV (as := [_]) cf_X12_311 rfl rfl rfl (sp_X12_went (d - 1) (by omega) _ hO _ hv3 c29) (by omega) rfl rfl (Nat.le_of_ble_eq_true rfl) dX12_foretold_143 ?_
          rintro _ _ ⟨_, rfl, rfl, rfl⟩ o31 r30
          refine G_istore (lv' := [(4, aI ((σ 75 (27 + 2 * v3 + 1)))), (0, aR (74)), (1, aI (v1)), (2, aI (v2)), (3, aI (v3))]) rfl (by decide) dX12_foretold_146 ?_
          refine G_bipush (by decide) dX12_foretold_148 ?_
          refine G_istore (lv' := [(5, aI (6)), (4, aI ((σ 75 (27 + 2 * v3 + 1)))), (0, aR (74)), (1, aI (v1)), (2, aI (v2)), (3, aI (v3))]) rfl (by decide) dX12_foretold_150 ?_
          exact G_pick [2, 1, 0] rfl (h (r30 _ rfl) (rL 6 rfl) hO)
        · have h := h.2 c28
          refine G_aload_n 0 rfl rfl dX12_foretold_133 ?_
          refine G_iload_n 3 rfl rfl dX12_foretold_134 ?_
          obtain ⟨c32, h⟩ := h
          refine G_callV (as := [_]) cf_X12_336 rfl rfl rfl (sp_X12_at0 (d - 1) (by omega) _ hO _ hv3 c32) (by omega) rfl rfl (Nat.le_of_ble_eq_true rfl) dX12_foretold_135 ?_
          rintro _ _ ⟨_, rfl, rfl, rfl⟩ o34 r33
          refine G_goto (tgt := 146) dX12_foretold_138 (by decide) ?_
          refine G_istore (lv' := [(4, aI ((σ 75 (27 + 2 * v3)))), (0, aR (74)), (1, aI (v1)), (2, aI (v2)), (3, aI (v3))]) rfl (by decide) dX12_foretold_146 ?_
          refine G_bipush (by decide) dX12_foretold_148 ?_
          refine G_istore (lv' := [(5, aI (6)), (4, aI ((σ 75 (27 + 2 * v3)))), (0, aR (74)), (1, aI (v1)), (2, aI (v2)), (3, aI (v3))]) rfl (by decide) dX12_foretold_150 ?_
          exact G_pick [2, 1, 0] rfl (h (r33 _ rfl) (rL 6 rfl) hO)
      · have h := h.2 c27
        refine G_aload_n 0 rfl rfl dX12_foretold_116 ?_
        refine G_get (k := 0) (kd := (2, 75)) (v := aR 75) gf_X12_7 rfl rfl rfl rfl dX12_foretold_117 ?_
        refine G_bipush (by decide) dX12_foretold_120 ?_
        refine G_iload_n 3 rfl rfl dX12_foretold_122 ?_
        refine G_iadd dX12_foretold_123 ?_
        obtain ⟨c35, h⟩ := h
        refine G_iald (n := 2119) rfl c35.1 c35.2 dX12_foretold_124 ?_
        refine G_goto (tgt := 146) dX12_foretold_125 (by decide) ?_
        refine G_istore (lv' := [(4, aI ((σ 75 (11 + v3)))), (0, aR (74)), (1, aI (v1)), (2, aI (v2)), (3, aI (v3))]) rfl (by decide) dX12_foretold_146 ?_
        refine G_bipush (by decide) dX12_foretold_148 ?_
        refine G_istore (lv' := [(5, aI (6)), (4, aI ((σ 75 (11 + v3)))), (0, aR (74)), (1, aI (v1)), (2, aI (v2)), (3, aI (v3))]) rfl (by decide) dX12_foretold_150 ?_
        exact G_pick [2, 1, 0] rfl (h (OKm.i hO 75 (11 + v3) (isLg_row (show shp 75 = (1, 2119, []) from rfl) _)) (rL 6 rfl) hO)
    · have h := h.2 c26
      refine G_aload_n 0 rfl rfl dX12_foretold_89 ?_
      refine G_get (k := 0) (kd := (2, 75)) (v := aR 75) gf_X12_7 rfl rfl rfl rfl dX12_foretold_90 ?_
      refine G_bipush (by decide) dX12_foretold_93 ?_
      refine G_iald (n := 2119) rfl (by decide) (by decide) dX12_foretold_95 ?_
      refine G_sipush (by decide) dX12_foretold_96 ?_
      refine G_icmp_ge (OKm.i hO 75 6 (isLg_row (show shp 75 = (1, 2119, []) from rfl) _)) (rL 9999 rfl) dX12_foretold_99 (tgt := 106) (by decide) (fun c36 => ?_) (fun c36 => ?_)
      · have h := h.1 c36
        refine G_iinc (lv' := [(4, aI ((v4 + 1))), (0, aR (74)), (1, aI (v1)), (2, aI (v2)), (3, aI (v3))]) (k := 4) rfl rfl (by decide) dX12_foretold_106 ?_
        refine G_goto (tgt := 83) dX12_foretold_109 (by decide) ?_
        obtain ⟨c37, h⟩ := h
        exact G_pick [1, 2, 3, 4, 0] rfl (h hv1 hv2 hv3 c37 hO)
      · have h := h.2 c36
        refine G_aload_n 0 rfl rfl dX12_foretold_102 ?_
        obtain ⟨g38, g39, c40, h⟩ := h
        refine G_callV (as := []) cf_X12_382 rfl rfl rfl (sp_X12_pass (d - 1) (by omega) _ hO  g38 g39 c40) (by omega) rfl rfl (Nat.le_of_ble_eq_true rfl) dX12_foretold_103 ?_
        rintro _ σ43 ⟨rfl, z45⟩ o42 r41
        have h := h _ o42 z45
        refine G_iinc (lv' := [(4, aI ((v4 + 1))), (0, aR (74)), (1, aI (v1)), (2, aI (v2)), (3, aI (v3))]) (k := 4) rfl rfl (by decide) dX12_foretold_106 ?_
        refine G_goto (tgt := 83) dX12_foretold_109 (by decide) ?_
        obtain ⟨c46, h⟩ := h
        exact G_pick [1, 2, 3, 4, 0] rfl (h hv1 hv2 hv3 c46 o42)
  · intro v4 v5 σ h hv4 hv5 hO
    have h := h hv4 hv5 hO
    refine G_iload 2 rfl dX12_foretold_152 ?_
    refine G_bipush (by decide) dX12_foretold_154 ?_
    refine G_icmp_ge hv5 (rL 39 rfl) dX12_foretold_156 (tgt := 179) (by decide) (fun c47 => ?_) (fun c47 => ?_)
    · have h := h.1 c47
      refine G_aload_n 0 rfl rfl dX12_foretold_179 ?_
      refine G_iconst dX12_foretold_180 ?_
      obtain ⟨σ48, e50⟩ : ∃ τ : Mem, τ = mset σ 74 23 1 := ⟨_, rfl⟩
      have h := h σ48 e50
      have o49 : OKm σ48 := by rw [e50]; exact OKm.seti hO _ _ _ (r01 (by decide)) rfl
      refine G_put (k := 23) (ki := 23) (kd := (5, 0)) (x := _) pf_X12_43 rfl rfl rfl rfl (fa_z (mset_self _ _ _ _)) (fun _ => narrow_b (by decide)) (fun _ => fits_b (by decide)) dX12_foretold_181 ?_
      rw [← e50]
      refine G_iload 1 rfl dX12_foretold_184 ?_
      exact G_iret rfl hv4 dX12_foretold_186 ⟨_, rfl, h⟩ o49
    · have h := h.2 c47
      refine G_aload_n 0 rfl rfl dX12_foretold_159 ?_
      refine G_get (k := 0) (kd := (2, 75)) (v := aR 75) gf_X12_7 rfl rfl rfl rfl dX12_foretold_160 ?_
      refine G_iload 2 rfl dX12_foretold_163 ?_
      refine G_aload_n 0 rfl rfl dX12_foretold_165 ?_
      refine G_get (k := 25) (kd := (2, 83)) (v := aR 83) gf_X12_47 rfl rfl rfl rfl dX12_foretold_166 ?_
      refine G_iload 2 rfl dX12_foretold_169 ?_
      obtain ⟨c51, h⟩ := h
      refine G_iald (n := 39) rfl c51.1 c51.2 dX12_foretold_171 ?_
      obtain ⟨c52, h⟩ := h
      obtain ⟨σ53, e55⟩ : ∃ τ : Mem, τ = mset σ 75 v5 (σ 83 v5) := ⟨_, rfl⟩
      have h := h σ53 e55
      have o54 : OKm σ53 := by rw [e55]; exact OKm.seti hO _ _ _ (OKm.i hO 83 v5 (isLg_row (show shp 83 = (1, 39, []) from rfl) _)) (isLg_row (show shp 75 = (1, 2119, []) from rfl) _)
      refine G_iast (n := 2119) rfl c52.1 c52.2 dX12_foretold_172 ?_
      rw [← e55]
      refine G_iinc (lv' := [(5, aI ((v5 + 1))), (0, aR (74)), (4, aI (v4))]) (k := 2) rfl rfl (by decide) dX12_foretold_173 ?_
      refine G_goto (tgt := 152) dX12_foretold_176 (by decide) ?_
      obtain ⟨c56, h⟩ := h
      exact G_pick [1, 2, 0] rfl (h hv4 c56 o54)

theorem sp_X12_foretold (d : Nat) (hd : 9 ≤ d) (σ : Mem) (hO : OKm σ) (x1 : Int) (hx1 : R32 x1) (x2 : Int) (hx2 : R32 x2) (x3 : Int) (hx3 : R32 x3) (A : Mem) (L : List Mem) (tx : Nat → Txt) (hpre : vsM σ A L tx ∧ σ 74 24 < 800000000) : Mt yX12_foretold cX12_foretold 6 (some .int) d [aR (74), aI (x1), aI (x2), aI (x3)] σ (QI (fun v σ' => (foreOK A x1 x2 x3 → v = foreS A tx x1 x2 x3) ∧ (¬ foreOK A x1 x2 x3 → v = -1) ∧ vsM σ' A L tx ∧ (∀ j : Int, j ≠ 24 → σ' 74 j = σ 74 j) ∧ Fr [74, 75, 80, 81, 82, 83] σ σ' ∧ σ' 74 24 ≤ σ 74 24 + 360)) := mt_X12_foretold hd hx1 hx2 hx3 hO (by
  unfold wp_X12_foretold
  intro P48 P83 P152 h48 h83 h152
  obtain ⟨hS, hgo⟩ := hpre
  have hV := hS.1
  have hI := hV.2.2.1
  have hc := hI.1
  have k3 := hI.2.2.2.1
  have e0 : σ 75 0 = A 10 0 := hV.1.1.1
  have e1 : σ 75 1 = A 10 1 := hV.1.1.2.1
  rw [e0, e1]
  have no : ¬ foreOK A x1 x2 x3 → (foreOK A x1 x2 x3 → (-1 : Int) = foreS A tx x1 x2 x3) ∧ (¬ foreOK A x1 x2 x3 → (-1 : Int) = -1) ∧ vsM σ A L tx ∧ (∀ j : Int, j ≠ 24 → σ 74 j = σ 74 j) ∧ Fr [74, 75, 80, 81, 82, 83] σ σ ∧ σ 74 24 ≤ σ 74 24 + 360 := fun h => ⟨fun h2 => absurd h2 h, fun _ => rfl, hS, fun _ _ => rfl, Fr.rf _ _, by omega⟩
  have hyes : foreOK A x1 x2 x3 → P48 x1 x2 x3 6 σ := by
    intro hok
    obtain ⟨M, eM⟩ : ∃ M : Nat, (M : Int) = min x1 (9999 - A 0 2) := ⟨(min x1 (9999 - A 0 2)).toNat, by have := hok.1; omega⟩
    have emM : (min x1 (9999 - A 0 2)).toNat = M := by omega
    have h30 := foreW_book (A := A) (tx := tx) M
    have hT10 : ∀ q, 8 ≤ q → foreW 0 tx A M q = A q := fun q hq => foreW_told hq M
    -- putting back
    have H152 : ∀ (n : Nat) (k : Int) (ρ τ : Mem), k + n = 39 → 6 ≤ k → vwM ρ (foreW 0 tx A M) tx → stepsM ρ 75 L → (∀ i : Int, 6 ≤ i → i < 39 → ρ 83 i = σ 75 i) → (∀ j : Int, j ≠ 24 → j ≠ 23 → ρ 74 j = σ 74 j) → (0 ≤ ρ 74 24 ∧ ρ 74 24 ≤ σ 74 24 + 360) → Fr [74, 75, 80, 81, 82, 83] σ ρ → Fr [75] ρ τ → (∀ i : Int, 6 ≤ i → i < k → τ 75 i = σ 75 i) → (∀ i : Int, i < 6 ∨ 39 ≤ i → τ 75 i = ρ 75 i) → P152 (foreS A tx x1 x2 x3) k τ := by
      intro n
      induction n with
      | zero =>
        intro k ρ τ hk hk6 hVr hLr h83r h74r hgr hFr hFt hdone hrest
        have hk : k = 39 := by omega
        subst hk
        refine h152 _ _ _ (fun _ _ _ => ⟨fun _ => ?_, fun h => absurd h (by omega)⟩)
        intro σ48 e48
        have f75 : σ48 75 = τ 75 := by rw [e48, mset_ne (by omega)]
        have hF48 : Fr [74, 75, 80, 81, 82, 83] σ σ48 := by rw [e48]; exact ((hFr.tr (hFt.wk (by simp))).set (by simp))
        have f74 : ∀ j : Int, j ≠ 23 → σ48 74 j = ρ 74 j := fun j hj => by rw [e48, mset_miss hj, hFt 74 (by simp)]
        have hV48 : vwM σ48 A tx := by
          refine ⟨?_, ?_, hI, fun i hi => (hVr.2.2.2.1 i (by rw [hT10 10 (by omega)]; exact hi)).congr (by omega) (fun j _ _ => by rw [e48, mset_off (by omega), hFt 77 (by simp)]), ?_⟩
          · have := toldM_same (A' := A) hVr.1 (fun q hq => (hT10 q hq).symm)
            refine toldM_low this (by omega) (fun i hi => ?_)
            rw [f75]; exact hrest i (by omega)
          · obtain ⟨m0, m1, m2, m3⟩ := hV.2.1
            refine ⟨?_, fun r h1 h2 => ?_, fun g h1 h2 => ?_, fun i h1 h2 => ?_⟩
            · rw [f75, hdone 6 (by omega) (by omega), hdone 7 (by omega) (by omega), hdone 8 (by omega) (by omega), hdone 9 (by omega) (by omega), hdone 10 (by omega) (by omega)]; exact m0
            · rw [f75, hdone _ (by omega) (by omega)]; exact m1 r h1 h2
            · rw [f75, hdone _ (by omega) (by omega), hdone _ (by omega) (by omega)]; exact m2 g h1 h2
            · rw [f75, hrest _ (by omega)]
              have := hVr.2.1.2.2.2 i h1 (by rw [h30.2]; exact h2)
              rw [this]
              unfold bkM
              rw [h30.1 4 (by omega), h30.1 5 (by omega), h30.1 6 (by omega), h30.1 7 (by omega)]
          · intro k h1 h2
            rw [e48, mset_off (by omega), hFt 80 (by simp)]; exact hVr.2.2.2.2 k h1 h2
        refine ⟨fun _ => rfl, fun h => absurd hok h, ⟨hV48, hLr.keep (fun j hj => by rw [f75]; exact hrest j (by omega)), by rw [e48, mset_hit rfl], by rw [f74 24 (by omega)]; exact hgr.1⟩, fun j hj => ?_, hF48, by rw [f74 24 (by omega)]; exact hgr.2⟩
        by_cases e : j = 23
        · subst e; rw [e48, mset_hit rfl, hS.2.2.1]
        · rw [f74 j e]; exact h74r j hj e
      | succ n ih =>
        intro k ρ τ hk hk6 hVr hLr h83r h74r hgr hFr hFt hdone hrest
        refine h152 _ _ _ (fun _ _ _ => ⟨fun h => absurd h (by omega), fun _ => ⟨by omega, by omega, ?_⟩⟩)
        intro σ53 e53
        refine ⟨by unfold R32; omega, ih (k + 1) ρ σ53 (by omega) (by omega) hVr hLr h83r h74r hgr hFr (by rw [e53]; exact hFt.set (by simp)) (fun i h1 h2 => ?_) (fun i hi => ?_)⟩
        · by_cases e : i = k
          · subst e; rw [e53, mset_hit rfl, hFt 83 (by simp)]; exact h83r i h1 (by omega)
          · rw [e53, mset_miss e]; exact hdone i h1 (by omega)
        · rw [e53, mset_miss (by omega)]; exact hrest i hi
    -- the days
    have H83 : ∀ (n k : Nat) (τ : Mem), (k : Int) + n = x1 → vwM τ (foreW 0 tx A (min k M)) tx → stepsM τ 75 L → τ 74 23 = 0 → (∀ i : Int, 6 ≤ i → i < 39 → τ 83 i = σ 75 i) → (∀ j : Int, j ≠ 24 → j ≠ 23 → τ 74 j = σ 74 j) → (0 ≤ τ 74 24 ∧ τ 74 24 ≤ σ 74 24 + 6 * k) → Fr [74, 75, 80, 81, 82, 83] σ τ → P83 x1 x2 x3 (k : Int) τ := by
      intro n
      induction n with
      | zero =>
        intro k τ hk hVt hLt hwt h83t h74t hgt hFt
        have hmin : min k M = M := by omega
        rw [hmin] at hVt
        have t10 : foreW 0 tx A M 10 = A 10 := hT10 10 (by omega)
        have h60 := hok.1
        have go : ∀ v : Int, v = foreS A tx x1 x2 x3 → P152 v 6 τ := fun v hv => by
          rw [hv]
          exact H152 33 6 τ τ (by omega) (by omega) hVt hLt h83t h74t (by omega) hFt (Fr.rf _ _) (fun i h1 h2 => by omega) (fun _ _ => rfl)
        refine h83 _ _ _ _ _ (fun _ _ _ _ _ => ⟨fun _ => ⟨fun h0 => ⟨fun h1 => ?_, fun h1 => ?_⟩, fun h0 => ?_⟩, fun h => absurd h (by omega)⟩)
        · have hg : 0 ≤ x3 ∧ x3 < A 10 1 := by rcases hok.2 with ⟨h, _⟩ | ⟨_, h⟩; exact absurd h h0; exact h
          refine ⟨by omega, go _ ?_⟩
          rw [(hVt.2.1.2.2.1 x3 hg.1 (by rw [t10]; exact hg.2)).2]
          unfold foreS
          rw [if_neg h0, if_neg h1, emM]
        · have hg : 0 ≤ x3 ∧ x3 < A 10 1 := by rcases hok.2 with ⟨h, _⟩ | ⟨_, h⟩; exact absurd h h0; exact h
          refine ⟨by omega, go _ ?_⟩
          rw [(hVt.2.1.2.2.1 x3 hg.1 (by rw [t10]; exact hg.2)).1]
          unfold foreS
          rw [if_neg h0, if_pos h1, emM]
        · have hg : 0 ≤ x3 ∧ x3 < A 10 0 := by rcases hok.2 with ⟨_, h⟩ | ⟨h, _⟩; exact h; exact absurd h0 (by omega)
          refine ⟨by omega, go _ ?_⟩
          rw [hVt.2.1.2.1 x3 hg.1 (by rw [t10]; exact hg.2)]
          unfold foreS
          rw [if_pos h0, emM]
      | succ n ih =>
        intro k τ hk hVt hLt hwt h83t h74t hgt hFt
        have hd := foreW_day (w := 0) (A := A) (tx := tx) (min k M)
        have e6 : τ 75 6 = A 0 2 + (min k M : Nat) := by rw [hVt.2.1.1.1, hd]
        have hR : R32 ((k : Int) + 1) := by have := hok.1; unfold R32; omega
        refine h83 _ _ _ _ _ (fun _ _ _ _ _ => ⟨fun h => absurd h (by omega), fun _ => ⟨fun hl => ⟨hR, ?_⟩, fun hl => ?_⟩⟩)
        · rw [show ((k : Int) + 1) = ((k + 1 : Nat) : Int) by omega]
          have : min (k + 1) M = min k M := by omega
          exact ih (k + 1) τ (by omega) (by rw [this]; exact hVt) hLt hwt h83t h74t (by omega) hFt
        · have hpc := (goersW_ok (w := 0) (tx := tx) (rainS_ok hVt.2.2.1) (foreW 0 tx A (min k M) 10 1).toNat (by have := hVt.2.2.1.1; unfold rainS; rw [mset_ne (by omega), mset_ne (by omega)]; omega)).2.2
          have h61 := hVt.2.2.1.1
          have h60 := hok.1
          refine ⟨foreW 0 tx A (min k M), tx, ⟨hVt, by rw [hd]; omega, by omega⟩, ?_⟩
          intro σ43 hO43 ⟨hV43, hn43, hk43⟩
          rw [hwt] at hV43 hn43
          have hn43 : σ43 74 24 = τ 74 24 + (goersW 0 (rainS (foreW 0 tx A (min k M))) tx (foreW 0 tx A (min k M) 10 1).toNat).2 := hn43
          refine ⟨hR, ?_⟩
          rw [show ((k : Int) + 1) = ((k + 1 : Nat) : Int) by omega]
          have hmin : min (k + 1) M = min k M + 1 := by omega
          refine ih (k + 1) σ43 (by omega) (by rw [hmin]; exact hV43) (hLt.keep hk43.2.1) (by rw [hk43.1 23 (by omega)]; exact hwt) (fun i h1 h2 => by rw [hk43.2.2 83 (by simp)]; exact h83t i h1 h2) (fun j h1 h2 => by rw [hk43.1 j h1]; exact h74t j h1 h2) (by omega) (hFt.tr (hk43.2.2.wk (by simp)))
    -- laying aside
    have H48 : ∀ (n : Nat) (k : Int) (τ : Mem), k + n = 39 → 6 ≤ k → (∀ i : Int, 6 ≤ i → i < k → τ 83 i = σ 75 i) → Fr [83] σ τ → P48 x1 x2 x3 k τ := by
      intro n
      induction n with
      | zero =>
        intro k τ hk hk6 hdone hF
        refine h48 _ _ _ _ _ (fun _ _ _ _ _ => ⟨fun _ => ?_, fun h => absurd h (by omega)⟩)
        intro σ17 e17
        have f : ∀ q : Nat, q ≠ 74 → q ≠ 83 → σ17 q = σ q := fun q h1 h2 => by rw [e17, mset_ne h1, hF q (by simp; omega)]
        have h60 := hok.1
        refine H83 x1.toNat 0 σ17 (by omega) ?_ (hS.2.1.keep (fun j _ => by rw [f 75 (by omega) (by omega)])) (by rw [e17, mset_hit rfl]) (fun i h1 h2 => by rw [e17, mset_off (by omega)]; exact hdone i h1 (by omega)) (fun j h1 h2 => by rw [e17, mset_miss h2, hF 74 (by simp)]) (by rw [e17, mset_miss (by omega), hF 74 (by simp)]; exact ⟨hS.2.2.2, by omega⟩) (by rw [e17]; exact (hF.wk (by simp)).set (by simp))
        have : min 0 M = 0 := by omega
        rw [this]
        show vwM σ17 A tx
        exact hV.upd2 (by have := hV.2.1; unfold nowM at *; rw [f 75 (by omega) (by omega)]; exact this) hI (fun _ _ => rfl) (fun i _ => by rw [f 75 (by omega) (by omega)]) (f 77 (by omega) (by omega)) (f 80 (by omega) (by omega))
      | succ n ih =>
        intro k τ hk hk6 hdone hF
        refine h48 _ _ _ _ _ (fun _ _ _ _ _ => ⟨fun h => absurd h (by omega), fun _ => ⟨by omega, by omega, ?_⟩⟩)
        intro σ22 e22
        refine ⟨by unfold R32; omega, ih (k + 1) σ22 (by omega) (by omega) (fun i h1 h2 => ?_) (by rw [e22]; exact hF.set (by simp))⟩
        by_cases e : i = k
        · subst e; rw [e22, mset_hit rfl, hF 75 (by simp)]
        · rw [e22, mset_miss e]; exact hdone i h1 (by omega)
    exact H48 33 6 σ (by omega) (by omega) (fun i h1 h2 => by omega) (Fr.rf _ _)
  refine ⟨fun h => no (fun q => h q.1), fun h1 => ⟨fun h => no (fun q => by have := q.2; omega), fun h2 => ⟨fun h0 => ⟨by omega, fun hg => hyes ⟨h1, Or.inr ⟨by omega, hg⟩⟩, fun hg => no (fun q => by rcases q.2 with ⟨h, _⟩ | ⟨_, h⟩; exact absurd h h0; exact hg h)⟩, fun h0 => ⟨by omega, fun hg => no (fun q => by rcases q.2 with ⟨_, h⟩ | ⟨h, _⟩; exact hg h; omega), fun hg => hyes ⟨h1, Or.inl ⟨h0, hg⟩⟩⟩⟩⟩⟩)
