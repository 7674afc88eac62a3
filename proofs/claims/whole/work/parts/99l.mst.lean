/-- the pile, its top first -/
def plR (σ : Mem) : List Int → Prop
  | [] => True
  | x :: r => σ 79 (r.length : Int) = x ∧ plR σ r
theorem plR.congr {σ σ' : Mem} : ∀ {p : List Int}, plR σ p → (∀ j : Int, 0 ≤ j → j < (p.length : Int) → σ' 79 j = σ 79 j) → plR σ' p
  | [], _, _ => trivial
  | x :: r, h, he => ⟨by rw [he _ (by omega) (by simp; omega)]; exact h.1, plR.congr h.2 (fun j q1 q2 => he j q1 (by simp; omega))⟩
def plC (σ : Mem) (p : List Int) : Prop := plR σ p ∧ σ 74 16 = (p.length : Int) ∧ p.length ≤ 160
def opI : List Int → Int
  | [] => -1
  | x :: r => if 40 ≤ x then (r.length : Int) else opI r
theorem opI_P {σ : Mem} : ∀ {p : List Int}, plR σ p → (0 ≤ opI p → opI p < (p.length : Int) ∧ σ 79 (opI p) = opP p ∧ 40 ≤ opP p) ∧ (opI p < 0 → opP p = -1)
  | [], _ => ⟨fun h => absurd h (by decide), fun _ => rfl⟩
  | x :: r, h => by
    have ih := opI_P h.2
    by_cases q : 40 ≤ x
    · have e1 : opI (x :: r) = (r.length : Int) := by show (if 40 ≤ x then _ else _) = _; rw [if_pos q]
      have e2 : opP (x :: r) = x := by show (if 40 ≤ x then _ else _) = _; rw [if_pos q]
      rw [e1, e2]
      exact ⟨fun _ => ⟨by simp; omega, h.1, q⟩, fun z => by omega⟩
    · have e1 : opI (x :: r) = opI r := by show (if 40 ≤ x then _ else _) = _; rw [if_neg q]
      have e2 : opP (x :: r) = opP r := by show (if 40 ≤ x then _ else _) = _; rw [if_neg q]
      rw [e1, e2]
      exact ⟨fun z => ⟨by have := (ih.1 z).1; simp; omega, (ih.1 z).2⟩, ih.2⟩
/-- what a law's reading leaves as it was -/
def frL (σ σ' : Mem) (ti a : Int) : Prop := Fr [74, 77, 79] σ σ' ∧ (∀ j : Int, (j < 7 ∨ j = 12 ∨ j = 14 ∨ j = 15 ∨ 19 ≤ j) → σ' 74 j = σ 74 j) ∧ ∀ j : Int, (j < 729 * ti + 121 + 2 * a ∨ 729 * ti + 729 ≤ j) → σ' 77 j = σ 77 j
/-- the machine in memory, but for its token; n: how many tokens were taken -/
def mC (z0 : Mem) (ti lw a : Int) (σ : Mem) (p : List Int) (o : Int) (n : Nat) (k : SK) : Prop := (0 ≤ ti ∧ ti ≤ 3 ∧ σ 74 12 = 729 * ti) ∧ σ 74 14 = (if lw = 9 then 0 else 1) ∧ σ 74 16 = (p.length : Int) ∧ plR σ p ∧ σ 74 17 = o ∧ (o ≤ 8 ∧ (p.length : Int) - n ≤ o) ∧ (0 ≤ a ∧ σ 74 13 + (p.length : Int) ≤ n ∧ n ≤ 300) ∧ SGO (cdM σ ti) (ovM σ ti) a (σ 74 13) k ∧ frL z0 σ ti a
theorem mC.plc {z0 : Mem} {ti lw a : Int} {σ : Mem} {p : List Int} {o : Int} {n : Nat} {k : SK} (h : mC z0 ti lw a σ p o n k) (hl : p.length ≤ 160) : plC σ p := ⟨h.2.2.2.1, h.2.2.1, hl⟩
theorem mC.w {z0 : Mem} {ti lw a : Int} {σ : Mem} {p : List Int} {o : Int} {n : Nat} {k : SK} (h : mC z0 ti lw a σ p o n k) : 0 ≤ σ 74 13 ∧ σ 74 13 + (p.length : Int) ≤ n ∧ n ≤ 300 ∧ a ≤ σ 74 13 ∧ 0 ≤ a := by
  obtain ⟨t1, t2, t3, t4, t5, t6, t7, t8, t9⟩ := h
  have := t8.le
  omega
theorem mC.keep {z0 : Mem} {ti lw a : Int} {σ σ' : Mem} {p p' : List Int} {o o' : Int} {n m : Nat} {k : SK} (h : mC z0 ti lw a σ p o n k) (h16 : σ' 74 16 = (p'.length : Int)) (hp : plR σ' p') (h17 : σ' 74 17 = o') (ho : o' ≤ 8 ∧ (p'.length : Int) - m ≤ o') (hw : σ 74 13 + (p'.length : Int) ≤ m ∧ m ≤ 300) (hj : ∀ j : Int, (j < 7 ∨ j = 12 ∨ j = 13 ∨ j = 14 ∨ j = 15 ∨ 19 ≤ j) → σ' 74 j = σ 74 j) (hF : Fr [74, 79] σ σ') : mC z0 ti lw a σ' p' o' m k := by
  obtain ⟨t1, t2, t3, t4, t5, t6, t7, t8, t9⟩ := h
  have e7 : σ' 77 = σ 77 := hF 77 (by simp)
  refine ⟨⟨t1.1, t1.2.1, by rw [hj 12 (by omega)]; exact t1.2.2⟩, by rw [hj 14 (by omega)]; exact t2, h16, hp, h17, ho, ⟨t7.1, by rw [hj 13 (by omega)]; exact hw.1, hw.2⟩, ?_, t9.1.tr (hF.wk (by simp)), fun j q => by rw [hj j (by omega)]; exact t9.2.1 j q, fun j q => by rw [e7]; exact t9.2.2 j q⟩
  rw [hj 13 (by omega)]
  unfold cdM ovM
  rw [e7]; exact t8
theorem mC.emit {z0 : Mem} {ti lw a : Int} {σ σ' : Mem} {p p' : List Int} {o o' oc v : Int} {n m : Nat} {k : SK} (h : mC z0 ti lw a σ p o n k) (h16 : σ' 74 16 = (p'.length : Int)) (hp : plR σ' p') (h17 : σ' 74 17 = o') (ho : o' ≤ 8 ∧ (p'.length : Int) - m ≤ o') (h13 : σ' 74 13 = σ 74 13 + 1) (hw : σ 74 13 + 1 + (p'.length : Int) ≤ m ∧ m ≤ 300) (hj : ∀ j : Int, (j < 7 ∨ j = 12 ∨ j = 14 ∨ j = 15 ∨ 19 ≤ j) → σ' 74 j = σ 74 j) (hF : Fr [74, 77, 79] σ σ') (hc : σ' 77 (729 * ti + 121 + 2 * σ 74 13) = oc) (hv : σ' 77 (729 * ti + 121 + 2 * σ 74 13 + 1) = v) (hk : ∀ j : Int, j ≠ 729 * ti + 121 + 2 * σ 74 13 → j ≠ 729 * ti + 121 + 2 * σ 74 13 + 1 → σ' 77 j = σ 77 j) (h3 : oc = 0 → Mil v) (h4 : oc = 1 → 0 ≤ v ∧ v ≤ 8) : mC z0 ti lw a σ' p' o' m (em oc v k) := by
  obtain ⟨t1, t2, t3, t4, t5, t6, t7, t8, t9⟩ := h
  have hle := t8.le
  refine ⟨⟨t1.1, t1.2.1, by rw [hj 12 (by omega)]; exact t1.2.2⟩, by rw [hj 14 (by omega)]; exact t2, h16, hp, h17, ho, ⟨t7.1, by rw [h13]; exact hw.1, hw.2⟩, ?_, t9.1.tr hF, fun j q => by rw [hj j q]; exact t9.2.1 j q, fun j q => by rw [hk j (by omega) (by omega)]; exact t9.2.2 j q⟩
  rw [h13]
  exact sgo_em t8 (fun j q1 q2 => ⟨hk (729 * ti + 121 + 2 * j) (by omega) (by omega), hk (729 * ti + 121 + 2 * j + 1) (by omega) (by omega)⟩) hc hv h3 h4
theorem mC.next {z0 : Mem} {ti lw a : Int} {b : Int → Int} {N : Int} {σ σ' : Mem} {p : List Int} {o : Int} {n m : Nat} {k : SK} (h : mC z0 ti lw a σ p o n k) (hm : n ≤ m ∧ m ≤ 300) (hj : ∀ j : Int, j ≠ 7 → j ≠ 8 → j ≠ 9 → j ≠ 10 → j ≠ 11 → σ' 74 j = σ 74 j) (hF : Fr [74] σ σ') : mC z0 ti lw a σ' p o m k := by
  have w := h.w
  have ho := h.2.2.2.2.2.1
  have e9 : σ' 79 = σ 79 := hF 79 (by simp)
  exact h.keep (by rw [hj 16 (by omega) (by omega) (by omega) (by omega) (by omega)]; exact h.2.2.1) (h.2.2.2.1.congr (fun j _ _ => by rw [e9])) (by rw [hj 17 (by omega) (by omega) (by omega) (by omega) (by omega)]; exact h.2.2.2.2.1) (by omega) (by omega) (fun j q => hj j (by omega) (by omega) (by omega) (by omega) (by omega)) (hF.wk (by simp))
theorem kd_300 {b : Int → Int} {N : Int} {σ : Mem} {i : Nat} (h : tkM σ b N i) (hk : kd b N i ≠ 43) : i + 1 ≤ 300 := by
  have := (kd_lt h.1 hk).1; omega

def wp_X12_settle (x1 : Int) (σ : Mem) (Q : Mem → Prop) : Prop :=
 ∀ P0 : Int → Mem → Prop,
 (∀ (v1 : Int) (σ : Mem), (R32 v1 → OKm σ →
   (((σ 74 16) ≤ 0) →
     Q σ) ∧
    ((0 < (σ 74 16)) →
     (0 ≤ ((σ 74 16) - 1) ∧ ((σ 74 16) - 1) < 160) ∧
     (((rankS (σ 79 ((σ 74 16) - 1))) < v1) →
      Q σ) ∧
     ((v1 ≤ (rankS (σ 79 ((σ 74 16) - 1)))) →
      R32 ((σ 74 16) - 1) ∧
      ∀ σ6 : Mem, σ6 = mset σ 74 16 ((σ 74 16) - 1) →
      (0 ≤ (σ6 74 16) ∧ (σ6 74 16) < 160) ∧
      (0 ≤ σ6 74 12 ∧ σ6 74 12 ≤ 2187 ∧ 0 ≤ σ6 74 13 ∧ σ6 74 13 ≤ 303) ∧
      ∀ σ14 : Mem, σ14 = (mset (mset (mset σ6 77 (σ6 74 12 + 121 + 2 * σ6 74 13) (σ6 79 (σ6 74 16))) 77 (σ6 74 12 + 121 + 2 * σ6 74 13 + 1) (0 : Int)) 74 13 (σ6 74 13 + 1)) →
      (0 ≤ (σ14 74 16) ∧ (σ14 74 16) < 160) ∧
      (((rankS (σ14 79 (σ14 74 16))) = 7) →
       R32 ((σ14 74 17) - 1) ∧
       ∀ σ20 : Mem, σ20 = mset σ14 74 17 ((σ14 74 17) - 1) →
       P0 v1 σ20) ∧
      (((rankS (σ14 79 (σ14 74 16))) ≠ 7) →
       (0 ≤ (σ14 74 16) ∧ (σ14 74 16) < 160) ∧
       (((σ14 79 (σ14 74 16)) ≠ 20) →
        P0 v1 σ14) ∧
       (((σ14 79 (σ14 74 16)) = 20) →
        R32 ((σ14 74 17) - 1) ∧
        ∀ σ26 : Mem, σ26 = mset σ14 74 17 ((σ14 74 17) - 1) →
        P0 v1 σ26))))) → P0 v1 σ) →
  P0 x1 σ
theorem mt_X12_settle {d : Nat} (hd : 1 ≤ d) {x1 : Int} {σ : Mem} {Q : Mem → Prop} (hx1 : R32 x1) (hO : OKm σ) (h : wp_X12_settle x1 σ Q) : Mt yX12_settle cX12_settle 2 none d [aR (74), aI (x1)] σ (QV Q) := by
  refine Mt.intro (by decide +kernel) (Nat.le_of_ble_eq_true rfl) [(0, aR (74)), (1, aI (x1))] rfl ?_
  unfold wp_X12_settle at h
  have h := h (fun (v1 : Int) (σ : Mem) => R32 v1 → OKm σ → G yX12_settle cX12_settle 2 none d (QV Q) 0 [(0, aR (74)), (1, aI (v1))] [] σ) ?_
  · exact G_pick [0, 1] rfl (h hx1 hO)
  · intro v1 σ h hv1 hO
    have h := h hv1 hO
    refine G_aload_n 0 rfl rfl dX12_settle_0 ?_
    refine G_get (k := 16) (kd := (0, 0)) (v := aI (σ 74 16)) gf_X12_160 rfl rfl rfl rfl dX12_settle_1 ?_
    refine G_if_le (OKm.i hO 74 16 rfl) dX12_settle_4 (tgt := 93) (by decide) (fun c1 => ?_) (fun c1 => ?_)
    · have h := h.1 c1
      exact G_vret rfl dX12_settle_93 ⟨rfl, h⟩ hO
    · have h := h.2 c1
      refine G_aload_n 0 rfl rfl dX12_settle_7 ?_
      refine G_get (k := 15) (kd := (2, 79)) (v := aR 79) gf_X12_29 rfl rfl rfl rfl dX12_settle_8 ?_
      refine G_aload_n 0 rfl rfl dX12_settle_11 ?_
      refine G_get (k := 16) (kd := (0, 0)) (v := aI (σ 74 16)) gf_X12_160 rfl rfl rfl rfl dX12_settle_12 ?_
      refine G_iconst dX12_settle_15 ?_
      refine G_isub dX12_settle_16 ?_
      obtain ⟨c2, h⟩ := h
      refine G_iald (n := 160) rfl c2.1 c2.2 dX12_settle_17 ?_
      refine G_callS (as := [_]) cf_X12_163 rfl (sp_X12_rank (d - 1) (by omega) _ hO _ (OKm.i hO 79 ((σ 74 16) - 1) (isLg_row (show shp 79 = (1, 160, []) from rfl) _))) (by omega) rfl rfl (Nat.le_of_ble_eq_true rfl) dX12_settle_18 ?_
      rintro _ _ ⟨_, rfl, rfl, rfl⟩ o4 r3
      refine G_iload_n 1 rfl rfl dX12_settle_21 ?_
      refine G_icmp_lt (r3 _ rfl) hv1 dX12_settle_22 (tgt := 93) (by decide) (fun c5 => ?_) (fun c5 => ?_)
      · have h := h.1 c5
        exact G_vret rfl dX12_settle_93 ⟨rfl, h⟩ hO
      · have h := h.2 c5
        refine G_aload_n 0 rfl rfl dX12_settle_25 ?_
        refine G_dup rfl dX12_settle_26 ?_
        refine G_get (k := 16) (kd := (0, 0)) (v := aI (σ 74 16)) gf_X12_160 rfl rfl rfl rfl dX12_settle_27 ?_
        refine G_iconst dX12_settle_30 ?_
        refine G_isub dX12_settle_31 ?_
        obtain ⟨c7, h⟩ := h
        obtain ⟨σ6, e9⟩ : ∃ τ : Mem, τ = mset σ 74 16 ((σ 74 16) - 1) := ⟨_, rfl⟩
        have h := h σ6 e9
        have o8 : OKm σ6 := by rw [e9]; exact OKm.seti hO _ _ _ c7 rfl
        refine G_put (k := 16) (ki := 16) (kd := (0, 0)) (x := _) pf_X12_160 rfl rfl rfl rfl (fa_i (mset_self _ _ _ _)) (fun _ => rfl) (fun _ => rfl) dX12_settle_32 ?_
        rw [← e9]
        refine G_aload_n 0 rfl rfl dX12_settle_35 ?_
        refine G_aload_n 0 rfl rfl dX12_settle_36 ?_
        refine G_get (k := 15) (kd := (2, 79)) (v := aR 79) gf_X12_29 rfl rfl rfl rfl dX12_settle_37 ?_
        refine G_aload_n 0 rfl rfl dX12_settle_40 ?_
        refine G_get (k := 16) (kd := (0, 0)) (v := aI (σ6 74 16)) gf_X12_160 rfl rfl rfl rfl dX12_settle_41 ?_
        obtain ⟨c10, h⟩ := h
        refine G_iald (n := 160) rfl c10.1 c10.2 dX12_settle_44 ?_
        refine G_iconst dX12_settle_45 ?_
        obtain ⟨c11, h⟩ := h
        refine G_callV (as := [_, _]) cf_X12_166 rfl rfl rfl (sp_X12_emit (d - 1) (by omega) _ o8 _ (OKm.i o8 79 (σ6 74 16) (isLg_row (show shp 79 = (1, 160, []) from rfl) _)) _ (rL 0 rfl) c11) (by omega) rfl rfl (Nat.le_of_ble_eq_true rfl) dX12_settle_46 ?_
        rintro _ σ14 ⟨rfl, e15⟩ o13 r12
        have h := h σ14 e15
        refine G_aload_n 0 rfl rfl dX12_settle_49 ?_
        refine G_get (k := 15) (kd := (2, 79)) (v := aR 79) gf_X12_29 rfl rfl rfl rfl dX12_settle_50 ?_
        refine G_aload_n 0 rfl rfl dX12_settle_53 ?_
        refine G_get (k := 16) (kd := (0, 0)) (v := aI (σ14 74 16)) gf_X12_160 rfl rfl rfl rfl dX12_settle_54 ?_
        obtain ⟨c16, h⟩ := h
        refine G_iald (n := 160) rfl c16.1 c16.2 dX12_settle_57 ?_
        refine G_callS (as := [_]) cf_X12_163 rfl (sp_X12_rank (d - 1) (by omega) _ o13 _ (OKm.i o13 79 (σ14 74 16) (isLg_row (show shp 79 = (1, 160, []) from rfl) _))) (by omega) rfl rfl (Nat.le_of_ble_eq_true rfl) dX12_settle_58 ?_
        rintro _ _ ⟨_, rfl, rfl, rfl⟩ o18 r17
        refine G_bipush (by decide) dX12_settle_61 ?_
        refine G_icmp_eq (r17 _ rfl) (rL 7 rfl) dX12_settle_63 (tgt := 80) (by decide) (fun c19 => ?_) (fun c19 => ?_)
        · have h := h.1 c19
          refine G_aload_n 0 rfl rfl dX12_settle_80 ?_
          refine G_dup rfl dX12_settle_81 ?_
          refine G_get (k := 17) (kd := (0, 0)) (v := aI (σ14 74 17)) gf_X12_170 rfl rfl rfl rfl dX12_settle_82 ?_
          refine G_iconst dX12_settle_85 ?_
          refine G_isub dX12_settle_86 ?_
          obtain ⟨c21, h⟩ := h
          obtain ⟨σ20, e23⟩ : ∃ τ : Mem, τ = mset σ14 74 17 ((σ14 74 17) - 1) := ⟨_, rfl⟩
          have h := h σ20 e23
          have o22 : OKm σ20 := by rw [e23]; exact OKm.seti o13 _ _ _ c21 rfl
          refine G_put (k := 17) (ki := 17) (kd := (0, 0)) (x := _) pf_X12_170 rfl rfl rfl rfl (fa_i (mset_self _ _ _ _)) (fun _ => rfl) (fun _ => rfl) dX12_settle_87 ?_
          rw [← e23]
          refine G_goto (tgt := 0) dX12_settle_90 (by decide) ?_
          exact G_pick [0, 1] rfl (h hv1 o22)
        · have h := h.2 c19
          refine G_aload_n 0 rfl rfl dX12_settle_66 ?_
          refine G_get (k := 15) (kd := (2, 79)) (v := aR 79) gf_X12_29 rfl rfl rfl rfl dX12_settle_67 ?_
          refine G_aload_n 0 rfl rfl dX12_settle_70 ?_
          refine G_get (k := 16) (kd := (0, 0)) (v := aI (σ14 74 16)) gf_X12_160 rfl rfl rfl rfl dX12_settle_71 ?_
          obtain ⟨c24, h⟩ := h
          refine G_iald (n := 160) rfl c24.1 c24.2 dX12_settle_74 ?_
          refine G_bipush (by decide) dX12_settle_75 ?_
          refine G_icmp_ne (OKm.i o13 79 (σ14 74 16) (isLg_row (show shp 79 = (1, 160, []) from rfl) _)) (rL 20 rfl) dX12_settle_77 (tgt := 0) (by decide) (fun c25 => ?_) (fun c25 => ?_)
          · have h := h.1 c25
            exact G_pick [0, 1] rfl (h hv1 o13)
          · have h := h.2 c25
            refine G_aload_n 0 rfl rfl dX12_settle_80 ?_
            refine G_dup rfl dX12_settle_81 ?_
            refine G_get (k := 17) (kd := (0, 0)) (v := aI (σ14 74 17)) gf_X12_170 rfl rfl rfl rfl dX12_settle_82 ?_
            refine G_iconst dX12_settle_85 ?_
            refine G_isub dX12_settle_86 ?_
            obtain ⟨c27, h⟩ := h
            obtain ⟨σ26, e29⟩ : ∃ τ : Mem, τ = mset σ14 74 17 ((σ14 74 17) - 1) := ⟨_, rfl⟩
            have h := h σ26 e29
            have o28 : OKm σ26 := by rw [e29]; exact OKm.seti o13 _ _ _ c27 rfl
            refine G_put (k := 17) (ki := 17) (kd := (0, 0)) (x := _) pf_X12_170 rfl rfl rfl rfl (fa_i (mset_self _ _ _ _)) (fun _ => rfl) (fun _ => rfl) dX12_settle_87 ?_
            rw [← e29]
            refine G_goto (tgt := 0) dX12_settle_90 (by decide) ?_
            exact G_pick [0, 1] rfl (h hv1 o28)

theorem sp_X12_settle (d : Nat) (hd : 1 ≤ d) (σ : Mem) (hO : OKm σ) (x1 : Int) (hx1 : R32 x1) (z0 : Mem) (b : Int → Int) (N : Int) (ti : Int) (lw : Int) (a : Int) (p : List Int) (o : Int) (i : Nat) (k : SK) (hpre : tkM σ b N i ∧ mC z0 ti lw a σ p o i k ∧ p.length ≤ 160) : Mt yX12_settle cX12_settle 2 none d [aR (74), aI (x1)] σ (QV (fun σ' => tkM σ' b N i ∧ mC z0 ti lw a σ' (stlS x1 p o k).1 (stlS x1 p o k).2.1 i (stlS x1 p o k).2.2 ∧ σ' 74 18 = σ 74 18)) := mt_X12_settle hd hx1 hO (by
  unfold wp_X12_settle
  intro P0 h0
  have H : ∀ (q : List Int) (oo : Int) (kk : SK) (τ : Mem), tkM τ b N i → mC z0 ti lw a τ q oo i kk → q.length ≤ 160 → τ 74 18 = σ 74 18 → stlS x1 q oo kk = stlS x1 p o k → P0 x1 τ := by
    intro q
    induction q with
    | nil =>
      intro oo kk τ ht hm hl h18 hR
      have e16 : τ 74 16 = 0 := hm.2.2.1
      refine h0 _ _ (fun _ _ => ⟨fun _ => ?_, fun h => absurd h (by omega)⟩)
      rw [← hR]; exact ⟨ht, hm, h18⟩
    | cons x r ih =>
      intro oo kk τ ht hm hl h18 hR
      have e15 : τ 74 16 - 1 = (r.length : Int) := by have := hm.2.2.1; simp at this; omega
      have ex : τ 79 (r.length : Int) = x := hm.2.2.2.1.1
      have w := hm.w
      simp at w hl
      have t12 := hm.1
      have ho := hm.2.2.2.2.2.1
      simp at ho
      have e17 : τ 74 17 = oo := hm.2.2.2.2.1
      refine h0 _ _ (fun _ _ => ?_)
      rw [e15, ex]
      refine ⟨fun h => absurd h (by omega), fun _ => ⟨by omega, fun h => ?_, fun h => ⟨by unfold R32; omega, fun σ6 e6 => ?_⟩⟩⟩
      · rw [← hR, stl_low (lowR.cons h)]; exact ⟨ht, hm, h18⟩
      have s16 : σ6 74 16 = (r.length : Int) := by rw [e6, mset_hit rfl]
      have s12 : σ6 74 12 = 729 * ti := by rw [e6, mset_miss (by omega)]; exact t12.2.2
      have s13 : σ6 74 13 = τ 74 13 := by rw [e6, mset_miss (by omega)]
      have s79 : σ6 79 = τ 79 := by rw [e6, mset_ne (by omega)]
      rw [s16, s12, s13, s79, ex]
      refine ⟨by omega, by omega, fun σ14 e14 => ?_⟩
      have a16 : σ14 74 16 = (r.length : Int) := by rw [e14, mset_miss (by omega), mset_off (by omega), mset_off (by omega)]; exact s16
      have a79 : σ14 79 = τ 79 := by rw [e14, mset_ne (by omega), mset_ne (by omega), mset_ne (by omega)]; exact s79
      have aj : ∀ j : Int, j ≠ 13 → j ≠ 16 → σ14 74 j = τ 74 j := fun j q1 q2 => by rw [e14, mset_miss q1, mset_off (by omega), mset_off (by omega), e6, mset_miss q2]
      have aF : Fr [74, 77, 79] τ σ14 := by rw [e14, e6]; exact ((((Fr.rf _ _).set (by simp)).set (by simp)).set (by simp)).set (by simp)
      have a13 : σ14 74 13 = τ 74 13 + 1 := by rw [e14, mset_hit rfl]
      have ac : σ14 77 (729 * ti + 121 + 2 * τ 74 13) = x := by rw [e14, mset_off (by omega), mset_miss (by omega), mset_hit rfl]
      have av : σ14 77 (729 * ti + 121 + 2 * τ 74 13 + 1) = 0 := by rw [e14, mset_off (by omega), mset_hit rfl]
      have ak : ∀ j : Int, j ≠ 729 * ti + 121 + 2 * τ 74 13 → j ≠ 729 * ti + 121 + 2 * τ 74 13 + 1 → σ14 77 j = τ 77 j := fun j q1 q2 => by rw [e14, mset_off (by omega), mset_miss q2, mset_miss q1, e6, mset_off (by omega)]
      rw [a16, a79, ex]
      have a17 : σ14 74 17 = oo := by rw [aj 17 (by omega) (by omega)]; exact e17
      rw [a17]
      have step : ∀ (ρ : Mem) (o' : Int), ρ 74 17 = o' → (∀ q, q ≠ 74 → ρ q = σ14 q) → (∀ j : Int, j ≠ 17 → ρ 74 j = σ14 74 j) → o' = (if rankS x = 7 ∨ x = 20 then oo - 1 else oo) → P0 x1 ρ := by
        intro ρ o' r17 rq rj eo
        have hb : o' ≤ 8 ∧ (r.length : Int) - i ≤ o' := by rw [eo]; split <;> omega
        have rF : Fr [74, 77, 79] τ ρ := fun q hq => by
          rw [rq q (by simp at hq; omega)]; exact aF q hq
        refine ih o' (em x 0 kk) ρ (ht.congr (fun j q1 q2 => by rw [rj j (by omega)]; exact aj j (by omega) (by omega)) (rF 78 (by simp))) (hm.emit (by rw [rj 16 (by omega)]; exact a16) (hm.2.2.2.1.2.congr (fun j _ _ => by rw [rq 79 (by omega), a79])) r17 hb (by rw [rj 13 (by omega)]; exact a13) (by omega) (fun j q => by rw [rj j (by omega)]; exact aj j (by omega) (by omega)) rF (by rw [rq 77 (by omega)]; exact ac) (by rw [rq 77 (by omega)]; exact av) (fun j q1 q2 => by rw [rq 77 (by omega)]; exact ak j q1 q2) (fun _ => by unfold Mil; omega) (fun _ => by omega)) (by omega) (by rw [rj 18 (by omega), aj 18 (by omega) (by omega)]; exact h18) ?_
        rw [← hR, stl_pop h, eo]
      refine ⟨by omega, fun h7 => ⟨by unfold R32; omega, fun σ20 e20 => ?_⟩, fun h7 => ⟨by omega, fun h20 => ?_, fun h20 => ⟨by unfold R32; omega, fun σ26 e26 => ?_⟩⟩⟩
      · exact step σ20 (oo - 1) (by rw [e20, mset_hit rfl]) (fun q hq => by rw [e20, mset_ne hq]) (fun j hj => by rw [e20, mset_miss hj]) (by rw [if_pos (.inl h7)])
      · exact step σ14 oo a17 (fun q _ => rfl) (fun j _ => rfl) (by rw [if_neg (by omega)])
      · exact step σ26 (oo - 1) (by rw [e26, mset_hit rfl]) (fun q hq => by rw [e26, mset_ne hq]) (fun j hj => by rw [e26, mset_miss hj]) (by rw [if_pos (.inr h20)])
  obtain ⟨ht, hm, hl⟩ := hpre
  exact H p o k σ ht hm hl rfl rfl)

def wp_X12_openAt  (σ : Mem) (Q : Int → Mem → Prop) : Prop :=
 ∀ P7 : Int → Mem → Prop,
 (∀ (v1 : Int) (σ : Mem), (R32 v1 → OKm σ →
   ((v1 < 0) →
     Q v1 σ) ∧
    ((0 ≤ v1) →
     (0 ≤ v1 ∧ v1 < 160) ∧
     ((40 ≤ (σ 79 v1)) →
      Q v1 σ) ∧
     (((σ 79 v1) < 40) →
      R32 (v1 + (-1)) ∧ P7 (v1 + (-1)) σ))) → P7 v1 σ) →
  R32 ((σ 74 16) - 1) ∧ P7 ((σ 74 16) - 1) σ
theorem mt_X12_openAt {d : Nat} (hd : 0 ≤ d)  {σ : Mem} {Q : Int → Mem → Prop}  (hO : OKm σ) (h : wp_X12_openAt  σ Q) : Mt yX12_openAt cX12_openAt 2 (some .int) d [aR (74)] σ (QI Q) := by
  refine Mt.intro (by decide +kernel) (Nat.le_of_ble_eq_true rfl) [(0, aR (74))] rfl ?_
  unfold wp_X12_openAt at h
  have h := h (fun (v1 : Int) (σ : Mem) => R32 v1 → OKm σ → G yX12_openAt cX12_openAt 2 (some .int) d (QI Q) 7 [(0, aR (74)), (1, aI (v1))] [] σ) ?_
  · refine G_aload_n 0 rfl rfl dX12_openAt_0 ?_
    refine G_get (k := 16) (kd := (0, 0)) (v := aI (σ 74 16)) gf_X12_160 rfl rfl rfl rfl dX12_openAt_1 ?_
    refine G_iconst dX12_openAt_4 ?_
    refine G_isub dX12_openAt_5 ?_
    refine G_istore_n (lv' := [(1, aI (((σ 74 16) - 1))), (0, aR (74))]) rfl rfl (by decide) dX12_openAt_6 ?_
    obtain ⟨c1, h⟩ := h
    exact G_pick [1, 0] rfl (h c1 hO)
  · intro v1 σ h hv1 hO
    have h := h hv1 hO
    refine G_iload_n 1 rfl rfl dX12_openAt_7 ?_
    refine G_if_lt hv1 dX12_openAt_8 (tgt := 28) (by decide) (fun c2 => ?_) (fun c2 => ?_)
    · have h := h.1 c2
      refine G_iload_n 1 rfl rfl dX12_openAt_28 ?_
      exact G_iret rfl hv1 dX12_openAt_29 ⟨_, rfl, h⟩ hO
    · have h := h.2 c2
      refine G_aload_n 0 rfl rfl dX12_openAt_11 ?_
      refine G_get (k := 15) (kd := (2, 79)) (v := aR 79) gf_X12_29 rfl rfl rfl rfl dX12_openAt_12 ?_
      refine G_iload_n 1 rfl rfl dX12_openAt_15 ?_
      obtain ⟨c3, h⟩ := h
      refine G_iald (n := 160) rfl c3.1 c3.2 dX12_openAt_16 ?_
      refine G_bipush (by decide) dX12_openAt_17 ?_
      refine G_icmp_ge (OKm.i hO 79 v1 (isLg_row (show shp 79 = (1, 160, []) from rfl) _)) (rL 40 rfl) dX12_openAt_19 (tgt := 28) (by decide) (fun c4 => ?_) (fun c4 => ?_)
      · have h := h.1 c4
        refine G_iload_n 1 rfl rfl dX12_openAt_28 ?_
        exact G_iret rfl hv1 dX12_openAt_29 ⟨_, rfl, h⟩ hO
      · have h := h.2 c4
        refine G_iinc (lv' := [(1, aI ((v1 + (-1)))), (0, aR (74))]) (k := 1) rfl rfl (by decide) dX12_openAt_22 ?_
        refine G_goto (tgt := 7) dX12_openAt_25 (by decide) ?_
        obtain ⟨c5, h⟩ := h
        exact G_pick [1, 0] rfl (h c5 hO)

theorem sp_X12_openAt (d : Nat) (hd : 0 ≤ d) (σ : Mem) (hO : OKm σ) (p : List Int) (hpre : plC σ p) : Mt yX12_openAt cX12_openAt 2 (some .int) d [aR (74)] σ (QI (fun v σ' => v = opI p ∧ σ' = σ)) := mt_X12_openAt hd  hO (by
  unfold wp_X12_openAt
  intro P7 h7
  obtain ⟨hp, h16, hl⟩ := hpre
  have H : ∀ q : List Int, plR σ q → q.length ≤ 160 → opI q = opI p → P7 ((q.length : Int) - 1) σ := by
    intro q
    induction q with
    | nil =>
      intro _ _ hq
      exact h7 _ _ (fun _ _ => ⟨fun _ => ⟨by rw [← hq]; rfl, rfl⟩, fun h => absurd h (by simp)⟩)
    | cons x r ih =>
      intro hr hl hq
      simp at hl
      rw [show ((x :: r).length : Int) - 1 = (r.length : Int) by simp]
      refine h7 _ _ (fun _ _ => ?_)
      rw [hr.1]
      refine ⟨fun h => absurd h (by omega), fun _ => ⟨by omega, fun h4 => ⟨?_, rfl⟩, fun h4 => ⟨by unfold R32; omega, ?_⟩⟩⟩
      · rw [← hq]; show _ = if 40 ≤ x then (r.length : Int) else opI r; rw [if_pos h4]
      · rw [show (r.length : Int) + -1 = (r.length : Int) - 1 by omega]
        exact ih hr.2 (by omega) (by rw [← hq]; show opI r = if 40 ≤ x then _ else opI r; rw [if_neg (by omega)])
  refine ⟨by unfold R32; omega, ?_⟩
  rw [h16]; exact H p hp hl rfl)

def wp_X12_openNow  (σ : Mem) (Q : Int → Mem → Prop) : Prop :=
  ∃ g1 : List Int, (plC σ g1) ∧
   ∀ (u6 : Int) (σ5 : Mem), R32 u6 → OKm σ5 → (u6 = opI g1 ∧ σ5 = σ) →
   ((0 ≤ u6) →
    ∃ g9 : List Int, (plC σ5 g9) ∧
    ∀ (u14 : Int) (σ13 : Mem), R32 u14 → OKm σ13 → (u14 = opI g9 ∧ σ13 = σ5) →
    (0 ≤ u14 ∧ u14 < 160) ∧
    Q (σ13 79 u14) σ13) ∧
   ((u6 < 0) →
    Q (-1) σ5)
theorem mt_X12_openNow {d : Nat} (hd : 1 ≤ d)  {σ : Mem} {Q : Int → Mem → Prop}  (hO : OKm σ) (h : wp_X12_openNow  σ Q) : Mt yX12_openNow cX12_openNow 1 (some .int) d [aR (74)] σ (QI Q) := by
  refine Mt.intro (by decide +kernel) (Nat.le_of_ble_eq_true rfl) [(0, aR (74))] rfl ?_
  unfold wp_X12_openNow at h
  refine G_aload_n 0 rfl rfl dX12_openNow_0 ?_
  obtain ⟨g1, c2, h⟩ := h
  refine G_callV (as := []) cf_X12_173 rfl rfl rfl (sp_X12_openAt (d - 1) (by omega) _ hO  g1 c2) (by omega) rfl rfl (Nat.le_of_ble_eq_true rfl) dX12_openNow_1 ?_
  rintro _ σ5 ⟨u6, rfl, z7⟩ o4 r3
  have h := h _ _ (r3 _ rfl) o4 z7
  refine G_if_ge (r3 _ rfl) dX12_openNow_4 (tgt := 11) (by decide) (fun c8 => ?_) (fun c8 => ?_)
  · have h := h.1 c8
    refine G_aload_n 0 rfl rfl dX12_openNow_11 ?_
    refine G_get (k := 15) (kd := (2, 79)) (v := aR 79) gf_X12_29 rfl rfl rfl rfl dX12_openNow_12 ?_
    refine G_aload_n 0 rfl rfl dX12_openNow_15 ?_
    obtain ⟨g9, c10, h⟩ := h
    refine G_callV (as := []) cf_X12_173 rfl rfl rfl (sp_X12_openAt (d - 1) (by omega) _ o4  g9 c10) (by omega) rfl rfl (Nat.le_of_ble_eq_true rfl) dX12_openNow_16 ?_
    rintro _ σ13 ⟨u14, rfl, z15⟩ o12 r11
    have h := h _ _ (r11 _ rfl) o12 z15
    obtain ⟨c16, h⟩ := h
    refine G_iald (n := 160) rfl c16.1 c16.2 dX12_openNow_19 ?_
    exact G_iret rfl (OKm.i o12 79 u14 (isLg_row (show shp 79 = (1, 160, []) from rfl) _)) dX12_openNow_20 ⟨_, rfl, h⟩ o12
  · have h := h.2 c8
    refine G_iconst dX12_openNow_7 ?_
    refine G_goto (tgt := 20) dX12_openNow_8 (by decide) ?_
    exact G_iret rfl (rL (-1) rfl) dX12_openNow_20 ⟨_, rfl, h⟩ o4

theorem sp_X12_openNow (d : Nat) (hd : 1 ≤ d) (σ : Mem) (hO : OKm σ) (p : List Int) (hpre : plC σ p) : Mt yX12_openNow cX12_openNow 1 (some .int) d [aR (74)] σ (QI (fun v σ' => v = opP p ∧ σ' = σ)) := mt_X12_openNow hd  hO (by
  unfold wp_X12_openNow
  have hq := opI_P hpre.1
  have hl := hpre.2.2
  refine ⟨p, hpre, fun u σ5 _ _ h => ?_⟩
  obtain ⟨eu, e5⟩ := h
  rw [e5, eu]
  refine ⟨fun h0 => ⟨p, hpre, fun u2 σ13 _ _ h2 => ?_⟩, fun h0 => ⟨(hq.2 h0).symm, rfl⟩⟩
  obtain ⟨e2, e13⟩ := h2
  rw [e13, e2]
  exact ⟨by have := (hq.1 h0).1; omega, (hq.1 h0).2.1, rfl⟩)

def wp_X12_isCompared  (σ : Mem) (Q : Int → Mem → Prop) : Prop :=
 ∀ P7 : Int → Mem → Prop,
 (∀ (v1 : Int) (σ : Mem), (R32 v1 → OKm σ →
   ((v1 < 0) →
     ((v1 < 0) →
      Q 0 σ) ∧
     ((0 ≤ v1) →
      (0 ≤ v1 ∧ v1 < 160) ∧
      (((rankS (σ 79 v1)) ≠ 4) →
       Q 0 σ) ∧
      (((rankS (σ 79 v1)) = 4) →
       Q 1 σ))) ∧
    ((0 ≤ v1) →
     (0 ≤ v1 ∧ v1 < 160) ∧
     (((rankS (σ 79 v1)) ≤ 4) →
      ((v1 < 0) →
       Q 0 σ) ∧
      ((0 ≤ v1) →
       (0 ≤ v1 ∧ v1 < 160) ∧
       (((rankS (σ 79 v1)) ≠ 4) →
        Q 0 σ) ∧
       (((rankS (σ 79 v1)) = 4) →
        Q 1 σ))) ∧
     ((4 < (rankS (σ 79 v1))) →
      R32 (v1 + (-1)) ∧ P7 (v1 + (-1)) σ))) → P7 v1 σ) →
  R32 ((σ 74 16) - 1) ∧ P7 ((σ 74 16) - 1) σ
theorem mt_X12_isCompared {d : Nat} (hd : 1 ≤ d)  {σ : Mem} {Q : Int → Mem → Prop}  (hO : OKm σ) (h : wp_X12_isCompared  σ Q) : Mt yX12_isCompared cX12_isCompared 2 (some .boolean) d [aR (74)] σ (QI Q) := by
  refine Mt.intro (by decide +kernel) (Nat.le_of_ble_eq_true rfl) [(0, aR (74))] rfl ?_
  unfold wp_X12_isCompared at h
  have h := h (fun (v1 : Int) (σ : Mem) => R32 v1 → OKm σ → G yX12_isCompared cX12_isCompared 2 (some .boolean) d (QI Q) 7 [(0, aR (74)), (1, aI (v1))] [] σ) ?_
  · refine G_aload_n 0 rfl rfl dX12_isCompared_0 ?_
    refine G_get (k := 16) (kd := (0, 0)) (v := aI (σ 74 16)) gf_X12_160 rfl rfl rfl rfl dX12_isCompared_1 ?_
    refine G_iconst dX12_isCompared_4 ?_
    refine G_isub dX12_isCompared_5 ?_
    refine G_istore_n (lv' := [(1, aI (((σ 74 16) - 1))), (0, aR (74))]) rfl rfl (by decide) dX12_isCompared_6 ?_
    obtain ⟨c1, h⟩ := h
    exact G_pick [1, 0] rfl (h c1 hO)
  · intro v1 σ h hv1 hO
    have h := h hv1 hO
    refine G_iload_n 1 rfl rfl dX12_isCompared_7 ?_
    refine G_if_lt hv1 dX12_isCompared_8 (tgt := 30) (by decide) (fun c2 => ?_) (fun c2 => ?_)
    · have h := h.1 c2
      refine G_iload_n 1 rfl rfl dX12_isCompared_30 ?_
      refine G_if_lt hv1 dX12_isCompared_31 (tgt := 51) (by decide) (fun c3 => ?_) (fun c3 => ?_)
      · have h := h.1 c3
        refine G_iconst dX12_isCompared_51 ?_
        exact G_zret rfl (by decide) dX12_isCompared_52 ⟨_, rfl, h⟩ hO
      · have h := h.2 c3
        refine G_aload_n 0 rfl rfl dX12_isCompared_34 ?_
        refine G_get (k := 15) (kd := (2, 79)) (v := aR 79) gf_X12_29 rfl rfl rfl rfl dX12_isCompared_35 ?_
        refine G_iload_n 1 rfl rfl dX12_isCompared_38 ?_
        obtain ⟨c4, h⟩ := h
        refine G_iald (n := 160) rfl c4.1 c4.2 dX12_isCompared_39 ?_
        refine G_callS (as := [_]) cf_X12_163 rfl (sp_X12_rank (d - 1) (by omega) _ hO _ (OKm.i hO 79 v1 (isLg_row (show shp 79 = (1, 160, []) from rfl) _))) (by omega) rfl rfl (Nat.le_of_ble_eq_true rfl) dX12_isCompared_40 ?_
        rintro _ _ ⟨_, rfl, rfl, rfl⟩ o6 r5
        refine G_iconst dX12_isCompared_43 ?_
        refine G_icmp_ne (r5 _ rfl) (rL 4 rfl) dX12_isCompared_44 (tgt := 51) (by decide) (fun c7 => ?_) (fun c7 => ?_)
        · have h := h.1 c7
          refine G_iconst dX12_isCompared_51 ?_
          exact G_zret rfl (by decide) dX12_isCompared_52 ⟨_, rfl, h⟩ hO
        · have h := h.2 c7
          refine G_iconst dX12_isCompared_47 ?_
          refine G_goto (tgt := 52) dX12_isCompared_48 (by decide) ?_
          exact G_zret rfl (by decide) dX12_isCompared_52 ⟨_, rfl, h⟩ hO
    · have h := h.2 c2
      refine G_aload_n 0 rfl rfl dX12_isCompared_11 ?_
      refine G_get (k := 15) (kd := (2, 79)) (v := aR 79) gf_X12_29 rfl rfl rfl rfl dX12_isCompared_12 ?_
      refine G_iload_n 1 rfl rfl dX12_isCompared_15 ?_
      obtain ⟨c8, h⟩ := h
      refine G_iald (n := 160) rfl c8.1 c8.2 dX12_isCompared_16 ?_
      refine G_callS (as := [_]) cf_X12_163 rfl (sp_X12_rank (d - 1) (by omega) _ hO _ (OKm.i hO 79 v1 (isLg_row (show shp 79 = (1, 160, []) from rfl) _))) (by omega) rfl rfl (Nat.le_of_ble_eq_true rfl) dX12_isCompared_17 ?_
      rintro _ _ ⟨_, rfl, rfl, rfl⟩ o10 r9
      refine G_iconst dX12_isCompared_20 ?_
      refine G_icmp_le (r9 _ rfl) (rL 4 rfl) dX12_isCompared_21 (tgt := 30) (by decide) (fun c11 => ?_) (fun c11 => ?_)
      · have h := h.1 c11
        refine G_iload_n 1 rfl rfl dX12_isCompared_30 ?_
        refine G_if_lt hv1 dX12_isCompared_31 (tgt := 51) (by decide) (fun c12 => ?_) (fun c12 => ?_)
        · have h := h.1 c12
          refine G_iconst dX12_isCompared_51 ?_
          exact G_zret rfl (by decide) dX12_isCompared_52 ⟨_, rfl, h⟩ hO
        · have h := h.2 c12
          refine G_aload_n 0 rfl rfl dX12_isCompared_34 ?_
          refine G_get (k := 15) (kd := (2, 79)) (v := aR 79) gf_X12_29 rfl rfl rfl rfl dX12_isCompared_35 ?_
          refine G_iload_n 1 rfl rfl dX12_isCompared_38 ?_
          obtain ⟨c13, h⟩ := h
          refine G_iald (n := 160) rfl c13.1 c13.2 dX12_isCompared_39 ?_
          refine G_callS (as := [_]) cf_X12_163 rfl (sp_X12_rank (d - 1) (by omega) _ hO _ (OKm.i hO 79 v1 (isLg_row (show shp 79 = (1, 160, []) from rfl) _))) (by omega) rfl rfl (Nat.le_of_ble_eq_true rfl) dX12_isCompared_40 ?_
          rintro _ _ ⟨_, rfl, rfl, rfl⟩ o15 r14
          refine G_iconst dX12_isCompared_43 ?_
          refine G_icmp_ne (r14 _ rfl) (rL 4 rfl) dX12_isCompared_44 (tgt := 51) (by decide) (fun c16 => ?_) (fun c16 => ?_)
          · have h := h.1 c16
            refine G_iconst dX12_isCompared_51 ?_
            exact G_zret rfl (by decide) dX12_isCompared_52 ⟨_, rfl, h⟩ hO
          · have h := h.2 c16
            refine G_iconst dX12_isCompared_47 ?_
            refine G_goto (tgt := 52) dX12_isCompared_48 (by decide) ?_
            exact G_zret rfl (by decide) dX12_isCompared_52 ⟨_, rfl, h⟩ hO
      · have h := h.2 c11
        refine G_iinc (lv' := [(1, aI ((v1 + (-1)))), (0, aR (74))]) (k := 1) rfl rfl (by decide) dX12_isCompared_24 ?_
        refine G_goto (tgt := 7) dX12_isCompared_27 (by decide) ?_
        obtain ⟨c17, h⟩ := h
        exact G_pick [1, 0] rfl (h c17 hO)

theorem sp_X12_isCompared (d : Nat) (hd : 1 ≤ d) (σ : Mem) (hO : OKm σ) (p : List Int) (hpre : plC σ p) : Mt yX12_isCompared cX12_isCompared 2 (some .boolean) d [aR (74)] σ (QI (fun v σ' => (v = 1 ∧ cmpd p = true ∨ v = 0 ∧ cmpd p = false) ∧ σ' = σ)) := mt_X12_isCompared hd  hO (by
  unfold wp_X12_isCompared
  intro P7 h7
  obtain ⟨hp, h16, hl⟩ := hpre
  have H : ∀ q : List Int, plR σ q → q.length ≤ 160 → cmpd q = cmpd p → P7 ((q.length : Int) - 1) σ := by
    intro q
    induction q with
    | nil =>
      intro _ _ hq
      exact h7 _ _ (fun _ _ => ⟨fun _ => ⟨fun _ => ⟨.inr ⟨rfl, by rw [← hq]; rfl⟩, rfl⟩, fun h => absurd h (by simp)⟩, fun h => absurd h (by simp)⟩)
    | cons x r ih =>
      intro hr hl hq
      simp at hl
      have hc : cmpd (x :: r) = if 4 < rankS x then cmpd r else decide (rankS x = 4) := rfl
      rw [show ((x :: r).length : Int) - 1 = (r.length : Int) by simp]
      refine h7 _ _ (fun _ _ => ?_)
      rw [hr.1]
      refine ⟨fun h => absurd h (by omega), fun _ => ⟨by omega, fun h4 => ⟨fun h => absurd h (by omega), fun _ => ⟨by omega, fun h => ⟨.inr ⟨rfl, ?_⟩, rfl⟩, fun h => ⟨.inl ⟨rfl, ?_⟩, rfl⟩⟩⟩, fun h4 => ⟨by unfold R32; omega, ?_⟩⟩⟩
      · rw [← hq, hc, if_neg (by omega)]; exact decide_eq_false h
      · rw [← hq, hc, if_neg (by omega)]; exact decide_eq_true h
      · rw [show (r.length : Int) + -1 = (r.length : Int) - 1 by omega]
        exact ih hr.2 (by omega) (by rw [← hq, hc, if_pos h4])
  refine ⟨by unfold R32; omega, ?_⟩
  rw [h16]; exact H p hp hl rfl)

def wp_X12_isAskAhead  (σ : Mem) (Q : Int → Mem → Prop) : Prop :=
  ∃ g1 : List Int, (plC σ g1) ∧
   ∀ (u6 : Int) (σ5 : Mem), R32 u6 → OKm σ5 → (u6 = opP g1 ∧ σ5 = σ) →
   ((u6 ≠ 42) →
    Q 0 σ5) ∧
   ((u6 = 42) →
    (0 ≤ ((σ5 74 16) - 1) ∧ ((σ5 74 16) - 1) < 160) ∧
    ((40 ≤ (σ5 79 ((σ5 74 16) - 1))) →
     Q 1 σ5) ∧
    (((σ5 79 ((σ5 74 16) - 1)) < 40) →
     (0 ≤ ((σ5 74 16) - 1) ∧ ((σ5 74 16) - 1) < 160) ∧
     ((¬ ((1 : Int) ≤ (rankS (σ5 79 ((σ5 74 16) - 1))) ∧ (rankS (σ5 79 ((σ5 74 16) - 1))) ≤ (3 : Int))) →
      Q 0 σ5) ∧
     (((1 : Int) ≤ (rankS (σ5 79 ((σ5 74 16) - 1))) ∧ (rankS (σ5 79 ((σ5 74 16) - 1))) ≤ (3 : Int)) →
      Q 1 σ5)))
theorem mt_X12_isAskAhead {d : Nat} (hd : 2 ≤ d)  {σ : Mem} {Q : Int → Mem → Prop}  (hO : OKm σ) (h : wp_X12_isAskAhead  σ Q) : Mt yX12_isAskAhead cX12_isAskAhead 1 (some .boolean) d [aR (74)] σ (QI Q) := by
  refine Mt.intro (by decide +kernel) (Nat.le_of_ble_eq_true rfl) [(0, aR (74))] rfl ?_
  unfold wp_X12_isAskAhead at h
  refine G_aload_n 0 rfl rfl dX12_isAskAhead_0 ?_
  obtain ⟨g1, c2, h⟩ := h
  refine G_callV (as := []) cf_X12_177 rfl rfl rfl (sp_X12_openNow (d - 1) (by omega) _ hO  g1 c2) (by omega) rfl rfl (Nat.le_of_ble_eq_true rfl) dX12_isAskAhead_1 ?_
  rintro _ σ5 ⟨u6, rfl, z7⟩ o4 r3
  have h := h _ _ (r3 _ rfl) o4 z7
  refine G_bipush (by decide) dX12_isAskAhead_4 ?_
  refine G_icmp_ne (r3 _ rfl) (rL 42 rfl) dX12_isAskAhead_6 (tgt := 51) (by decide) (fun c8 => ?_) (fun c8 => ?_)
  · have h := h.1 c8
    refine G_iconst dX12_isAskAhead_51 ?_
    exact G_zret rfl (by decide) dX12_isAskAhead_52 ⟨_, rfl, h⟩ o4
  · have h := h.2 c8
    refine G_aload_n 0 rfl rfl dX12_isAskAhead_9 ?_
    refine G_get (k := 15) (kd := (2, 79)) (v := aR 79) gf_X12_29 rfl rfl rfl rfl dX12_isAskAhead_10 ?_
    refine G_aload_n 0 rfl rfl dX12_isAskAhead_13 ?_
    refine G_get (k := 16) (kd := (0, 0)) (v := aI (σ5 74 16)) gf_X12_160 rfl rfl rfl rfl dX12_isAskAhead_14 ?_
    refine G_iconst dX12_isAskAhead_17 ?_
    refine G_isub dX12_isAskAhead_18 ?_
    obtain ⟨c9, h⟩ := h
    refine G_iald (n := 160) rfl c9.1 c9.2 dX12_isAskAhead_19 ?_
    refine G_bipush (by decide) dX12_isAskAhead_20 ?_
    refine G_icmp_ge (OKm.i o4 79 ((σ5 74 16) - 1) (isLg_row (show shp 79 = (1, 160, []) from rfl) _)) (rL 40 rfl) dX12_isAskAhead_22 (tgt := 47) (by decide) (fun c10 => ?_) (fun c10 => ?_)
    · have h := h.1 c10
      refine G_iconst dX12_isAskAhead_47 ?_
      refine G_goto (tgt := 52) dX12_isAskAhead_48 (by decide) ?_
      exact G_zret rfl (by decide) dX12_isAskAhead_52 ⟨_, rfl, h⟩ o4
    · have h := h.2 c10
      refine G_aload_n 0 rfl rfl dX12_isAskAhead_25 ?_
      refine G_get (k := 15) (kd := (2, 79)) (v := aR 79) gf_X12_29 rfl rfl rfl rfl dX12_isAskAhead_26 ?_
      refine G_aload_n 0 rfl rfl dX12_isAskAhead_29 ?_
      refine G_get (k := 16) (kd := (0, 0)) (v := aI (σ5 74 16)) gf_X12_160 rfl rfl rfl rfl dX12_isAskAhead_30 ?_
      refine G_iconst dX12_isAskAhead_33 ?_
      refine G_isub dX12_isAskAhead_34 ?_
      obtain ⟨c11, h⟩ := h
      refine G_iald (n := 160) rfl c11.1 c11.2 dX12_isAskAhead_35 ?_
      refine G_callS (as := [_]) cf_X12_163 rfl (sp_X12_rank (d - 1) (by omega) _ o4 _ (OKm.i o4 79 ((σ5 74 16) - 1) (isLg_row (show shp 79 = (1, 160, []) from rfl) _))) (by omega) rfl rfl (Nat.le_of_ble_eq_true rfl) dX12_isAskAhead_36 ?_
      rintro _ _ ⟨_, rfl, rfl, rfl⟩ o13 r12
      refine G_iconst dX12_isAskAhead_39 ?_
      refine G_iconst dX12_isAskAhead_40 ?_
      refine G_callS (as := [_, _, _]) cf_X12_81 rfl (sp_X12_isIn (d - 1) (by omega) _ o4 _ (r12 _ rfl) _ (rL 1 rfl) _ (rL 3 rfl)) (by omega) rfl rfl (Nat.le_of_ble_eq_true rfl) dX12_isAskAhead_41 ?_
      rintro _ _ ⟨_, rfl, rfl, rfl⟩ o15 r14
      refine G_if_eq (bI_R _) dX12_isAskAhead_44 (tgt := 51) (by decide) (fun c16 => ?_) (fun c16 => ?_)
      · have h := h.1 ((bI_0 _).mp c16)
        refine G_iconst dX12_isAskAhead_51 ?_
        exact G_zret rfl (by decide) dX12_isAskAhead_52 ⟨_, rfl, h⟩ o4
      · have h := h.2 (bI_ne c16)
        refine G_iconst dX12_isAskAhead_47 ?_
        refine G_goto (tgt := 52) dX12_isAskAhead_48 (by decide) ?_
        exact G_zret rfl (by decide) dX12_isAskAhead_52 ⟨_, rfl, h⟩ o4

theorem sp_X12_isAskAhead (d : Nat) (hd : 2 ≤ d) (σ : Mem) (hO : OKm σ) (p : List Int) (hpre : plC σ p) : Mt yX12_isAskAhead cX12_isAskAhead 1 (some .boolean) d [aR (74)] σ (QI (fun v σ' => (v = 1 ∧ askA p = true ∨ v = 0 ∧ askA p = false) ∧ σ' = σ)) := mt_X12_isAskAhead hd  hO (by
  unfold wp_X12_isAskAhead
  refine ⟨p, hpre, fun u σ5 _ _ h => ?_⟩
  obtain ⟨eu, e5⟩ := h
  rw [e5, eu]
  obtain ⟨hp, h16, hl⟩ := hpre
  refine ⟨fun hn => ⟨.inr ⟨rfl, by unfold askA; rw [decide_eq_false hn]; rfl⟩, rfl⟩, fun h42 => ?_⟩
  cases p with
  | nil => exact absurd h42 (by decide)
  | cons x r =>
    have e15 : σ 74 16 - 1 = (r.length : Int) := by simp at h16; omega
    simp at hl
    rw [e15, hp.1]
    have ha : askA (x :: r) = decide (40 ≤ x ∨ (1 ≤ rankS x ∧ rankS x ≤ 3)) := by unfold askA; rw [decide_eq_true h42]; rfl
    refine ⟨by omega, fun h40 => ⟨.inl ⟨rfl, ?_⟩, rfl⟩, fun h40 => ⟨by omega, fun hr => ⟨.inr ⟨rfl, ?_⟩, rfl⟩, fun hr => ⟨.inl ⟨rfl, ?_⟩, rfl⟩⟩⟩
    · rw [ha]; exact decide_eq_true (.inl h40)
    · rw [ha]; exact decide_eq_false (fun q => by omega)
    · rw [ha]; exact decide_eq_true (.inr hr))

def wp_X12_opened (x1 : Int) (σ : Mem) (Q : Int → Mem → Prop) : Prop :=
  (((σ 74 17) ≠ 8) →
    R32 ((σ 74 17) + 1) ∧
    ∀ σ2 : Mem, σ2 = mset σ 74 17 ((σ 74 17) + 1) →
    (0 ≤ (σ2 74 16) ∧ (σ2 74 16) < 160) ∧
    ∀ σ7 : Mem, σ7 = mset σ2 79 (σ2 74 16) x1 →
    R32 ((σ7 74 16) + 1) ∧
    ∀ σ10 : Mem, σ10 = mset σ7 74 16 ((σ7 74 16) + 1) →
    ∃ g14 : Int → Int, ∃ g15 : Int, ∃ g16 : Nat, (tkM σ10 g14 g15 g16) ∧
    ∀ σ20 : Mem, OKm σ20 → (tkM σ20 g14 g15 (g16 + 1) ∧ (∀ j : Int, j ≠ 7 → j ≠ 8 → j ≠ 9 → j ≠ 10 → j ≠ 11 → σ20 74 j = σ10 74 j) ∧ Fr [74] σ10 σ20) →
    Q 0 σ20) ∧
   (((σ 74 17) = 8) →
    Q 3 σ)
theorem mt_X12_opened {d : Nat} (hd : 2 ≤ d) {x1 : Int} {σ : Mem} {Q : Int → Mem → Prop} (hx1 : R32 x1) (hO : OKm σ) (h : wp_X12_opened x1 σ Q) : Mt yX12_opened cX12_opened 2 (some .int) d [aR (74), aI (x1)] σ (QI Q) := by
  refine Mt.intro (by decide +kernel) (Nat.le_of_ble_eq_true rfl) [(0, aR (74)), (1, aI (x1))] rfl ?_
  unfold wp_X12_opened at h
  refine G_aload_n 0 rfl rfl dX12_opened_0 ?_
  refine G_get (k := 17) (kd := (0, 0)) (v := aI (σ 74 17)) gf_X12_170 rfl rfl rfl rfl dX12_opened_1 ?_
  refine G_bipush (by decide) dX12_opened_4 ?_
  refine G_icmp_ne (OKm.i hO 74 17 rfl) (rL 8 rfl) dX12_opened_6 (tgt := 11) (by decide) (fun c1 => ?_) (fun c1 => ?_)
  · have h := h.1 c1
    refine G_aload_n 0 rfl rfl dX12_opened_11 ?_
    refine G_dup rfl dX12_opened_12 ?_
    refine G_get (k := 17) (kd := (0, 0)) (v := aI (σ 74 17)) gf_X12_170 rfl rfl rfl rfl dX12_opened_13 ?_
    refine G_iconst dX12_opened_16 ?_
    refine G_iadd dX12_opened_17 ?_
    obtain ⟨c3, h⟩ := h
    obtain ⟨σ2, e5⟩ : ∃ τ : Mem, τ = mset σ 74 17 ((σ 74 17) + 1) := ⟨_, rfl⟩
    have h := h σ2 e5
    have o4 : OKm σ2 := by rw [e5]; exact OKm.seti hO _ _ _ c3 rfl
    refine G_put (k := 17) (ki := 17) (kd := (0, 0)) (x := _) pf_X12_170 rfl rfl rfl rfl (fa_i (mset_self _ _ _ _)) (fun _ => rfl) (fun _ => rfl) dX12_opened_18 ?_
    rw [← e5]
    refine G_aload_n 0 rfl rfl dX12_opened_21 ?_
    refine G_get (k := 15) (kd := (2, 79)) (v := aR 79) gf_X12_29 rfl rfl rfl rfl dX12_opened_22 ?_
    refine G_aload_n 0 rfl rfl dX12_opened_25 ?_
    refine G_get (k := 16) (kd := (0, 0)) (v := aI (σ2 74 16)) gf_X12_160 rfl rfl rfl rfl dX12_opened_26 ?_
    refine G_iload_n 1 rfl rfl dX12_opened_29 ?_
    obtain ⟨c6, h⟩ := h
    obtain ⟨σ7, e9⟩ : ∃ τ : Mem, τ = mset σ2 79 (σ2 74 16) x1 := ⟨_, rfl⟩
    have h := h σ7 e9
    have o8 : OKm σ7 := by rw [e9]; exact OKm.seti o4 _ _ _ hx1 (isLg_row (show shp 79 = (1, 160, []) from rfl) _)
    refine G_iast (n := 160) rfl c6.1 c6.2 dX12_opened_30 ?_
    rw [← e9]
    refine G_aload_n 0 rfl rfl dX12_opened_31 ?_
    refine G_dup rfl dX12_opened_32 ?_
    refine G_get (k := 16) (kd := (0, 0)) (v := aI (σ7 74 16)) gf_X12_160 rfl rfl rfl rfl dX12_opened_33 ?_
    refine G_iconst dX12_opened_36 ?_
    refine G_iadd dX12_opened_37 ?_
    obtain ⟨c11, h⟩ := h
    obtain ⟨σ10, e13⟩ : ∃ τ : Mem, τ = mset σ7 74 16 ((σ7 74 16) + 1) := ⟨_, rfl⟩
    have h := h σ10 e13
    have o12 : OKm σ10 := by rw [e13]; exact OKm.seti o8 _ _ _ c11 rfl
    refine G_put (k := 16) (ki := 16) (kd := (0, 0)) (x := _) pf_X12_160 rfl rfl rfl rfl (fa_i (mset_self _ _ _ _)) (fun _ => rfl) (fun _ => rfl) dX12_opened_38 ?_
    rw [← e13]
    refine G_aload_n 0 rfl rfl dX12_opened_41 ?_
    obtain ⟨g14, g15, g16, c17, h⟩ := h
    refine G_callV (as := []) cf_X12_180 rfl rfl rfl (sp_X12_nextTokenK (d - 1) (by omega) _ o12  g14 g15 g16 c17) (by omega) rfl rfl (Nat.le_of_ble_eq_true rfl) dX12_opened_42 ?_
    rintro _ σ20 ⟨rfl, z22⟩ o19 r18
    have h := h _ o19 z22
    refine G_iconst dX12_opened_45 ?_
    exact G_iret rfl (rL 0 rfl) dX12_opened_46 ⟨_, rfl, h⟩ o19
  · have h := h.2 c1
    refine G_iconst dX12_opened_9 ?_
    exact G_iret rfl (rL 3 rfl) dX12_opened_10 ⟨_, rfl, h⟩ hO

theorem sp_X12_opened (d : Nat) (hd : 2 ≤ d) (σ : Mem) (hO : OKm σ) (x1 : Int) (hx1 : R32 x1) (z0 : Mem) (b : Int → Int) (N : Int) (ti : Int) (lw : Int) (a : Int) (p : List Int) (o : Int) (i : Nat) (k : SK) (hpre : tkM σ b N i ∧ mC z0 ti lw a σ p o i k ∧ kd b N i ≠ 43 ∧ p.length ≤ 120) : Mt yX12_opened cX12_opened 2 (some .int) d [aR (74), aI (x1)] σ (QI (fun v σ' => (o = 8 ∧ v = 3 ∧ σ' = σ) ∨ (o ≠ 8 ∧ v = 0 ∧ tkM σ' b N (i + 1) ∧ mC z0 ti lw a σ' (x1 :: p) (o + 1) (i + 1) k ∧ σ' 74 18 = σ 74 18))) := mt_X12_opened hd hx1 hO (by
  unfold wp_X12_opened
  obtain ⟨ht, hm, hk, hl⟩ := hpre
  have e17 : σ 74 17 = o := hm.2.2.2.2.1
  have e16 : σ 74 16 = (p.length : Int) := hm.2.2.1
  have w := hm.w
  have ho := hm.2.2.2.2.2.1
  have h3 := kd_300 ht hk
  rw [e17]
  refine ⟨fun h8 => ⟨by unfold R32; omega, fun σ2 e2 => ?_⟩, fun h8 => .inl ⟨h8, rfl, rfl⟩⟩
  have a16 : σ2 74 16 = (p.length : Int) := by rw [e2, mset_miss (by omega)]; exact e16
  rw [a16]
  refine ⟨by omega, fun σ7 e7 => ?_⟩
  have b16 : σ7 74 16 = (p.length : Int) := by rw [e7, mset_off (by omega)]; exact a16
  rw [b16]
  refine ⟨by unfold R32; omega, fun σ10 e10 => ?_⟩
  have cj : ∀ j : Int, j ≠ 16 → j ≠ 17 → σ10 74 j = σ 74 j := fun j q1 q2 => by rw [e10, mset_miss q1, e7, mset_off (by omega), e2, mset_miss q2]
  have cF : Fr [74, 79] σ σ10 := by rw [e10, e7, e2]; exact (((Fr.rf _ _).set (by simp)).set (by simp)).set (by simp)
  have c79 : ∀ j : Int, j ≠ (p.length : Int) → σ10 79 j = σ 79 j := fun j q => by rw [e10, mset_off (by omega), e7, mset_miss q, e2, mset_off (by omega)]
  have cx : σ10 79 (p.length : Int) = x1 := by rw [e10, mset_off (by omega), e7, mset_hit rfl]
  have ht10 : tkM σ10 b N i := ht.congr (fun j q1 q2 => cj j (by omega) (by omega)) (cF 78 (by simp))
  refine ⟨b, N, i, ht10, fun σ20 _ ⟨h1, h2, h4⟩ => .inr ⟨h8, rfl, h1, ?_, ?_⟩⟩
  · have hm10 : mC z0 ti lw a σ10 (x1 :: p) (o + 1) (i + 1) k := hm.keep (by rw [e10, mset_hit rfl]; simp) ⟨cx, hm.2.2.2.1.congr (fun j q1 q2 => c79 j (by omega))⟩ (by rw [e10, mset_miss (by omega), e7, mset_off (by omega), e2, mset_hit rfl]) (by simp; omega) (by simp; omega) (fun j q => cj j (by omega) (by omega)) cF
    exact hm10.next (b := b) (N := N) (by omega) h2 h4
  · rw [h2 18 (by omega) (by omega) (by omega) (by omega) (by omega)]; exact cj 18 (by omega) (by omega))
