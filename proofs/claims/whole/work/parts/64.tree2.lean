theorem comeS_bit {A : Mem} {ok : Int → Bool} {a t : Int} (ht : 0 ≤ t ∧ t ≤ 7) : tbt (comeS A ok a) t = rchB A ok a t := by
  have := tb8 (f := fun t => rchB A ok a (t : Int)) ht.1 ht.2
  rw [show ((t.toNat : Nat) : Int) = t by omega] at this
  exact this
def lenN (A : Mem) (T : Int) : Nat → Int
  | 0 => 0
  | n + 1 => lenN A T n + (if tbt T (n : Int) = true then A 13 (n : Int) else 0)
def lenS (A : Mem) (T : Int) : Int := lenN A T (A 10 0).toNat
theorem lenN_r {A : Mem} {T : Int} (hI : InvA A) : ∀ n : Nat, (n : Int) ≤ A 10 0 → 0 ≤ lenN A T n ∧ lenN A T n ≤ 9 * n
  | 0, _ => by simp [lenN]
  | n + 1, hn => by
    have := lenN_r (T := T) hI n (by omega)
    have := hI.2.1 (n : Int) (by omega) (by omega)
    unfold lenN; split <;> omega
theorem lenN_add {A : Mem} {T r : Int} (hT : 0 ≤ T ∧ T < 65536) (hr : 0 ≤ r ∧ r < 16) (hno : tbt T r = false) : ∀ n : Nat, lenN A (bOr T (bShl 1 r)) n = lenN A T n + (if r < n then A 13 r else 0)
  | 0 => by rw [if_neg (by omega)]; rfl
  | n + 1 => by
    unfold lenN
    rw [lenN_add hT hr hno n, (tbt_add hT hr).2 (n : Int) (by omega)]
    show _ + _ + (if (tbt T (n : Int) || decide ((n : Int) = r)) = true then _ else _) = _
    by_cases e : (n : Int) = r
    · rw [decide_eq_true e, Bool.or_true, if_pos rfl, if_neg (show ¬ r < (n : Int) by omega), if_pos (show r < ((n + 1 : Nat) : Int) by omega)]
      subst e
      rw [hno]; simp
    · rw [decide_eq_false e, Bool.or_false]
      by_cases h : r < (n : Int)
      · rw [if_pos h, if_pos (show r < ((n + 1 : Nat) : Int) by omega)]; omega
      · rw [if_neg h, if_neg (show ¬ r < ((n + 1 : Nat) : Int) by omega)]; omega
theorem no_edge {A : Mem} {T r : Int} (hr : 0 ≤ r ∧ r < A 10 0) (h : rchB A (tbt T) (A 11 r) (A 12 r) = false) : tbt T r = false := by
  cases hb : tbt T r with
  | false => rfl
  | true =>
    have := rchB_t.mpr (rch.edge (A := A) (ok := tbt T) hr hb (Or.inl ⟨rfl, rfl⟩))
    rw [h] at this; cases this
/-- pieces and roads of the tree -/
def pmI (A : Mem) (T : Int) : Prop := pcS T + cntN (minB A (tbt T)) 8 = 8
theorem rch_0 {A : Mem} {x y : Int} (h : rch A (tbt 0) x y) : x = y := by
  obtain ⟨k, l, h⟩ := h
  cases k with
  | zero => exact h.1
  | succ k =>
    obtain ⟨r, c, h1, h2, h3, h4⟩ := h
    unfold tbt at h2; simp at h2
theorem pmI_0 (A : Mem) : pmI A 0 := by
  unfold pmI
  have h1 : cntN (minB A (tbt 0)) 8 = cntN (fun _ => true) 8 := cntN_congr 8 (fun t ht => minB_t.mpr (fun u hu hr => by have := rch_0 hr; omega))
  rw [h1]
  have : cntN (fun _ => true) 8 = 8 := by decide
  rw [this]
  have : pcS 0 = 0 := by decide
  rw [this]; omega
theorem pmI_step {A : Mem} {T L r : Int} (hI : InvA A) (h : okTs A T) (hr : 0 ≤ r ∧ r < A 10 0) (hp : pmI A T) : pmI A (trStep A T L r) := by
  unfold trStep
  have hc := hI.1
  split
  · rename_i hcd
    rw [Bool.and_eq_true, Bool.and_eq_true, Bool.not_eq_true'] at hcd
    have hno := no_edge hr hcd.2.2
    have hl := hI.2.1 r hr.1 hr.2
    have h1 := pc_add h.1 (r := r) (by omega) hno
    have h2 := mins_add (A := A) (T := tbt T) (T' := tbt (bOr T (bShl 1 r))) (p := A 11 r) (q := A 12 r) hr (Or.inl ⟨rfl, rfl⟩) (fun z z0 _ => (tbt_add h.1 (by omega)).2 z z0) (by omega) (by omega) (fun q => by have := rchB_t.mpr q; rw [hcd.2.2] at this; cases this)
    unfold pmI at *
    omega
  · exact hp
theorem pmI_R {A : Mem} {L T : Int} (hI : InvA A) (h : okTs A T) (hp : pmI A T) : ∀ n : Nat, (n : Int) ≤ A 10 0 → pmI A (trR A L T n)
  | 0, _ => hp
  | n + 1, hn => pmI_step hI (trR_ok hI h n (by omega)) (by omega) (pmI_R hI h hp n (by omega))
theorem pmI_L {A : Mem} (hI : InvA A) : ∀ k : Nat, pmI A (trL A k)
  | 0 => pmI_0 A
  | k + 1 => pmI_R hI (trL_ok hI k) (pmI_L hI k) _ (by have := hI.1; omega)
noncomputable def pieS (A : Mem) : Int := cntN (fun t => ntB A (t : Int) && minB A (netB A) t) 8
theorem rch_nt {A : Mem} {x y : Int} (hI : InvA A) (h : rch A (netB A) x y) : x = y ∨ ntB A y = true := by
  obtain ⟨k, l, h⟩ := h
  cases k with
  | zero => exact Or.inl h.1
  | succ k =>
    obtain ⟨r, c, h1, h2, h3, h4⟩ := h
    right
    have hc := hI.1
    refine decide_eq_true ((deg_pos _).mpr ⟨r.toNat, by omega, ?_⟩)
    rw [show ((r.toNat : Nat) : Int) = r by omega]
    refine decide_eq_true ⟨of_decide_eq_true h2, ?_⟩
    rcases h3 with ⟨q1, q2⟩ | ⟨q1, q2⟩
    · exact Or.inr q2
    · exact Or.inl q1
theorem cnt_split {f g : Nat → Bool} (h : ∀ t, f t = false → g t = true) : ∀ n : Nat, cntN g n = cntN (fun t => f t && g t) n + ((n : Int) - cntN f n)
  | 0 => by simp [cntN]
  | n + 1 => by
    have ih := cnt_split h n
    unfold cntN
    rw [ih]
    have := h n
    cases hf : f n with
    | true => cases hg : g n <;> simp <;> omega
    | false => rw [this hf]; simp; omega
theorem pie_eq {A : Mem} (hI : InvA A) : cntN (fun t => ntB A (t : Int)) 8 - pcS (treeS A) = pieS A := by
  have h1 : pmI A (treeS A) := pmI_L hI 9
  unfold pmI at h1
  have h2 : cntN (minB A (tbt (treeS A))) 8 = cntN (minB A (netB A)) 8 := cntN_congr 8 (fun t _ => by
    cases hm : minB A (netB A) t with
    | true => exact minB_t.mpr (fun u hu hr => minB_t.mp hm u hu ((tree_rch hI).mp hr))
    | false =>
      cases hm2 : minB A (tbt (treeS A)) t with
      | false => rfl
      | true =>
        have : minB A (netB A) t = true := minB_t.mpr (fun u hu hr => minB_t.mp hm2 u hu ((tree_rch hI).mpr hr))
        rw [hm] at this; cases this)
  have h3 := cnt_split (f := fun t => ntB A (t : Int)) (g := minB A (netB A)) (fun t ht => minB_t.mpr (fun u hu hr => by
    rcases rch_nt hI hr with e | e
    · omega
    · have ht : ntB A (t : Int) = false := ht
      rw [ht] at e; cases e)) 8
  unfold pieS
  omega
def grp (σ A : Mem) (T : Int) : Prop := ∀ x y : Int, 0 ≤ x → x ≤ 7 → 0 ≤ y → y ≤ 7 → (σ 44 x = σ 44 y ↔ rch A (tbt T) x y)

def wp_X4_joins (x1 : Int) (σ : Mem) (Q : Int → Mem → Prop) : Prop :=
 ∀ P33 : Int → Int → Int → Mem → Prop,
 (∀ (v2 : Int) (v3 : Int) (v4 : Int) (σ : Mem), (R32 v2 → R32 v3 → R32 v4 → OKm σ →
   ((8 ≤ v4) →
     ((v2 = v3) →
      Q 0 σ) ∧
     ((v2 ≠ v3) →
      Q 1 σ)) ∧
    ((v4 < 8) →
     (0 ≤ v4 ∧ v4 < 8) ∧
     (((σ 44 v4) ≠ v3) →
      R32 (v4 + 1) ∧ P33 v2 v3 (v4 + 1) σ) ∧
     (((σ 44 v4) = v3) →
      (0 ≤ v4 ∧ v4 < 8) ∧
      ∀ σ11 : Mem, σ11 = mset σ 44 v4 v2 →
      R32 (v4 + 1) ∧ P33 v2 v3 (v4 + 1) σ11))) → P33 v2 v3 v4 σ) →
  (0 ≤ x1 ∧ x1 < 16) ∧
   (0 ≤ (σ 2 x1) ∧ (σ 2 x1) < 8) ∧
   (0 ≤ x1 ∧ x1 < 16) ∧
   (0 ≤ (σ 3 x1) ∧ (σ 3 x1) < 8) ∧
   P33 (σ 44 (σ 2 x1)) (σ 44 (σ 3 x1)) 0 σ
theorem mt_X4_joins {d : Nat} (hd : 0 ≤ d) {x1 : Int} {σ : Mem} {Q : Int → Mem → Prop} (hx1 : R32 x1) (hO : OKm σ) (h : wp_X4_joins x1 σ Q) : Mt yX4_joins cX4_joins 5 (some .boolean) d [aR (40), aI (x1)] σ (QI Q) := by
  refine Mt.intro (by decide +kernel) (Nat.le_of_ble_eq_true rfl) [(0, aR (40)), (1, aI (x1))] rfl ?_
  unfold wp_X4_joins at h
  have h := h (fun (v2 : Int) (v3 : Int) (v4 : Int) (σ : Mem) => R32 v2 → R32 v3 → R32 v4 → OKm σ → G yX4_joins cX4_joins 5 (some .boolean) d (QI Q) 33 [(0, aR (40)), (2, aI (v2)), (3, aI (v3)), (4, aI (v4))] [] σ) ?_
  · refine G_aload_n 0 rfl rfl dX4_joins_0 ?_
    refine G_get (k := 5) (kd := (3, 4)) (v := aR (44)) gf_X4_21 rfl rfl rfl rfl dX4_joins_1 ?_
    refine G_aload_n 0 rfl rfl dX4_joins_4 ?_
    refine G_get (k := 0) (kd := (2, 1)) (v := aR 1) gf_X4_37 rfl rfl rfl rfl dX4_joins_5 ?_
    refine G_get (k := 0) (kd := (3, 1)) (v := aR (2)) gf_X4_71 rfl rfl rfl rfl dX4_joins_8 ?_
    refine G_iload_n 1 rfl rfl dX4_joins_11 ?_
    obtain ⟨c1, h⟩ := h
    refine G_iald (n := 16) rfl c1.1 c1.2 dX4_joins_12 ?_
    obtain ⟨c2, h⟩ := h
    refine G_iald (n := 8) rfl c2.1 c2.2 dX4_joins_13 ?_
    refine G_istore_n (lv' := [(2, aI ((σ 44 (σ 2 x1)))), (0, aR (40)), (1, aI (x1))]) rfl rfl (by decide) dX4_joins_14 ?_
    refine G_aload_n 1 rfl rfl dX4_joins_15 ?_
    refine G_get (k := 5) (kd := (3, 4)) (v := aR (44)) gf_X4_21 rfl rfl rfl rfl dX4_joins_16 ?_
    refine G_aload_n 1 rfl rfl dX4_joins_19 ?_
    refine G_get (k := 0) (kd := (2, 1)) (v := aR 1) gf_X4_37 rfl rfl rfl rfl dX4_joins_20 ?_
    refine G_get (k := 1) (kd := (3, 2)) (v := aR (3)) gf_X4_74 rfl rfl rfl rfl dX4_joins_23 ?_
    refine G_iload_n 2 rfl rfl dX4_joins_26 ?_
    obtain ⟨c3, h⟩ := h
    refine G_iald (n := 16) rfl c3.1 c3.2 dX4_joins_27 ?_
    obtain ⟨c4, h⟩ := h
    refine G_iald (n := 8) rfl c4.1 c4.2 dX4_joins_28 ?_
    refine G_istore_n (lv' := [(3, aI ((σ 44 (σ 3 x1)))), (2, aI ((σ 44 (σ 2 x1)))), (0, aR (40)), (1, aI (x1))]) rfl rfl (by decide) dX4_joins_29 ?_
    refine G_iconst dX4_joins_30 ?_
    refine G_istore (lv' := [(4, aI (0)), (3, aI ((σ 44 (σ 3 x1)))), (2, aI ((σ 44 (σ 2 x1)))), (0, aR (40)), (1, aI (x1))]) rfl (by decide) dX4_joins_31 ?_
    exact G_pick [3, 2, 1, 0] rfl (h (OKm.i hO 44 (σ 2 x1) (isLg_row (show shp 44 = (1, 8, []) from rfl) _)) (OKm.i hO 44 (σ 3 x1) (isLg_row (show shp 44 = (1, 8, []) from rfl) _)) (rL 0 rfl) hO)
  · intro v2 v3 v4 σ h hv2 hv3 hv4 hO
    have h := h hv2 hv3 hv4 hO
    refine G_iload 3 rfl dX4_joins_33 ?_
    refine G_bipush (by decide) dX4_joins_35 ?_
    refine G_icmp_ge hv4 (rL 8 rfl) dX4_joins_37 (tgt := 65) (by decide) (fun c5 => ?_) (fun c5 => ?_)
    · have h := h.1 c5
      refine G_iload_n 1 rfl rfl dX4_joins_65 ?_
      refine G_iload_n 2 rfl rfl dX4_joins_66 ?_
      refine G_icmp_eq hv2 hv3 dX4_joins_67 (tgt := 74) (by decide) (fun c6 => ?_) (fun c6 => ?_)
      · have h := h.1 c6
        refine G_iconst dX4_joins_74 ?_
        exact G_zret rfl (by decide) dX4_joins_75 ⟨_, rfl, h⟩ hO
      · have h := h.2 c6
        refine G_iconst dX4_joins_70 ?_
        refine G_goto (tgt := 75) dX4_joins_71 (by decide) ?_
        exact G_zret rfl (by decide) dX4_joins_75 ⟨_, rfl, h⟩ hO
    · have h := h.2 c5
      refine G_aload_n 0 rfl rfl dX4_joins_40 ?_
      refine G_get (k := 5) (kd := (3, 4)) (v := aR (44)) gf_X4_21 rfl rfl rfl rfl dX4_joins_41 ?_
      refine G_iload 3 rfl dX4_joins_44 ?_
      obtain ⟨c7, h⟩ := h
      refine G_iald (n := 8) rfl c7.1 c7.2 dX4_joins_46 ?_
      refine G_iload_n 2 rfl rfl dX4_joins_47 ?_
      refine G_icmp_ne (OKm.i hO 44 v4 (isLg_row (show shp 44 = (1, 8, []) from rfl) _)) hv3 dX4_joins_48 (tgt := 59) (by decide) (fun c8 => ?_) (fun c8 => ?_)
      · have h := h.1 c8
        refine G_iinc (lv' := [(4, aI ((v4 + 1))), (0, aR (40)), (2, aI (v2)), (3, aI (v3))]) (k := 3) rfl rfl (by decide) dX4_joins_59 ?_
        refine G_goto (tgt := 33) dX4_joins_62 (by decide) ?_
        obtain ⟨c9, h⟩ := h
        exact G_pick [1, 2, 3, 0] rfl (h hv2 hv3 c9 hO)
      · have h := h.2 c8
        refine G_aload_n 0 rfl rfl dX4_joins_51 ?_
        refine G_get (k := 5) (kd := (3, 4)) (v := aR (44)) gf_X4_21 rfl rfl rfl rfl dX4_joins_52 ?_
        refine G_iload 3 rfl dX4_joins_55 ?_
        refine G_iload_n 1 rfl rfl dX4_joins_57 ?_
        obtain ⟨c10, h⟩ := h
        obtain ⟨σ11, e13⟩ : ∃ τ : Mem, τ = mset σ 44 v4 v2 := ⟨_, rfl⟩
        have h := h σ11 e13
        have o12 : OKm σ11 := by rw [e13]; exact OKm.seti hO _ _ _ hv2 (isLg_row (show shp 44 = (1, 8, []) from rfl) _)
        refine G_iast (n := 8) rfl c10.1 c10.2 dX4_joins_58 ?_
        rw [← e13]
        refine G_iinc (lv' := [(4, aI ((v4 + 1))), (0, aR (40)), (2, aI (v2)), (3, aI (v3))]) (k := 3) rfl rfl (by decide) dX4_joins_59 ?_
        refine G_goto (tgt := 33) dX4_joins_62 (by decide) ?_
        obtain ⟨c14, h⟩ := h
        exact G_pick [1, 2, 3, 0] rfl (h hv2 hv3 c14 o12)

theorem sp_X4_joins (d : Nat) (hd : 0 ≤ d) (σ : Mem) (hO : OKm σ) (x1 : Int) (hx1 : R32 x1) (A : Mem) (tx : Nat → Txt) (T : Int) (hpre : vwC σ A tx ∧ grp σ A T ∧ (0 ≤ T ∧ T < 65536) ∧ (0 ≤ x1 ∧ x1 < A 10 0)) : Mt yX4_joins cX4_joins 5 (some .boolean) d [aR (40), aI (x1)] σ (QI (fun v σ' => v = (if rchB A (tbt T) (A 11 x1) (A 12 x1) = true then 0 else 1) ∧ grp σ' A (if rchB A (tbt T) (A 11 x1) (A 12 x1) = true then T else bOr T (bShl 1 x1)) ∧ Fr [44] σ σ')) := mt_X4_joins hd hx1 hO (by
  unfold wp_X4_joins
  intro P33 h33
  obtain ⟨hV, hg, hT, hr⟩ := hpre
  have hI := hV.2.2.1
  have hc := hI.1
  have t1 := hV.1.2.1 x1 hr.1 hr.2
  have s2 : σ 2 x1 = A 11 x1 := t1.1
  have s3 : σ 3 x1 = A 12 x1 := t1.2.1
  have hl := hI.2.1 x1 hr.1 hr.2
  rw [s2, s3]
  have hiff := hg (A 11 x1) (A 12 x1) (by omega) (by omega) (by omega) (by omega)
  generalize hk1 : σ 44 (A 11 x1) = kp at *
  generalize hk2 : σ 44 (A 12 x1) = ls at *
  have H : ∀ (n k : Nat) (τ : Mem), k + n = 8 → (∀ t : Int, 0 ≤ t → t < k → τ 44 t = if σ 44 t = ls then kp else σ 44 t) → (∀ t : Int, (k : Int) ≤ t → τ 44 t = σ 44 t) → Fr [44] σ τ → P33 kp ls (k : Int) τ := by
    intro n
    induction n with
    | zero =>
      intro k τ hk hd hu hF
      have ht : ∀ t : Int, 0 ≤ t → t ≤ 7 → τ 44 t = if σ 44 t = ls then kp else σ 44 t := fun t h0 h7 => hd t h0 (by omega)
      refine h33 _ _ _ _ (fun _ _ _ _ => ⟨fun _ => ⟨fun heq => ?_, fun hne => ?_⟩, fun h => absurd h (by omega)⟩)
      · have hrc := hiff.mp heq
        rw [rchB_t.mpr hrc]
        refine ⟨rfl, fun x y x0 x7 y0 y7 => ?_, hF⟩
        rw [if_pos rfl, ht x x0 x7, ht y y0 y7, heq, ← hg x y x0 x7 y0 y7]
        by_cases q1 : σ 44 x = ls
        · by_cases q2 : σ 44 y = ls
          · rw [if_pos q1, if_pos q2, q1, q2]
          · rw [if_pos q1, if_neg q2, q1]
        · by_cases q2 : σ 44 y = ls
          · rw [if_neg q1, if_pos q2, q2]
          · rw [if_neg q1, if_neg q2]
      · have hrc : ¬ rch A (tbt T) (A 11 x1) (A 12 x1) := fun q => hne (hiff.mpr q)
        have hrb : rchB A (tbt T) (A 11 x1) (A 12 x1) = false := by
          cases hb : rchB A (tbt T) (A 11 x1) (A 12 x1) with
          | false => rfl
          | true => exact absurd (rchB_t.mp hb) hrc
        rw [hrb]
        refine ⟨rfl, fun x y x0 x7 y0 y7 => ?_, hF⟩
        have hadd : rch A (tbt (bOr T (bShl 1 x1))) x y ↔ (rch A (tbt T) x y ∨ (rch A (tbt T) x (A 11 x1) ∧ rch A (tbt T) (A 12 x1) y) ∨ (rch A (tbt T) x (A 12 x1) ∧ rch A (tbt T) (A 11 x1) y)) := by
          rw [rch_ext (fun z z0 _ => (tbt_add hT (r := x1) (by omega)).2 z z0)]
          exact rch_add hr (Or.inl ⟨rfl, rfl⟩)
        show τ 44 x = τ 44 y ↔ rch A (tbt (bOr T (bShl 1 x1))) x y
        rw [hadd, ht x x0 x7, ht y y0 y7, ← hg x y x0 x7 y0 y7, ← hg x (A 11 x1) x0 x7 (by omega) (by omega), ← hg x (A 12 x1) x0 x7 (by omega) (by omega), ← hg (A 12 x1) y (by omega) (by omega) y0 y7, ← hg (A 11 x1) y (by omega) (by omega) y0 y7, hk1, hk2]
        by_cases q1 : σ 44 x = ls
        · by_cases q2 : σ 44 y = ls
          · rw [if_pos q1, if_pos q2]; exact ⟨fun _ => Or.inl (q1.trans q2.symm), fun _ => rfl⟩
          · rw [if_pos q1, if_neg q2]
            constructor
            · intro z; exact Or.inr (Or.inr ⟨q1, z⟩)
            · rintro (z | z | z)
              · exact absurd (z.symm.trans q1) q2
              · exact absurd z.2.symm q2
              · exact z.2
        · by_cases q2 : σ 44 y = ls
          · rw [if_neg q1, if_pos q2]
            constructor
            · intro z; exact Or.inr (Or.inl ⟨z, q2.symm⟩)
            · rintro (z | z | z)
              · exact absurd (z.trans q2) q1
              · exact z.1
              · exact absurd z.1 q1
          · rw [if_neg q1, if_neg q2]
            constructor
            · exact Or.inl
            · rintro (z | z | z)
              · exact z
              · exact absurd z.2.symm q2
              · exact absurd z.1 q1
    | succ n ih =>
      intro k τ hk hd hu hF
      have ek := hu (k : Int) (Int.le_refl _)
      refine h33 _ _ _ _ (fun _ _ _ _ => ⟨fun h => absurd h (by omega), fun _ => ?_⟩)
      rw [ek]
      refine ⟨by omega, fun h => ⟨by unfold R32; omega, ih (k + 1) τ (by omega) (fun t t0 t1 => ?_) (fun t t1 => hu t (by omega)) hF⟩, fun h => ⟨by omega, fun σ11 e11 => ⟨by unfold R32; omega, ih (k + 1) σ11 (by omega) (fun t t0 t1 => ?_) (fun t t1 => ?_) (by rw [e11]; exact hF.set (by simp))⟩⟩⟩
      · by_cases e : t = k
        · subst e; rw [ek, if_neg h]
        · exact hd t t0 (by omega)
      · by_cases e : t = k
        · subst e; rw [e11, mset_hit rfl, if_pos h]
        · rw [e11, mset_miss e]; exact hd t t0 (by omega)
      · rw [e11, mset_miss (by omega)]; exact hu t (by omega)
  exact ⟨by omega, by omega, by omega, by omega, H 8 0 σ (by omega) (fun t t0 t1 => by omega) (fun _ _ => rfl) (Fr.rf _ _)⟩)

def wp_X4_lengthOf (x1 : Int) (σ : Mem) (Q : Int → Mem → Prop) : Prop :=
 ∀ P4 : Int → Int → Int → Mem → Prop,
 (∀ (v1 : Int) (v2 : Int) (v3 : Int) (σ : Mem), (R32 v1 → R32 v2 → R32 v3 → OKm σ →
   (((σ 1 8) ≤ v3) →
     Q v2 σ) ∧
    ((v3 < (σ 1 8)) →
     (((bAnd (bShr v1 v3) 1) ≠ 1) →
      R32 (v3 + 1) ∧ P4 v1 v2 (v3 + 1) σ) ∧
     (((bAnd (bShr v1 v3) 1) = 1) →
      (0 ≤ v3 ∧ v3 < 16) ∧
      R32 (v2 + (σ 4 v3)) ∧ R32 (v3 + 1) ∧ P4 v1 (v2 + (σ 4 v3)) (v3 + 1) σ))) → P4 v1 v2 v3 σ) →
  P4 x1 0 0 σ
theorem mt_X4_lengthOf {d : Nat} (hd : 0 ≤ d) {x1 : Int} {σ : Mem} {Q : Int → Mem → Prop} (hx1 : R32 x1) (hO : OKm σ) (h : wp_X4_lengthOf x1 σ Q) : Mt yX4_lengthOf cX4_lengthOf 4 (some .int) d [aR (40), aI (x1)] σ (QI Q) := by
  refine Mt.intro (by decide +kernel) (Nat.le_of_ble_eq_true rfl) [(0, aR (40)), (1, aI (x1))] rfl ?_
  unfold wp_X4_lengthOf at h
  have h := h (fun (v1 : Int) (v2 : Int) (v3 : Int) (σ : Mem) => R32 v1 → R32 v2 → R32 v3 → OKm σ → G yX4_lengthOf cX4_lengthOf 4 (some .int) d (QI Q) 4 [(0, aR (40)), (1, aI (v1)), (2, aI (v2)), (3, aI (v3))] [] σ) ?_
  · refine G_iconst dX4_lengthOf_0 ?_
    refine G_istore_n (lv' := [(2, aI (0)), (0, aR (40)), (1, aI (x1))]) rfl rfl (by decide) dX4_lengthOf_1 ?_
    refine G_iconst dX4_lengthOf_2 ?_
    refine G_istore_n (lv' := [(3, aI (0)), (2, aI (0)), (0, aR (40)), (1, aI (x1))]) rfl rfl (by decide) dX4_lengthOf_3 ?_
    exact G_pick [2, 3, 1, 0] rfl (h hx1 (rL 0 rfl) (rL 0 rfl) hO)
  · intro v1 v2 v3 σ h hv1 hv2 hv3 hO
    have h := h hv1 hv2 hv3 hO
    refine G_iload_n 3 rfl rfl dX4_lengthOf_4 ?_
    refine G_aload_n 0 rfl rfl dX4_lengthOf_5 ?_
    refine G_get (k := 0) (kd := (2, 1)) (v := aR 1) gf_X4_37 rfl rfl rfl rfl dX4_lengthOf_6 ?_
    refine G_get (k := 8) (kd := (0, 0)) (v := aI (σ 1 8)) gf_X4_50 rfl rfl rfl rfl dX4_lengthOf_9 ?_
    refine G_icmp_ge hv3 (OKm.i hO 1 8 rfl) dX4_lengthOf_12 (tgt := 42) (by decide) (fun c1 => ?_) (fun c1 => ?_)
    · have h := h.1 c1
      refine G_iload_n 2 rfl rfl dX4_lengthOf_42 ?_
      exact G_iret rfl hv2 dX4_lengthOf_43 ⟨_, rfl, h⟩ hO
    · have h := h.2 c1
      refine G_iload_n 1 rfl rfl dX4_lengthOf_15 ?_
      refine G_iload_n 3 rfl rfl dX4_lengthOf_16 ?_
      refine G_ishr dX4_lengthOf_17 ?_
      refine G_iconst dX4_lengthOf_18 ?_
      refine G_iand dX4_lengthOf_19 ?_
      refine G_iconst dX4_lengthOf_20 ?_
      refine G_icmp_ne (r32_of _) (rL 1 rfl) dX4_lengthOf_21 (tgt := 36) (by decide) (fun c2 => ?_) (fun c2 => ?_)
      · have h := h.1 c2
        refine G_iinc (lv' := [(3, aI ((v3 + 1))), (0, aR (40)), (1, aI (v1)), (2, aI (v2))]) (k := 3) rfl rfl (by decide) dX4_lengthOf_36 ?_
        refine G_goto (tgt := 4) dX4_lengthOf_39 (by decide) ?_
        obtain ⟨c3, h⟩ := h
        exact G_pick [1, 2, 3, 0] rfl (h hv1 hv2 c3 hO)
      · have h := h.2 c2
        refine G_iload_n 2 rfl rfl dX4_lengthOf_24 ?_
        refine G_aload_n 0 rfl rfl dX4_lengthOf_25 ?_
        refine G_get (k := 0) (kd := (2, 1)) (v := aR 1) gf_X4_37 rfl rfl rfl rfl dX4_lengthOf_26 ?_
        refine G_get (k := 2) (kd := (3, 3)) (v := aR (4)) gf_X4_77 rfl rfl rfl rfl dX4_lengthOf_29 ?_
        refine G_iload_n 3 rfl rfl dX4_lengthOf_32 ?_
        obtain ⟨c4, h⟩ := h
        refine G_iald (n := 16) rfl c4.1 c4.2 dX4_lengthOf_33 ?_
        refine G_iadd dX4_lengthOf_34 ?_
        refine G_istore_n (lv' := [(2, aI ((v2 + (σ 4 v3)))), (0, aR (40)), (1, aI (v1)), (3, aI (v3))]) rfl rfl (by decide) dX4_lengthOf_35 ?_
        refine G_iinc (lv' := [(3, aI ((v3 + 1))), (2, aI ((v2 + (σ 4 v3)))), (0, aR (40)), (1, aI (v1))]) (k := 3) rfl rfl (by decide) dX4_lengthOf_36 ?_
        refine G_goto (tgt := 4) dX4_lengthOf_39 (by decide) ?_
        obtain ⟨c5, h⟩ := h
        obtain ⟨c6, h⟩ := h
        exact G_pick [2, 3, 1, 0] rfl (h hv1 c5 c6 hO)

theorem sp_X4_lengthOf (d : Nat) (hd : 0 ≤ d) (σ : Mem) (hO : OKm σ) (x1 : Int) (hx1 : R32 x1) (A : Mem) (tx : Nat → Txt) (hpre : vwC σ A tx ∧ (0 ≤ x1 ∧ x1 < 65536)) : Mt yX4_lengthOf cX4_lengthOf 4 (some .int) d [aR (40), aI (x1)] σ (QI (fun v σ' => v = lenS A x1 ∧ σ' = σ)) := mt_X4_lengthOf hd hx1 hO (by
  unfold wp_X4_lengthOf
  intro P4 h4
  obtain ⟨hV, hx⟩ := hpre
  have hI := hV.2.2.1
  have hc := hI.1
  have e8 : σ 1 8 = A 10 0 := hV.1.1.1
  have H : ∀ (n k : Nat), k + n = (A 10 0).toNat → P4 x1 (lenN A x1 k) (k : Int) σ := by
    intro n
    induction n with
    | zero =>
      intro k hk
      have hk2 : k = (A 10 0).toNat := by omega
      exact h4 _ _ _ _ (fun _ _ _ _ => ⟨fun _ => ⟨by unfold lenS; rw [hk2], rfl⟩, fun h => absurd h (by omega)⟩)
    | succ n ih =>
      intro k hk
      have ih1 := ih (k + 1) (by omega)
      have t1 := hV.1.2.1 (k : Int) (by omega) (by omega)
      have s4 : σ 4 (k : Int) = A 13 (k : Int) := t1.2.2.1
      have hl := hI.2.1 (k : Int) (by omega) (by omega)
      have hr := lenN_r (T := x1) hI k (by omega)
      refine h4 _ _ _ _ (fun _ _ _ _ => ⟨fun h => absurd h (by omega), fun _ => ?_⟩)
      rw [s4, tbt_sh hx (by omega)]
      cases hq : tbt x1 (k : Int) with
      | false =>
        refine ⟨fun _ => ⟨by unfold R32; omega, ?_⟩, fun h => absurd h (by decide)⟩
        have e : lenN A x1 (k + 1) = lenN A x1 k := by show _ + (if _ then _ else _) = _; rw [hq]; simp
        rw [e] at ih1; exact ih1
      | true =>
        refine ⟨fun h => absurd rfl h, fun _ => ⟨by omega, by unfold R32; omega, by unfold R32; omega, ?_⟩⟩
        have e : lenN A x1 (k + 1) = lenN A x1 k + A 13 (k : Int) := by show _ + (if _ then _ else _) = _; rw [hq, if_pos rfl]
        rw [e] at ih1; exact ih1
  exact H _ 0 (Nat.zero_add _))
