theorem deg0_no {A : Mem} {t : Int} (h : degS A t = 0) {k : Nat} (hk : (k : Int) < A 10 0) : netR A t (k : Int) = false := by
  cases e : netR A t (k : Int) with
  | false => rfl
  | true =>
    have h1 := degN_le (A := A) (t := t) (k := k + 1) (by omega)
    have h2 := degN_r A t k
    have h3 : degN A t (k + 1) = degN A t k + 1 := by show _ + (if _ then _ else _) = _; rw [if_pos e]
    omega

def wp_X12_goAny  (σ : Mem) (Q : Mem → Prop) : Prop :=
 ∀ P2 : Int → Mem → Prop,
 ∀ P23 : Int → Mem → Prop,
 ∀ P60 : Int → Int → Int → Mem → Prop,
 ∀ P129 : Int → Mem → Prop,
 (∀ (v1 : Int) (σ : Mem), (R32 v1 → OKm σ →
   ((8 ≤ v1) →
     P23 0 σ) ∧
    ((v1 < 8) →
     (0 ≤ v1 ∧ v1 < 8) ∧
     ∀ σ3 : Mem, σ3 = mset σ 92 v1 0 →
     R32 (v1 + 1) ∧ P2 (v1 + 1) σ3)) → P2 v1 σ) →
 (∀ (v1 : Int) (σ : Mem), (R32 v1 → OKm σ →
   ((8 ≤ v1) →
     P129 0 σ) ∧
    ((v1 < 8) →
     ∃ g8 : Mem, ∃ g9 : Nat → Txt, (vwM σ g8 g9) ∧
     ∀ (u14 : Int) (σ13 : Mem), R32 u14 → OKm σ13 → (u14 = degS g8 v1 ∧ σ13 = σ) →
     ((u14 ≠ 0) →
      P60 v1 u14 0 σ13) ∧
     ((u14 = 0) →
      (0 ≤ v1 ∧ v1 < 8) ∧
      (0 ≤ v1 ∧ v1 < 8) ∧
      (0 ≤ v1 ∧ v1 < 8) ∧
      R64 ((σ13 92 v1) + ((σ13 91 v1) * 720720)) ∧
      ∀ σ21 : Mem, σ21 = mset σ13 92 v1 ((σ13 92 v1) + ((σ13 91 v1) * 720720)) →
      P60 v1 u14 0 σ21))) → P23 v1 σ) →
 (∀ (v1 : Int) (v2 : Int) (v3 : Int) (σ : Mem), (R32 v1 → R32 v2 → R32 v3 → OKm σ →
   (((σ 75 0) ≤ v3) →
     R32 (v1 + 1) ∧ P23 (v1 + 1) σ) ∧
    ((v3 < (σ 75 0)) →
     (0 ≤ v3 ∧ v3 < 16) ∧
     ((¬ (0 < σ 75 (11 + v3))) →
      R32 (v3 + 1) ∧ P60 v1 v2 (v3 + 1) σ) ∧
     ((0 < σ 75 (11 + v3)) →
      (0 ≤ v3 ∧ v3 < 16) ∧
      (((if σ 75 (39 + 4 * v3) = v1 then σ 75 (39 + 4 * v3 + 1) else if σ 75 (39 + 4 * v3 + 1) = v1 then σ 75 (39 + 4 * v3) else -1) = (-1)) →
       R32 (v3 + 1) ∧ P60 v1 v2 (v3 + 1) σ) ∧
      (((if σ 75 (39 + 4 * v3) = v1 then σ 75 (39 + 4 * v3 + 1) else if σ 75 (39 + 4 * v3 + 1) = v1 then σ 75 (39 + 4 * v3) else -1) ≠ (-1)) →
       (0 ≤ v3 ∧ v3 < 16) ∧
       (0 ≤ (if σ 75 (39 + 4 * v3) = v1 then σ 75 (39 + 4 * v3 + 1) else if σ 75 (39 + 4 * v3 + 1) = v1 then σ 75 (39 + 4 * v3) else -1) ∧ (if σ 75 (39 + 4 * v3) = v1 then σ 75 (39 + 4 * v3 + 1) else if σ 75 (39 + 4 * v3 + 1) = v1 then σ 75 (39 + 4 * v3) else -1) < 8) ∧
       (0 ≤ v1 ∧ v1 < 8) ∧
       (v2 ≠ 0) ∧
       (0 ≤ (if σ 75 (39 + 4 * v3) = v1 then σ 75 (39 + 4 * v3 + 1) else if σ 75 (39 + 4 * v3 + 1) = v1 then σ 75 (39 + 4 * v3) else -1) ∧ (if σ 75 (39 + 4 * v3) = v1 then σ 75 (39 + 4 * v3 + 1) else if σ 75 (39 + 4 * v3 + 1) = v1 then σ 75 (39 + 4 * v3) else -1) < 8) ∧
       R64 ((σ 92 (if σ 75 (39 + 4 * v3) = v1 then σ 75 (39 + 4 * v3 + 1) else if σ 75 (39 + 4 * v3 + 1) = v1 then σ 75 (39 + 4 * v3) else -1)) + ((σ 91 v1) * (Int.tdiv 720720 v2))) ∧
       ∀ σ51 : Mem, σ51 = mset σ 92 (if σ 75 (39 + 4 * v3) = v1 then σ 75 (39 + 4 * v3 + 1) else if σ 75 (39 + 4 * v3 + 1) = v1 then σ 75 (39 + 4 * v3) else -1) ((σ 92 (if σ 75 (39 + 4 * v3) = v1 then σ 75 (39 + 4 * v3 + 1) else if σ 75 (39 + 4 * v3 + 1) = v1 then σ 75 (39 + 4 * v3) else -1)) + ((σ 91 v1) * (Int.tdiv 720720 v2))) →
       R32 (v3 + 1) ∧ P60 v1 v2 (v3 + 1) σ51)))) → P60 v1 v2 v3 σ) →
 (∀ (v1 : Int) (σ : Mem), (R32 v1 → OKm σ →
   ((8 ≤ v1) →
     Q σ) ∧
    ((v1 < 8) →
     (0 ≤ v1 ∧ v1 < 8) ∧
     (0 ≤ v1 ∧ v1 < 8) ∧
     ∀ σ27 : Mem, σ27 = mset σ 91 v1 (σ 92 v1) →
     R32 (v1 + 1) ∧ P129 (v1 + 1) σ27)) → P129 v1 σ) →
  P2 0 σ
theorem mt_X12_goAny {d : Nat} (hd : 3 ≤ d)  {σ : Mem} {Q : Mem → Prop}  (hO : OKm σ) (h : wp_X12_goAny  σ Q) : Mt yX12_goAny cX12_goAny 4 none d [aR (74)] σ (QV Q) := by
  refine Mt.intro (by decide +kernel) (Nat.le_of_ble_eq_true rfl) [(0, aR (74))] rfl ?_
  unfold wp_X12_goAny at h
  have h := h (fun (v1 : Int) (σ : Mem) => R32 v1 → OKm σ → G yX12_goAny cX12_goAny 4 none d (QV Q) 2 [(0, aR (74)), (1, aI (v1))] [] σ)
    (fun (v1 : Int) (σ : Mem) => R32 v1 → OKm σ → G yX12_goAny cX12_goAny 4 none d (QV Q) 23 [(0, aR (74)), (1, aI (v1))] [] σ)
    (fun (v1 : Int) (v2 : Int) (v3 : Int) (σ : Mem) => R32 v1 → R32 v2 → R32 v3 → OKm σ → G yX12_goAny cX12_goAny 4 none d (QV Q) 60 [(0, aR (74)), (1, aI (v1)), (2, aI (v2)), (3, aI (v3))] [] σ)
    (fun (v1 : Int) (σ : Mem) => R32 v1 → OKm σ → G yX12_goAny cX12_goAny 4 none d (QV Q) 129 [(0, aR (74)), (1, aI (v1))] [] σ) ?_ ?_ ?_ ?_
  · refine G_iconst dX12_goAny_0 ?_
    refine G_istore_n (lv' := [(1, aI (0)), (0, aR (74))]) rfl rfl (by decide) dX12_goAny_1 ?_
    exact G_pick [1, 0] rfl (h (rL 0 rfl) hO)
  · intro v1 σ h hv1 hO
    have h := h hv1 hO
    refine G_iload_n 1 rfl rfl dX12_goAny_2 ?_
    refine G_bipush (by decide) dX12_goAny_3 ?_
    refine G_icmp_ge hv1 (rL 8 rfl) dX12_goAny_5 (tgt := 21) (by decide) (fun c1 => ?_) (fun c1 => ?_)
    · have h := h.1 c1
      refine G_iconst dX12_goAny_21 ?_
      refine G_istore_n (lv' := [(1, aI (0)), (0, aR (74))]) rfl rfl (by decide) dX12_goAny_22 ?_
      exact G_pick [1, 0] rfl (h (rL 0 rfl) hO)
    · have h := h.2 c1
      refine G_aload_n 0 rfl rfl dX12_goAny_8 ?_
      refine G_get (k := 34) (kd := (2, 92)) (v := aR 92) gf_X12_74 rfl rfl rfl rfl dX12_goAny_9 ?_
      refine G_iload_n 1 rfl rfl dX12_goAny_12 ?_
      refine G_lconst (n := 0) (by decide) dX12_goAny_13 ?_
      obtain ⟨c2, h⟩ := h
      obtain ⟨σ3, e5⟩ : ∃ τ : Mem, τ = mset σ 92 v1 0 := ⟨_, rfl⟩
      have h := h σ3 e5
      have o4 : OKm σ3 := by rw [e5]; exact OKm.setl hO _ _ _ (rLL 0 rfl) (isLg_rowL (show shp 92 = (2, 8, []) from rfl) _)
      refine G_last (n := 8) rfl c2.1 c2.2 dX12_goAny_14 ?_
      rw [← e5]
      refine G_iinc (lv' := [(1, aI ((v1 + 1))), (0, aR (74))]) (k := 1) rfl rfl (by decide) dX12_goAny_15 ?_
      refine G_goto (tgt := 2) dX12_goAny_18 (by decide) ?_
      obtain ⟨c6, h⟩ := h
      exact G_pick [1, 0] rfl (h c6 o4)
  · intro v1 σ h hv1 hO
    have h := h hv1 hO
    refine G_iload_n 1 rfl rfl dX12_goAny_23 ?_
    refine G_bipush (by decide) dX12_goAny_24 ?_
    refine G_icmp_ge hv1 (rL 8 rfl) dX12_goAny_26 (tgt := 127) (by decide) (fun c7 => ?_) (fun c7 => ?_)
    · have h := h.1 c7
      refine G_iconst dX12_goAny_127 ?_
      refine G_istore_n (lv' := [(1, aI (0)), (0, aR (74))]) rfl rfl (by decide) dX12_goAny_128 ?_
      exact G_pick [1, 0] rfl (h (rL 0 rfl) hO)
    · have h := h.2 c7
      refine G_aload_n 0 rfl rfl dX12_goAny_29 ?_
      refine G_iload_n 1 rfl rfl dX12_goAny_30 ?_
      obtain ⟨g8, g9, c10, h⟩ := h
      refine G_callV (as := [_]) cf_X12_457 rfl rfl rfl (sp_X12_roadsAt (d - 1) (by omega) _ hO _ hv1 g8 g9 c10) (by omega) rfl rfl (Nat.le_of_ble_eq_true rfl) dX12_goAny_31 ?_
      rintro _ σ13 ⟨u14, rfl, z15⟩ o12 r11
      have h := h _ _ (r11 _ rfl) o12 z15
      refine G_istore_n (lv' := [(2, aI (u14)), (0, aR (74)), (1, aI (v1))]) rfl rfl (by decide) dX12_goAny_34 ?_
      refine G_iload_n 0 rfl rfl dX12_goAny_35 ?_
      refine G_if_ne (r11 _ rfl) dX12_goAny_36 (tgt := 58) (by decide) (fun c16 => ?_) (fun c16 => ?_)
      · have h := h.1 c16
        refine G_iconst dX12_goAny_58 ?_
        refine G_istore_n (lv' := [(3, aI (0)), (2, aI (u14)), (0, aR (74)), (1, aI (v1))]) rfl rfl (by decide) dX12_goAny_59 ?_
        exact G_pick [2, 3, 1, 0] rfl (h hv1 (r11 _ rfl) (rL 0 rfl) o12)
      · have h := h.2 c16
        refine G_aload_n 1 rfl rfl dX12_goAny_39 ?_
        refine G_get (k := 34) (kd := (2, 92)) (v := aR 92) gf_X12_74 rfl rfl rfl rfl dX12_goAny_40 ?_
        refine G_iload_n 2 rfl rfl dX12_goAny_43 ?_
        refine G_dup2 rfl rfl dX12_goAny_44 ?_
        obtain ⟨c17, h⟩ := h
        refine G_lald (n := 8) rfl c17.1 c17.2 dX12_goAny_45 ?_
        refine G_aload_n 1 rfl rfl dX12_goAny_46 ?_
        refine G_get (k := 33) (kd := (2, 91)) (v := aR 91) gf_X12_71 rfl rfl rfl rfl dX12_goAny_47 ?_
        refine G_iload_n 2 rfl rfl dX12_goAny_50 ?_
        obtain ⟨c18, h⟩ := h
        refine G_lald (n := 8) rfl c18.1 c18.2 dX12_goAny_51 ?_
        refine G_ldc2 (n := 720720) rfl (by decide) kc_X12_460 dX12_goAny_52 ?_
        refine G_lmul dX12_goAny_55 ?_
        refine G_ladd dX12_goAny_56 ?_
        obtain ⟨c19, h⟩ := h
        obtain ⟨c20, h⟩ := h
        obtain ⟨σ21, e23⟩ : ∃ τ : Mem, τ = mset σ13 92 v1 ((σ13 92 v1) + ((σ13 91 v1) * 720720)) := ⟨_, rfl⟩
        have h := h σ21 e23
        have o22 : OKm σ21 := by rw [e23]; exact OKm.setl o12 _ _ _ c20 (isLg_rowL (show shp 92 = (2, 8, []) from rfl) _)
        refine G_last (n := 8) rfl c19.1 c19.2 dX12_goAny_57 ?_
        rw [← e23]
        refine G_iconst dX12_goAny_58 ?_
        refine G_istore_n (lv' := [(3, aI (0)), (2, aI (u14)), (0, aR (74)), (1, aI (v1))]) rfl rfl (by decide) dX12_goAny_59 ?_
        exact G_pick [2, 3, 1, 0] rfl (h hv1 (r11 _ rfl) (rL 0 rfl) o22)
  · intro v1 v2 v3 σ h hv1 hv2 hv3 hO
    have h := h hv1 hv2 hv3 hO
    refine G_iload_n 3 rfl rfl dX12_goAny_60 ?_
    refine G_aload_n 0 rfl rfl dX12_goAny_61 ?_
    refine G_get (k := 0) (kd := (2, 75)) (v := aR 75) gf_X12_7 rfl rfl rfl rfl dX12_goAny_62 ?_
    refine G_iconst dX12_goAny_65 ?_
    refine G_iald (n := 2119) rfl (by decide) (by decide) dX12_goAny_66 ?_
    refine G_icmp_ge hv3 (OKm.i hO 75 0 (isLg_row (show shp 75 = (1, 2119, []) from rfl) _)) dX12_goAny_67 (tgt := 121) (by decide) (fun c31 => ?_) (fun c31 => ?_)
    · have h := h.1 c31
      refine G_iinc (lv' := [(1, aI ((v1 + 1))), (0, aR (74)), (2, aI (v2)), (3, aI (v3))]) (k := 1) rfl rfl (by decide) dX12_goAny_121 ?_
      refine G_goto (tgt := 23) dX12_goAny_124 (by decide) ?_
      obtain ⟨c32, h⟩ := h
      exact G_pick [1, 0] rfl (h c32 hO)
    · have h := h.2 c31
      refine G_aload_n 0 rfl rfl dX12_goAny_70 ?_
      refine G_iload_n 3 rfl rfl dX12_goAny_71 ?_
      obtain ⟨c33, h⟩ := h
      refine G_callV (as := [_]) cf_X12_431 rfl rfl rfl (sp_X12_isNet (d - 1) (by omega) _ hO _ hv3 c33) (by omega) rfl rfl (Nat.le_of_ble_eq_true rfl) dX12_goAny_72 ?_
      rintro _ _ ⟨_, rfl, rfl, rfl⟩ o35 r34
      refine G_if_eq (bI_R _) dX12_goAny_75 (tgt := 115) (by decide) (fun c36 => ?_) (fun c36 => ?_)
      · have h := h.1 ((bI_0 _).mp c36)
        refine G_iinc (lv' := [(3, aI ((v3 + 1))), (0, aR (74)), (1, aI (v1)), (2, aI (v2))]) (k := 3) rfl rfl (by decide) dX12_goAny_115 ?_
        refine G_goto (tgt := 60) dX12_goAny_118 (by decide) ?_
        obtain ⟨c37, h⟩ := h
        exact G_pick [1, 2, 3, 0] rfl (h hv1 hv2 c37 hO)
      · have h := h.2 (bI_ne c36)
        refine G_aload_n 0 rfl rfl dX12_goAny_78 ?_
        refine G_iload_n 3 rfl rfl dX12_goAny_79 ?_
        refine G_iload_n 1 rfl rfl dX12_goAny_80 ?_
        obtain ⟨c38, h⟩ := h
        refine G_callV (as := [_, _]) cf_X12_339 rfl rfl rfl (sp_X12_other (d - 1) (by omega) _ hO _ hv3 _ hv1 c38) (by omega) rfl rfl (Nat.le_of_ble_eq_true rfl) dX12_goAny_81 ?_
        rintro _ _ ⟨_, rfl, rfl, rfl⟩ o40 r39
        refine G_iconst dX12_goAny_84 ?_
        refine G_icmp_eq (r39 _ rfl) (rL (-1) rfl) dX12_goAny_85 (tgt := 115) (by decide) (fun c41 => ?_) (fun c41 => ?_)
        · have h := h.1 c41
          refine G_iinc (lv' := [(3, aI ((v3 + 1))), (0, aR (74)), (1, aI (v1)), (2, aI (v2))]) (k := 3) rfl rfl (by decide) dX12_goAny_115 ?_
          refine G_goto (tgt := 60) dX12_goAny_118 (by decide) ?_
          obtain ⟨c42, h⟩ := h
          exact G_pick [1, 2, 3, 0] rfl (h hv1 hv2 c42 hO)
        · have h := h.2 c41
          refine G_aload_n 0 rfl rfl dX12_goAny_88 ?_
          refine G_get (k := 34) (kd := (2, 92)) (v := aR 92) gf_X12_74 rfl rfl rfl rfl dX12_goAny_89 ?_
          refine G_aload_n 0 rfl rfl dX12_goAny_92 ?_
          refine G_iload_n 3 rfl rfl dX12_goAny_93 ?_
          refine G_iload_n 1 rfl rfl dX12_goAny_94 ?_
          obtain ⟨c43, h⟩ := h
          refine G_callV (as := [_, _]) cf_X12_339 rfl rfl rfl (sp_X12_other (d - 1) (by omega) _ hO _ hv3 _ hv1 c43) (by omega) rfl rfl (Nat.le_of_ble_eq_true rfl) dX12_goAny_95 ?_
          rintro _ _ ⟨_, rfl, rfl, rfl⟩ o45 r44
          refine G_dup2 rfl rfl dX12_goAny_98 ?_
          obtain ⟨c46, h⟩ := h
          refine G_lald (n := 8) rfl c46.1 c46.2 dX12_goAny_99 ?_
          refine G_aload_n 0 rfl rfl dX12_goAny_100 ?_
          refine G_get (k := 33) (kd := (2, 91)) (v := aR 91) gf_X12_71 rfl rfl rfl rfl dX12_goAny_101 ?_
          refine G_iload_n 1 rfl rfl dX12_goAny_104 ?_
          obtain ⟨c47, h⟩ := h
          refine G_lald (n := 8) rfl c47.1 c47.2 dX12_goAny_105 ?_
          refine G_ldc2 (n := 720720) rfl (by decide) kc_X12_460 dX12_goAny_106 ?_
          refine G_iload_n 2 rfl rfl dX12_goAny_109 ?_
          refine G_i2l hv2 dX12_goAny_110 ?_
          obtain ⟨c48, h⟩ := h
          refine G_ldiv (rLL 720720 rfl) (r32_64 hv2) c48 dX12_goAny_111 ?_
          refine G_lmul dX12_goAny_112 ?_
          refine G_ladd dX12_goAny_113 ?_
          obtain ⟨c49, h⟩ := h
          obtain ⟨c50, h⟩ := h
          obtain ⟨σ51, e53⟩ : ∃ τ : Mem, τ = mset σ 92 (if σ 75 (39 + 4 * v3) = v1 then σ 75 (39 + 4 * v3 + 1) else if σ 75 (39 + 4 * v3 + 1) = v1 then σ 75 (39 + 4 * v3) else -1) ((σ 92 (if σ 75 (39 + 4 * v3) = v1 then σ 75 (39 + 4 * v3 + 1) else if σ 75 (39 + 4 * v3 + 1) = v1 then σ 75 (39 + 4 * v3) else -1)) + ((σ 91 v1) * (Int.tdiv 720720 v2))) := ⟨_, rfl⟩
          have h := h σ51 e53
          have o52 : OKm σ51 := by rw [e53]; exact OKm.setl hO _ _ _ c50 (isLg_rowL (show shp 92 = (2, 8, []) from rfl) _)
          refine G_last (n := 8) rfl c49.1 c49.2 dX12_goAny_114 ?_
          rw [← e53]
          refine G_iinc (lv' := [(3, aI ((v3 + 1))), (0, aR (74)), (1, aI (v1)), (2, aI (v2))]) (k := 3) rfl rfl (by decide) dX12_goAny_115 ?_
          refine G_goto (tgt := 60) dX12_goAny_118 (by decide) ?_
          obtain ⟨c54, h⟩ := h
          exact G_pick [1, 2, 3, 0] rfl (h hv1 hv2 c54 o52)
  · intro v1 σ h hv1 hO
    have h := h hv1 hO
    refine G_iload_n 1 rfl rfl dX12_goAny_129 ?_
    refine G_bipush (by decide) dX12_goAny_130 ?_
    refine G_icmp_ge hv1 (rL 8 rfl) dX12_goAny_132 (tgt := 153) (by decide) (fun c24 => ?_) (fun c24 => ?_)
    · have h := h.1 c24
      exact G_vret rfl dX12_goAny_153 ⟨rfl, h⟩ hO
    · have h := h.2 c24
      refine G_aload_n 0 rfl rfl dX12_goAny_135 ?_
      refine G_get (k := 33) (kd := (2, 91)) (v := aR 91) gf_X12_71 rfl rfl rfl rfl dX12_goAny_136 ?_
      refine G_iload_n 1 rfl rfl dX12_goAny_139 ?_
      refine G_aload_n 0 rfl rfl dX12_goAny_140 ?_
      refine G_get (k := 34) (kd := (2, 92)) (v := aR 92) gf_X12_74 rfl rfl rfl rfl dX12_goAny_141 ?_
      refine G_iload_n 1 rfl rfl dX12_goAny_144 ?_
      obtain ⟨c25, h⟩ := h
      refine G_lald (n := 8) rfl c25.1 c25.2 dX12_goAny_145 ?_
      obtain ⟨c26, h⟩ := h
      obtain ⟨σ27, e29⟩ : ∃ τ : Mem, τ = mset σ 91 v1 (σ 92 v1) := ⟨_, rfl⟩
      have h := h σ27 e29
      have o28 : OKm σ27 := by rw [e29]; exact OKm.setl hO _ _ _ (OKm.l hO 92 v1 (isLg_rowL (show shp 92 = (2, 8, []) from rfl) _)) (isLg_rowL (show shp 91 = (2, 8, []) from rfl) _)
      refine G_last (n := 8) rfl c26.1 c26.2 dX12_goAny_146 ?_
      rw [← e29]
      refine G_iinc (lv' := [(1, aI ((v1 + 1))), (0, aR (74))]) (k := 1) rfl rfl (by decide) dX12_goAny_147 ?_
      refine G_goto (tgt := 129) dX12_goAny_150 (by decide) ?_
      obtain ⟨c30, h⟩ := h
      exact G_pick [1, 0] rfl (h c30 o28)

theorem sp_X12_goAny (d : Nat) (hd : 3 ≤ d) (σ : Mem) (hO : OKm σ) (A : Mem) (tx : Nat → Txt) (c : Int → Int) (hpre : vwM σ A tx ∧ (∀ t : Int, 0 ≤ t → t ≤ 7 → σ 91 t = c t) ∧ (∀ t, 0 ≤ c t) ∧ sm8 c * 720720 ≤ 4611686018427387904) : Mt yX12_goAny cX12_goAny 4 none d [aR (74)] σ (QV (fun σ' => vwM σ' A tx ∧ (∀ t : Int, 0 ≤ t → t ≤ 7 → σ' 91 t = wkN A 720720 c 8 t) ∧ Fr [91, 92] σ σ')) := mt_X12_goAny hd  hO (by
  unfold wp_X12_goAny
  intro P2 P23 P60 P129 h2 h23 h60 h129
  obtain ⟨hV, hch, hc0, hB⟩ := hpre
  have hI := hV.2.2.1
  have hc := hI.1
  have hM := dvA_all hI
  have vq : ∀ τ : Mem, Fr [91, 92] σ τ → vwM τ A tx := fun τ h => hV.fr (h.wk (by simp [ScrM]))
  have hx0 : (0 : Int) ≤ 720720 := by omega
  have wn := fun n u => wkN_nn (A := A) hc0 hx0 n u
  have H129 : ∀ (n k : Nat) (τ : Mem), k + n = 8 → Fr [91, 92] σ τ → (∀ u : Int, 0 ≤ u → u ≤ 7 → τ 92 u = wkN A 720720 c 8 u) → (∀ u : Int, 0 ≤ u → u < (k : Int) → τ 91 u = wkN A 720720 c 8 u) → P129 (k : Int) τ := by
    intro n
    induction n with
    | zero =>
      intro k τ hk hF hw h91
      exact h129 _ _ (fun _ _ => ⟨fun _ => ⟨vq τ hF, fun u a b => h91 u a (by omega), hF⟩, fun h => absurd h (by omega)⟩)
    | succ n ih =>
      intro k τ hk hF hw h91
      refine h129 _ _ (fun _ _ => ⟨fun h => absurd h (by omega), fun _ => ⟨by omega, by omega, fun σ27 e27 => ⟨by unfold R32; omega, ?_⟩⟩⟩)
      refine ih (k + 1) σ27 (by omega) (by rw [e27]; exact hF.set (by simp)) (fun u a b => by rw [e27, mset_off (by omega)]; exact hw u a b) (fun u a b => ?_)
      rw [e27]
      by_cases e : u = (k : Int)
      · subst e; rw [mset_hit rfl]; exact hw _ (by omega) (by omega)
      · rw [mset_miss e]; exact h91 u a (by omega)
  have H23 : ∀ (n k : Nat) (τ : Mem), k + n = 8 → Fr [92] σ τ → (∀ u : Int, 0 ≤ u → u ≤ 7 → τ 92 u = wkN A 720720 c k u) → P23 (k : Int) τ := by
    intro n
    induction n with
    | zero =>
      intro k τ hk hF hw
      have hk8 : k = 8 := by omega
      subst hk8
      exact h23 _ _ (fun _ _ => ⟨fun _ => H129 8 0 τ (by omega) (hF.wk (by simp)) hw (fun u a b => absurd b (by omega)), fun h => absurd h (by omega)⟩)
    | succ n ih =>
      intro k τ hk hF hw
      have dn := deg_nn A (k : Int)
      have hs := shr_nn (A := A) (t := (k : Int)) (M := 720720) hc0 hx0
      -- the roads, one by one
      have H60 : ∀ (d : Int → Int), (∀ j : Nat, (j : Int) ≤ A 10 0 → degS A (k : Int) = 0 → spr A (k : Int) (c (k : Int) * (720720 / degS A (k : Int))) j d = d) → (degS A (k : Int) ≠ 0 → d = wkN A 720720 c k) → (∀ u : Int, 0 ≤ u → u ≤ 7 → spr A (k : Int) (c (k : Int) * (720720 / degS A (k : Int))) (A 10 0).toNat d u = wkN A 720720 c (k + 1) u) → ∀ (m j : Nat) (ρ : Mem), j + m = (A 10 0).toNat → Fr [92] σ ρ → (∀ u : Int, 0 ≤ u → u ≤ 7 → ρ 92 u = spr A (k : Int) (c (k : Int) * (720720 / degS A (k : Int))) j d u) → P60 (k : Int) (degS A (k : Int)) (j : Int) ρ := by
        intro d hz hnz hend m
        induction m with
        | zero =>
          intro j ρ hj hFr hs2
          have hVr := vq ρ (hFr.wk (by simp))
          have f0 : ρ 75 0 = A 10 0 := hVr.1.1.1
          refine h60 _ _ _ _ (fun _ _ _ _ => ⟨fun _ => ⟨by unfold R32; omega, ?_⟩, fun h => absurd h (by omega)⟩)
          refine ih (k + 1) ρ (by omega) hFr (fun u a b => ?_)
          rw [hs2 u a b, ← hend u a b, ← hj]; rfl
        | succ m ihm =>
          intro j ρ hj hFr hs2
          have hVr := vq ρ (hFr.wk (by simp))
          have f0 : ρ 75 0 = A 10 0 := hVr.1.1.1
          have t1 := hVr.1.2.1 (j : Int) (by omega) (by omega)
          have n1 : ρ 75 (11 + (j : Int)) = A 1 (j : Int) := hVr.2.1.2.1 (j : Int) (by omega) (by omega)
          have s2 : ρ 75 (39 + 4 * (j : Int)) = A 11 (j : Int) := t1.1
          have s3 : ρ 75 (39 + 4 * (j : Int) + 1) = A 12 (j : Int) := t1.2.1
          have k1 := hI.2.1 (j : Int) (by omega) (by omega)
          have ha := acrS_r (t := (k : Int)) hI (r := (j : Int)) ⟨by omega, by omega⟩
          have no : netR A (k : Int) (j : Int) = false → R32 ((j : Int) + 1) ∧ P60 (k : Int) (degS A (k : Int)) ((j : Int) + 1) ρ := fun h => by
            refine ⟨by unfold R32; omega, ihm (j + 1) ρ (by omega) hFr (fun u a b => ?_)⟩
            rw [hs2 u a b]
            show _ = (if netR A (k : Int) (j : Int) = true then _ else _ : Int → Int) u
            rw [h]; rfl
          refine h60 _ _ _ _ (fun _ _ _ _ => ⟨fun h => absurd h (by omega), fun _ => ?_⟩)
          rw [n1, s2, s3]
          refine ⟨by omega, fun h => no (decide_eq_false (fun q => h q.1)), fun h => ⟨by omega, fun h2 => no (decide_eq_false (fun q => ?_)), fun h2 => ?_⟩⟩
          · by_cases q1 : A 11 (j : Int) = (k : Int)
            · rw [if_pos q1] at h2; omega
            · rw [if_neg q1, if_pos (by omega)] at h2; omega
          have hor : A 11 (j : Int) = (k : Int) ∨ A 12 (j : Int) = (k : Int) := by
            by_cases q1 : A 11 (j : Int) = (k : Int)
            · exact .inl q1
            · rw [if_neg q1] at h2
              by_cases q2 : A 12 (j : Int) = (k : Int)
              · exact .inr q2
              · rw [if_neg q2] at h2; omega
          have hnr : netR A (k : Int) (j : Int) = true := decide_eq_true ⟨h, hor⟩
          have eac : (if A 11 (j : Int) = (k : Int) then A 12 (j : Int) else if A 12 (j : Int) = (k : Int) then A 11 (j : Int) else -1) = acrS A (j : Int) (k : Int) := by
            unfold acrS
            by_cases q1 : A 11 (j : Int) = (k : Int)
            · rw [if_pos q1, if_pos q1]
            · rw [if_neg q1, if_neg q1, if_pos (by omega)]
          have hd : degS A (k : Int) ≠ 0 := fun q => by
            have := deg0_no q (k := j) (by omega)
            rw [this] at hnr; cases hnr
          have e91 : ρ 91 (k : Int) = c (k : Int) := by rw [hFr 91 (by simp)]; exact hch _ (by omega) (by omega)
          rw [eac, e91, Int.tdiv_eq_ediv_of_nonneg hx0, hs2 _ ha.1 ha.2]
          have hdd := hnz hd
          subst hdd
          have hle := spr_le hI hM hc0 hx0 (n := k) (k := j + 1) (by omega) (by omega) hd ha
          have e1 : spr A (k : Int) (c (k : Int) * (720720 / degS A (k : Int))) (j + 1) (wkN A 720720 c k) = fup (spr A (k : Int) (c (k : Int) * (720720 / degS A (k : Int))) j (wkN A 720720 c k)) (acrS A (j : Int) (k : Int)) (spr A (k : Int) (c (k : Int) * (720720 / degS A (k : Int))) j (wkN A 720720 c k) (acrS A (j : Int) (k : Int)) + c (k : Int) * (720720 / degS A (k : Int))) := by
            show (if netR A (k : Int) (j : Int) = true then _ else _ : Int → Int) = _
            rw [if_pos hnr]
          have hnn := spr_nn (A := A) (t := (k : Int)) hs (wn k) j (acrS A (j : Int) (k : Int))
          rw [e1, fup_self] at hle
          refine ⟨by omega, by omega, by omega, hd, by omega, by unfold R64; omega, fun σ51 e51 => ⟨by unfold R32; omega, ihm (j + 1) σ51 (by omega) (by rw [e51]; exact hFr.set (by simp)) (fun u a b => ?_)⟩⟩
          rw [e1, e51]
          by_cases eu : u = acrS A (j : Int) (k : Int)
          · subst eu; rw [mset_hit rfl, fup_self]
          · rw [mset_miss eu, fup_ne eu]; exact hs2 u a b
      have zz : degS A (k : Int) = 0 → ∀ (d : Int → Int) (s : Int) (j : Nat), (j : Int) ≤ A 10 0 → spr A (k : Int) s j d = d := fun hz d s j => by
        induction j with
        | zero => intro _; rfl
        | succ j ihj =>
          intro hj
          show (if netR A (k : Int) (j : Int) = true then _ else _ : Int → Int) = _
          rw [deg0_no hz (by omega)]; exact ihj (by omega)
      refine h23 _ _ (fun _ _ => ⟨fun h => absurd h (by omega), fun _ => ⟨A, tx, vq τ (hF.wk (by simp)), ?_⟩⟩)
      intro u14 σ13 hu14 hO13 ⟨eu, e13⟩
      rw [eu, e13]
      refine ⟨fun hd => ?_, fun hd => ?_⟩
      · refine H60 (wkN A 720720 c k) (fun j _ q => absurd q hd) (fun _ => rfl) (fun u a b => ?_) _ 0 τ (Nat.zero_add _) hF hw
        show _ = twn A 720720 c (k : Int) (wkN A 720720 c k) u
        unfold twn; rw [if_neg hd]
      · have e1 : wkN A 720720 c (k + 1) = fup (wkN A 720720 c k) (k : Int) (wkN A 720720 c k (k : Int) + c (k : Int) * 720720) := by
          show twn A 720720 c (k : Int) (wkN A 720720 c k) = _
          unfold twn; rw [if_pos hd]
        have hle := wkN_le hI hM hc0 hx0 (n := k + 1) (by omega) (u := (k : Int)) (by omega)
        rw [e1, fup_self] at hle
        have hnn := wn k (k : Int)
        have hpr : 0 ≤ c (k : Int) * 720720 := Int.mul_nonneg (hc0 _) hx0
        have e91 : τ 91 (k : Int) = c (k : Int) := by rw [hF 91 (by simp)]; exact hch _ (by omega) (by omega)
        rw [e91, hw (k : Int) (by omega) (by omega)]
        refine ⟨by omega, by omega, by omega, by unfold R64; omega, fun σ21 e21 => ?_⟩
        refine H60 (wkN A 720720 c (k + 1)) (fun j hj q => zz q _ _ j hj) (fun q => absurd hd q) (fun u a b => by rw [zz hd _ _ _ (by omega)]) _ 0 σ21 (Nat.zero_add _) (by rw [e21]; exact hF.set (by simp)) (fun u a b => ?_)
        show _ = wkN A 720720 c (k + 1) u
        rw [e1, e21]
        by_cases eu : u = (k : Int)
        · subst eu; rw [mset_hit rfl, fup_self]
        · rw [mset_miss eu, fup_ne eu]; exact hw u a b
  have H2 : ∀ (n k : Nat) (τ : Mem), k + n = 8 → Fr [92] σ τ → (∀ u : Int, 0 ≤ u → u < (k : Int) → τ 92 u = 0) → P2 (k : Int) τ := by
    intro n
    induction n with
    | zero =>
      intro k τ hk hF hw
      exact h2 _ _ (fun _ _ => ⟨fun _ => H23 8 0 τ (by omega) hF (fun u a b => hw u a (by omega)), fun h => absurd h (by omega)⟩)
    | succ n ih =>
      intro k τ hk hF hw
      refine h2 _ _ (fun _ _ => ⟨fun h => absurd h (by omega), fun _ => ⟨by omega, fun σ3 e3 => ⟨by unfold R32; omega, ?_⟩⟩⟩)
      refine ih (k + 1) σ3 (by omega) (by rw [e3]; exact hF.set (by simp)) (fun u a b => ?_)
      rw [e3]
      by_cases e : u = (k : Int)
      · subst e; rw [mset_hit rfl]
      · rw [mset_miss e]; exact hw u a (by omega)
  exact H2 8 0 σ (by omega) (Fr.rf _ _) (fun u a b => absurd b (by omega)))
