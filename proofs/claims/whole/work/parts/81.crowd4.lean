def folC (σ A : Mem) (tx : Nat → Txt) (r th : Int) (p b : List Int) : Prop := vwC σ (mset A 1 r th) tx ∧ knC σ A tx r ∧ onL σ 51 p ∧ σ 49 6 = (b.length : Int) ∧ onL σ 52 b
def skR (A : Mem) (tx : Nat → Txt) (r : Int) : Int → Int → Int := fun g t => skT A tx g r t
theorem mcpy_ne {σ : Mem} {p0 p1 q : Nat} {sp dp n : Int} (h : q ≠ p1) : mcpy σ p0 sp p1 dp n q = σ q := by funext j; exact mcpy_off h
theorem visL_none {rc : List Int → Int → List Int → List Int} {sk : Int → Int → Int} {p : List Int} {th : Int} {b : List Int} : ∀ c : Nat, (∀ x : Int, 0 ≤ x → x < (c : Int) → x ∈ p) → visL rc sk p th c b = b
  | 0, _ => rfl
  | c + 1, h => by
    rw [visL_no (fun q => q.1 (h (c : Int) (by omega) (by omega)))]
    exact visL_none c (fun x a b => h x a (by omega))
theorem folC.now {σ σ' A : Mem} {tx : Nat → Txt} {r th : Int} {p b : List Int} (h : folC σ A tx r th p b) (hV : vwC σ' (mset A 1 r th) tx) (hk : knC σ' A tx r) (hF : Fr [37, 50] σ σ') : folC σ' A tx r th p b :=
  ⟨hV, hk, h.2.2.1.congr (fun i _ _ => by rw [hF 51 (by simp)]), by rw [hF 49 (by simp)]; exact h.2.2.2.1, h.2.2.2.2.congr (fun i _ _ => by rw [hF 52 (by simp)])⟩

def wp_X3_follow_6 (x1 : Int) (x2 : Int) (x3 : Int) (σ : Mem) (Q : Mem → Prop) : Prop :=
 ∀ P30 : Int → Int → Int → Int → Mem → Prop,
 (∀ (v1 : Int) (v2 : Int) (v3 : Int) (v4 : Int) (σ : Mem), (R32 v1 → R32 v2 → R32 v3 → R32 v4 → OKm σ →
   (((σ 1 9) ≤ v4) →
     Q σ) ∧
    ((v4 < (σ 1 9)) →
     ((6 ≤ v2) →
      Q σ) ∧
     ((v2 < 6) →
      (((σ 1 9) ≤ (σ 49 6)) →
       Q σ) ∧
      (((σ 49 6) < (σ 1 9)) →
       (((bAnd (bShr v3 v4) 1) ≠ 0) →
        R32 (v4 + 1) ∧ P30 v1 v2 v3 (v4 + 1) σ) ∧
       (((bAnd (bShr v3 v4) 1) = 0) →
        ∃ g14 : Mem, ∃ g15 : Nat → Txt, ∃ g16 : Int, (vwC σ (mset g14 1 v1 g16) g15 ∧ (0 ≤ v4 ∧ v4 < g14 10 1) ∧ (0 ≤ v1 ∧ v1 < g14 10 0) ∧ (0 ≤ g16 ∧ g16 ≤ g14 14 v1 ∧ g14 14 v1 ≤ 99) ∧ knC σ g14 g15 v1) ∧
        ∀ (u21 : Int) (σ20 : Mem), R32 u21 → OKm σ20 → (u21 = skT g14 g15 v4 v1 g16 ∧ vwC σ20 (mset g14 1 v1 g16) g15 ∧ knC σ20 g14 g15 v1 ∧ Fr [37, 50] σ σ20) →
        (0 ≤ v1 ∧ v1 < 16) ∧
        (((σ20 11 v1) < u21) →
         R32 (v4 + 1) ∧ P30 v1 v2 v3 (v4 + 1) σ20) ∧
        ((u21 ≤ (σ20 11 v1)) →
         ∃ g26 : Mem, ∃ g27 : Nat → Txt, ∃ g28 : Int, (vwC σ20 (mset g26 1 v1 g28) g27 ∧ (0 ≤ v4 ∧ v4 < g26 10 1) ∧ (0 ≤ v1 ∧ v1 < g26 10 0) ∧ (0 ≤ g28 ∧ g28 ≤ g26 14 v1 ∧ g26 14 v1 ≤ 99) ∧ knC σ20 g26 g27 v1) ∧
         ∀ (u33 : Int) (σ32 : Mem), R32 u33 → OKm σ32 → (u33 = skT g26 g27 v4 v1 g28 ∧ vwC σ32 (mset g26 1 v1 g28) g27 ∧ knC σ32 g26 g27 v1 ∧ Fr [37, 50] σ20 σ32) →
         (0 ≤ v2 ∧ v2 < 6) ∧
         ∀ σ36 : Mem, σ36 = mset σ32 51 v2 v4 →
         (0 ≤ v1 ∧ v1 < 16) ∧
         (0 ≤ v1 ∧ v1 < 16) ∧
         R32 ((σ36 11 v1) - u33) ∧
         ∀ σ42 : Mem, σ42 = mset σ36 11 v1 ((σ36 11 v1) - u33) →
         R32 (v2 + 1) ∧
         (False) ∧
         ∀ σ49 : Mem, OKm σ49 → (True) →
         (0 ≤ v1 ∧ v1 < 16) ∧
         (0 ≤ v1 ∧ v1 < 16) ∧
         R32 ((σ49 11 v1) + u33) ∧
         ∀ σ55 : Mem, σ55 = mset σ49 11 v1 ((σ49 11 v1) + u33) →
         R32 (v4 + 1) ∧ P30 v1 v2 v3 (v4 + 1) σ55)))))) → P30 v1 v2 v3 v4 σ) →
  ((x2 ≤ (σ 49 6)) →
    P30 x1 x2 x3 0 σ) ∧
   (((σ 49 6) < x2) →
    ∀ σ2 : Mem, σ2 = mset σ 49 6 x2 →
    ((0 : Int) ≤ 0 ∧ (0 : Int) ≤ 0 ∧ (0 : Int) ≤ x2 ∧ (0 + x2 : Int) ≤ 6 ∧ (0 + x2 : Int) ≤ 6) ∧
    ∀ σ6 : Mem, σ6 = mcpy σ2 51 0 52 0 x2 →
    P30 x1 x2 x3 0 σ6)
theorem mt_X3_follow_6 {d : Nat} (hd : 5 ≤ d) {x1 : Int} {x2 : Int} {x3 : Int} {σ : Mem} {Q : Mem → Prop} (hx1 : R32 x1) (hx2 : R32 x2) (hx3 : R32 x3) (hO : OKm σ) (h : wp_X3_follow_6 x1 x2 x3 σ Q) : Mt yX3_follow cX3_follow 6 none d [aR (49), aI (x1), aI (x2), aI (x3)] σ (QV Q) := by
  refine Mt.intro (by decide +kernel) (Nat.le_of_ble_eq_true rfl) [(0, aR (49)), (1, aI (x1)), (2, aI (x2)), (3, aI (x3))] rfl ?_
  unfold wp_X3_follow_6 at h
  have h := h (fun (v1 : Int) (v2 : Int) (v3 : Int) (v4 : Int) (σ : Mem) => R32 v1 → R32 v2 → R32 v3 → R32 v4 → OKm σ → G yX3_follow cX3_follow 6 none d (QV Q) 30 [(0, aR (49)), (1, aI (v1)), (2, aI (v2)), (3, aI (v3)), (4, aI (v4))] [] σ) ?_
  · refine G_iload_n 2 rfl rfl dX3_follow_0 ?_
    refine G_aload_n 0 rfl rfl dX3_follow_1 ?_
    refine G_get (k := 6) (kd := (0, 0)) (v := aI (σ 49 6)) gf_X3_21 rfl rfl rfl rfl dX3_follow_2 ?_
    refine G_icmp_le hx2 (OKm.i hO 49 6 rfl) dX3_follow_5 (tgt := 27) (by decide) (fun c1 => ?_) (fun c1 => ?_)
    · have h := h.1 c1
      refine G_iconst dX3_follow_27 ?_
      refine G_istore (lv' := [(4, aI (0)), (0, aR (49)), (1, aI (x1)), (2, aI (x2)), (3, aI (x3))]) rfl (by decide) dX3_follow_28 ?_
      exact G_pick [1, 2, 3, 4, 0] rfl (h hx1 hx2 hx3 (rL 0 rfl) hO)
    · have h := h.2 c1
      refine G_aload_n 0 rfl rfl dX3_follow_8 ?_
      refine G_iload_n 2 rfl rfl dX3_follow_9 ?_
      obtain ⟨σ2, e4⟩ : ∃ τ : Mem, τ = mset σ 49 6 x2 := ⟨_, rfl⟩
      have h := h σ2 e4
      have o3 : OKm σ2 := by rw [e4]; exact OKm.seti hO _ _ _ hx2 rfl
      refine G_put (k := 6) (ki := 6) (kd := (0, 0)) (x := _) pf_X3_21 rfl rfl rfl rfl (fa_i (mset_self _ _ _ _)) (fun _ => rfl) (fun _ => rfl) dX3_follow_10 ?_
      rw [← e4]
      refine G_aload_n 0 rfl rfl dX3_follow_13 ?_
      refine G_get (k := 4) (kd := (3, 2)) (v := aR (51)) gf_X3_15 rfl rfl rfl rfl dX3_follow_14 ?_
      refine G_iconst dX3_follow_17 ?_
      refine G_aload_n 0 rfl rfl dX3_follow_18 ?_
      refine G_get (k := 5) (kd := (3, 3)) (v := aR (52)) gf_X3_18 rfl rfl rfl rfl dX3_follow_19 ?_
      refine G_iconst dX3_follow_22 ?_
      refine G_iload_n 2 rfl rfl dX3_follow_23 ?_
      obtain ⟨c5, h⟩ := h
      obtain ⟨σ6, e8⟩ : ∃ τ : Mem, τ = mcpy σ2 51 0 52 0 x2 := ⟨_, rfl⟩
      have h := h σ6 e8
      have o7 : OKm σ6 := by rw [e8]; exact OKm.cpy o3 (isLg_row (show shp 51 = (1, 6, []) from rfl)) (isLg_row (show shp 52 = (1, 6, []) from rfl))
      refine G_copy rfl (show shp 51 = (1, 6, []) from rfl) (show shp 52 = (1, 6, []) from rfl) (by decide) (by decide) c5.1 c5.2.1 c5.2.2.1 c5.2.2.2.1 c5.2.2.2.2 (Nat.le_of_ble_eq_true rfl) sf_X3_67 dX3_follow_24 ?_
      rw [← e8]
      refine G_iconst dX3_follow_27 ?_
      refine G_istore (lv' := [(4, aI (0)), (0, aR (49)), (1, aI (x1)), (2, aI (x2)), (3, aI (x3))]) rfl (by decide) dX3_follow_28 ?_
      exact G_pick [1, 2, 3, 4, 0] rfl (h hx1 hx2 hx3 (rL 0 rfl) o7)
  · intro v1 v2 v3 v4 σ h hv1 hv2 hv3 hv4 hO
    have h := h hv1 hv2 hv3 hv4 hO
    refine G_iload 4 rfl dX3_follow_30 ?_
    refine G_aload_n 0 rfl rfl dX3_follow_32 ?_
    refine G_get (k := 0) (kd := (2, 1)) (v := aR 1) gf_X3_29 rfl rfl rfl rfl dX3_follow_33 ?_
    refine G_get (k := 9) (kd := (0, 0)) (v := aI (σ 1 9)) gf_X3_73 rfl rfl rfl rfl dX3_follow_36 ?_
    refine G_icmp_ge hv4 (OKm.i hO 1 9 rfl) dX3_follow_39 (tgt := 155) (by decide) (fun c9 => ?_) (fun c9 => ?_)
    · have h := h.1 c9
      exact G_vret rfl dX3_follow_155 ⟨rfl, h⟩ hO
    · have h := h.2 c9
      refine G_iload_n 2 rfl rfl dX3_follow_42 ?_
      refine G_bipush (by decide) dX3_follow_43 ?_
      refine G_icmp_ge hv2 (rL 6 rfl) dX3_follow_45 (tgt := 155) (by decide) (fun c10 => ?_) (fun c10 => ?_)
      · have h := h.1 c10
        exact G_vret rfl dX3_follow_155 ⟨rfl, h⟩ hO
      · have h := h.2 c10
        refine G_aload_n 0 rfl rfl dX3_follow_48 ?_
        refine G_get (k := 6) (kd := (0, 0)) (v := aI (σ 49 6)) gf_X3_21 rfl rfl rfl rfl dX3_follow_49 ?_
        refine G_aload_n 0 rfl rfl dX3_follow_52 ?_
        refine G_get (k := 0) (kd := (2, 1)) (v := aR 1) gf_X3_29 rfl rfl rfl rfl dX3_follow_53 ?_
        refine G_get (k := 9) (kd := (0, 0)) (v := aI (σ 1 9)) gf_X3_73 rfl rfl rfl rfl dX3_follow_56 ?_
        refine G_icmp_ge (OKm.i hO 49 6 rfl) (OKm.i hO 1 9 rfl) dX3_follow_59 (tgt := 155) (by decide) (fun c11 => ?_) (fun c11 => ?_)
        · have h := h.1 c11
          exact G_vret rfl dX3_follow_155 ⟨rfl, h⟩ hO
        · have h := h.2 c11
          refine G_iload_n 3 rfl rfl dX3_follow_62 ?_
          refine G_iload 4 rfl dX3_follow_63 ?_
          refine G_ishr dX3_follow_65 ?_
          refine G_iconst dX3_follow_66 ?_
          refine G_iand dX3_follow_67 ?_
          refine G_if_ne (r32_of _) dX3_follow_68 (tgt := 149) (by decide) (fun c12 => ?_) (fun c12 => ?_)
          · have h := h.1 c12
            refine G_iinc (lv' := [(4, aI ((v4 + 1))), (0, aR (49)), (1, aI (v1)), (2, aI (v2)), (3, aI (v3))]) (k := 4) rfl rfl (by decide) dX3_follow_149 ?_
            refine G_goto (tgt := 30) dX3_follow_152 (by decide) ?_
            obtain ⟨c13, h⟩ := h
            exact G_pick [1, 2, 3, 4, 0] rfl (h hv1 hv2 hv3 c13 hO)
          · have h := h.2 c12
            refine G_aload_n 0 rfl rfl dX3_follow_71 ?_
            refine G_iload 4 rfl dX3_follow_72 ?_
            refine G_iload_n 1 rfl rfl dX3_follow_74 ?_
            obtain ⟨g14, g15, g16, c17, h⟩ := h
            refine G_callV (as := [_, _]) cf_X3_76 rfl rfl rfl (sp_X3_suckedAt (d - 1) (by omega) _ hO _ hv4 _ hv1 g14 g15 g16 c17) (by omega) rfl rfl (Nat.le_of_ble_eq_true rfl) dX3_follow_75 ?_
            rintro _ σ20 ⟨u21, rfl, z22⟩ o19 r18
            have h := h _ _ (r18 _ rfl) o19 z22
            refine G_aload_n 0 rfl rfl dX3_follow_78 ?_
            refine G_get (k := 1) (kd := (2, 10)) (v := aR 10) gf_X3_33 rfl rfl rfl rfl dX3_follow_79 ?_
            refine G_get (k := 0) (kd := (3, 1)) (v := aR (11)) gf_X3_41 rfl rfl rfl rfl dX3_follow_82 ?_
            refine G_iload_n 1 rfl rfl dX3_follow_85 ?_
            obtain ⟨c23, h⟩ := h
            refine G_iald (n := 16) rfl c23.1 c23.2 dX3_follow_86 ?_
            refine G_icmp_gt (r18 _ rfl) (OKm.i o19 11 v1 (isLg_row (show shp 11 = (1, 16, []) from rfl) _)) dX3_follow_87 (tgt := 149) (by decide) (fun c24 => ?_) (fun c24 => ?_)
            · have h := h.1 c24
              refine G_iinc (lv' := [(4, aI ((v4 + 1))), (0, aR (49)), (1, aI (v1)), (2, aI (v2)), (3, aI (v3))]) (k := 4) rfl rfl (by decide) dX3_follow_149 ?_
              refine G_goto (tgt := 30) dX3_follow_152 (by decide) ?_
              obtain ⟨c25, h⟩ := h
              exact G_pick [1, 2, 3, 4, 0] rfl (h hv1 hv2 hv3 c25 o19)
            · have h := h.2 c24
              refine G_aload_n 0 rfl rfl dX3_follow_90 ?_
              refine G_iload 4 rfl dX3_follow_91 ?_
              refine G_iload_n 1 rfl rfl dX3_follow_93 ?_
              obtain ⟨g26, g27, g28, c29, h⟩ := h
              refine G_callV (as := [_, _]) cf_X3_76 rfl rfl rfl (sp_X3_suckedAt (d - 1) (by omega) _ o19 _ hv4 _ hv1 g26 g27 g28 c29) (by omega) rfl rfl (Nat.le_of_ble_eq_true rfl) dX3_follow_94 ?_
              rintro _ σ32 ⟨u33, rfl, z34⟩ o31 r30
              have h := h _ _ (r30 _ rfl) o31 z34
              refine G_istore (lv' := [(5, aI (u33)), (0, aR (49)), (1, aI (v1)), (2, aI (v2)), (3, aI (v3)), (4, aI (v4))]) rfl (by decide) dX3_follow_97 ?_
              refine G_aload_n 1 rfl rfl dX3_follow_99 ?_
              refine G_get (k := 4) (kd := (3, 2)) (v := aR (51)) gf_X3_15 rfl rfl rfl rfl dX3_follow_100 ?_
              refine G_iload_n 3 rfl rfl dX3_follow_103 ?_
              refine G_iload 5 rfl dX3_follow_104 ?_
              obtain ⟨c35, h⟩ := h
              obtain ⟨σ36, e38⟩ : ∃ τ : Mem, τ = mset σ32 51 v2 v4 := ⟨_, rfl⟩
              have h := h σ36 e38
              have o37 : OKm σ36 := by rw [e38]; exact OKm.seti o31 _ _ _ hv4 (isLg_row (show shp 51 = (1, 6, []) from rfl) _)
              refine G_iast (n := 6) rfl c35.1 c35.2 dX3_follow_106 ?_
              rw [← e38]
              refine G_aload_n 1 rfl rfl dX3_follow_107 ?_
              refine G_get (k := 1) (kd := (2, 10)) (v := aR 10) gf_X3_33 rfl rfl rfl rfl dX3_follow_108 ?_
              refine G_get (k := 0) (kd := (3, 1)) (v := aR (11)) gf_X3_41 rfl rfl rfl rfl dX3_follow_111 ?_
              refine G_iload_n 2 rfl rfl dX3_follow_114 ?_
              refine G_dup2 rfl rfl dX3_follow_115 ?_
              obtain ⟨c39, h⟩ := h
              refine G_iald (n := 16) rfl c39.1 c39.2 dX3_follow_116 ?_
              refine G_iload 0 rfl dX3_follow_117 ?_
              refine G_isub dX3_follow_119 ?_
              obtain ⟨c40, h⟩ := h
              obtain ⟨c41, h⟩ := h
              obtain ⟨σ42, e44⟩ : ∃ τ : Mem, τ = mset σ36 11 v1 ((σ36 11 v1) - u33) := ⟨_, rfl⟩
              have h := h σ42 e44
              have o43 : OKm σ42 := by rw [e44]; exact OKm.seti o37 _ _ _ c41 (isLg_row (show shp 11 = (1, 16, []) from rfl) _)
              refine G_iast (n := 16) rfl c40.1 c40.2 dX3_follow_120 ?_
              rw [← e44]
              refine G_aload_n 1 rfl rfl dX3_follow_121 ?_
              refine G_iload_n 2 rfl rfl dX3_follow_122 ?_
              refine G_iload_n 3 rfl rfl dX3_follow_123 ?_
              refine G_iconst dX3_follow_124 ?_
              refine G_iadd dX3_follow_125 ?_
              refine G_iload_n 4 rfl rfl dX3_follow_126 ?_
              refine G_iconst dX3_follow_127 ?_
              refine G_iload 5 rfl dX3_follow_128 ?_
              refine G_ishl dX3_follow_130 ?_
              refine G_ior dX3_follow_131 ?_
              obtain ⟨c45, h⟩ := h
              obtain ⟨c46, h⟩ := h
              refine G_callV (as := [_, _, _]) cf_X3_63 rfl rfl rfl (sp_X3_follow_n (d - 1) (by omega) _ o43 _ hv1 _ c45 _ (r32_of _) c46) (by omega) rfl rfl (Nat.le_of_ble_eq_true rfl) dX3_follow_132 ?_
              rintro _ σ49 ⟨rfl, z51⟩ o48 r47
              have h := h _ o48 z51
              refine G_aload_n 1 rfl rfl dX3_follow_135 ?_
              refine G_get (k := 1) (kd := (2, 10)) (v := aR 10) gf_X3_33 rfl rfl rfl rfl dX3_follow_136 ?_
              refine G_get (k := 0) (kd := (3, 1)) (v := aR (11)) gf_X3_41 rfl rfl rfl rfl dX3_follow_139 ?_
              refine G_iload_n 2 rfl rfl dX3_follow_142 ?_
              refine G_dup2 rfl rfl dX3_follow_143 ?_
              obtain ⟨c52, h⟩ := h
              refine G_iald (n := 16) rfl c52.1 c52.2 dX3_follow_144 ?_
              refine G_iload 0 rfl dX3_follow_145 ?_
              refine G_iadd dX3_follow_147 ?_
              obtain ⟨c53, h⟩ := h
              obtain ⟨c54, h⟩ := h
              obtain ⟨σ55, e57⟩ : ∃ τ : Mem, τ = mset σ49 11 v1 ((σ49 11 v1) + u33) := ⟨_, rfl⟩
              have h := h σ55 e57
              have o56 : OKm σ55 := by rw [e57]; exact OKm.seti o48 _ _ _ c54 (isLg_row (show shp 11 = (1, 16, []) from rfl) _)
              refine G_iast (n := 16) rfl c53.1 c53.2 dX3_follow_148 ?_
              rw [← e57]
              refine G_iinc (lv' := [(4, aI ((v4 + 1))), (5, aI (u33)), (0, aR (49)), (1, aI (v1)), (2, aI (v2)), (3, aI (v3))]) (k := 5) rfl rfl (by decide) dX3_follow_149 ?_
              refine G_goto (tgt := 30) dX3_follow_152 (by decide) ?_
              obtain ⟨c58, h⟩ := h
              exact G_pick [2, 3, 4, 5, 0] rfl (h hv1 hv2 hv3 c58 o56)

theorem sp_X3_follow_6 (d : Nat) (hd : 5 ≤ d) (σ : Mem) (hO : OKm σ) (x1 : Int) (hx1 : R32 x1) (x2 : Int) (hx2 : R32 x2) (x3 : Int) (hx3 : R32 x3) (A : Mem) (tx : Nat → Txt) (th : Int) (p : List Int) (b : List Int) (hpre : folC σ A tx x1 th p b ∧ p.length = 6 ∧ x2 = 6 ∧ bsP x3 p ∧ okP (A 10 1) p ∧ (0 ≤ x1 ∧ x1 < A 10 0) ∧ InvA A ∧ (0 ≤ th ∧ th ≤ A 14 x1)) : Mt yX3_follow cX3_follow 6 none d [aR (49), aI (x1), aI (x2), aI (x3)] σ (QV (fun σ' => folC σ' A tx x1 th p (vis (skR A tx x1) (A 10 1).toNat 1 p th b) ∧ (∀ j : Int, j ≠ 6 → σ' 49 j = σ 49 j) ∧ Fr [11, 37, 49, 50, 51, 52] σ σ')) := mt_X3_follow_6 hd hx1 hx2 hx3 hO (by
  unfold wp_X3_follow_6
  intro P30 h30
  obtain ⟨hS, hlen, hx2j, hbs, hok, hr, hI, hth⟩ := hpre
  have hc := hI.1
  have k1 := hI.2.1 x1 hr.1 hr.2
  have hinv : ∀ t : Int, 0 ≤ t ∧ t ≤ A 14 x1 → InvA (mset A 1 x1 t) := fun t h => hI.thick (fun _ _ => h)
  have b10 : ∀ t : Int, mset A 1 x1 t 10 = A 10 := fun t => mset_ne (by omega)
  have hG : ((A 10 1).toNat : Int) = A 10 1 := by omega
  generalize hGG : (A 10 1).toNat = G at *
  have hpG := (show okP (G : Int) p by rw [hG]; exact hok)
  have H : ∀ b1 : List Int, b1 = (if b.length < p.length then p else b) → ∀ (n c : Nat) (τ : Mem), c + n = G → folC τ A tx x1 th p (visL (vis (skR A tx x1) G 0) (skR A tx x1) p th c b1) → (∀ j : Int, j ≠ 6 → τ 49 j = σ 49 j) → Fr [11, 37, 49, 50, 51, 52] σ τ → P30 x1 x2 x3 (c : Int) τ := by
    intro b1 eb1 n
    have fin : ∀ (c : Nat) (τ : Mem), c ≤ G → visL (vis (skR A tx x1) G 0) (skR A tx x1) p th G b1 = visL (vis (skR A tx x1) G 0) (skR A tx x1) p th c b1 → folC τ A tx x1 th p (visL (vis (skR A tx x1) G 0) (skR A tx x1) p th c b1) → (∀ j : Int, j ≠ 6 → τ 49 j = σ 49 j) → Fr [11, 37, 49, 50, 51, 52] σ τ → folC τ A tx x1 th p (vis (skR A tx x1) G (0 + 1) p th b) ∧ (∀ j : Int, j ≠ 6 → τ 49 j = σ 49 j) ∧ Fr [11, 37, 49, 50, 51, 52] σ τ := fun c τ _ e h h49 hF => by
      refine ⟨?_, h49, hF⟩
      show folC τ A tx x1 th p (visL (vis (skR A tx x1) G 0) (skR A tx x1) p th G (if b.length < p.length then p else b))
      rw [← eb1, e]; exact h
    induction n with
    | zero =>
      intro c τ hk hSt h49 hF
      have f9 : τ 1 9 = A 10 1 := by rw [hSt.1.1.1.2.1, b10]
      have hcG : c = G := by omega
      exact h30 _ _ _ _ _ (fun _ _ _ _ _ => ⟨fun _ => fin c τ (by omega) (by rw [hcG]) hSt h49 hF, fun h => absurd h (by omega)⟩)
    | succ n ih =>
      intro c τ hk hSt h49 hF
      have f9 : τ 1 9 = A 10 1 := by rw [hSt.1.1.1.2.1, b10]
      have f6 := hSt.2.2.2.1
      have f11 : τ 11 x1 = th := by
        have := hSt.1.2.1.2.1 x1 hr.1 (by rw [b10]; exact hr.2)
        rw [this, mset_self]
      refine h30 _ _ _ _ _ (fun _ _ _ _ _ => ⟨fun h => absurd h (by omega), fun _ => ?_⟩)
      rw [f9, f6]
      refine ⟨fun h6 => ?_, fun h6 => ⟨fun hfull => ?_, fun hnf => ?_⟩⟩
      · refine fin c τ (by omega) ?_ hSt h49 hF
        have hall : ∀ x : Int, 0 ≤ x → x < (G : Int) → x ∈ p := fun x a b => hpG.full (by omega) ⟨a, b⟩
        rw [visL_none G hall, visL_none c (fun x a b => hall x a (by omega))]
      · refine fin c τ (by omega) ?_ hSt h49 hF
        have := visL_full hpG (by omega) (by omega) (G - c) (by omega) (sk := skR A tx x1) (f := 0) (th := th) (b := b1) (c := c)
        rw [show c + (G - c) = G by omega] at this
        exact this
      · rw [tbt_sh hbs.1 (by omega), hbs.2 (c : Int) (by omega)]
        have skip : ∀ ρ : Mem, ¬ ((c : Int) ∉ p ∧ skR A tx x1 (c : Int) th ≤ th) → folC ρ A tx x1 th p (visL (vis (skR A tx x1) G 0) (skR A tx x1) p th c b1) → (∀ j : Int, j ≠ 6 → ρ 49 j = σ 49 j) → Fr [11, 37, 49, 50, 51, 52] σ ρ → R32 ((c : Int) + 1) ∧ P30 x1 x2 x3 ((c : Int) + 1) ρ := fun ρ hn h a bF => by
          rw [← visL_no hn] at h
          exact ⟨by unfold R32; omega, ih (c + 1) ρ (by omega) h a bF⟩
        refine ⟨fun hin => skip τ (fun q => hin ?_) hSt h49 hF, fun hout => ⟨A, tx, th, ⟨hSt.1, by omega, hr, by omega, hSt.2.1⟩, ?_⟩⟩
        · rw [if_neg (by rw [decide_eq_true_eq]; exact q.1)]
        have hnp : (c : Int) ∉ p := fun q => by rw [decide_eq_true q, if_pos rfl] at hout; omega
        intro u21 σ20 hu21 hO20 ⟨eu21, hV20, hk20, hF20⟩
        have hS20 := hSt.now hV20 hk20 hF20
        have g11 : σ20 11 x1 = th := by rw [hF20 11 (by simp)]; exact f11
        have h4920 : ∀ j : Int, j ≠ 6 → σ20 49 j = σ 49 j := fun j a => by rw [hF20 49 (by simp)]; exact h49 j a
        have hFr20 : Fr [11, 37, 49, 50, 51, 52] σ σ20 := hF.tr (hF20.wk (by simp))
        have eu21 : u21 = skR A tx x1 (c : Int) th := eu21
        rw [g11, eu21]
        refine ⟨by omega, fun hlt => skip σ20 (fun q => by omega) hS20 h4920 hFr20, fun hle => ⟨A, tx, th, ⟨hV20, by omega, hr, by omega, hk20⟩, ?_⟩⟩
        intro u33 σ32 hu33 hO32 ⟨eu33, hV32, hk32, hF32⟩
        have hS32 := hS20.now hV32 hk32 hF32
        have eu33 : u33 = skR A tx x1 (c : Int) th := eu33
        have hsr : 0 ≤ skR A tx x1 (c : Int) th ∧ skR A tx x1 (c : Int) th ≤ 99 := skT_r hI (by omega) hr (by omega)
        have g11b : σ32 11 x1 = th := by rw [hF32 11 (by simp)]; exact g11
        have h4932 : ∀ j : Int, j ≠ 6 → σ32 49 j = σ 49 j := fun j a => by rw [hF32 49 (by simp)]; exact h4920 j a
        have hFr32 : Fr [11, 37, 49, 50, 51, 52] σ σ32 := hFr20.tr (hF32.wk (by simp))
        omega
  have f6 := hS.2.2.2.1
  refine ⟨fun h => ?_, fun h σ2 e2 => ⟨by omega, fun σ6 e6 => ?_⟩⟩
  · have eb : b = (if b.length < p.length then p else b) := by rw [if_neg (by omega)]
    exact H b eb G 0 σ (Nat.zero_add _) hS (fun _ _ => rfl) (Fr.rf _ _)
  · have eb : p = (if b.length < p.length then p else b) := by rw [if_pos (by omega)]
    have hF6 : Fr [49, 52] σ σ6 := by
      intro q hq
      simp at hq
      rw [e6, mcpy_ne (by omega), e2, mset_ne (by omega)]
    have o49 : ∀ j : Int, j ≠ 6 → σ6 49 j = σ 49 j := fun j a => by rw [e6, mcpy_ne (by omega), e2, mset_miss a]
    have hp2 : onL σ6 52 p := fun i x hx => by
      have : i < p.length := (List.getElem?_eq_some_iff.mp hx).1
      have e := hS.2.2.1 i x hx
      rw [e6, mcpy_hit (by omega)]
      rw [show (0 + ((i : Int) - 0)) = (i : Int) by omega, e2, mset_off (by omega)]; exact e
    refine H p eb G 0 σ6 (Nat.zero_add _) ⟨?_, fun g t a1 a2 a3 a4 => ?_, hS.2.2.1.congr (fun i _ _ => by rw [hF6 51 (by simp)]), ?_, hp2⟩ o49 (hF6.wk (by simp))
    · exact hS.1.now (hS.1.2.1.congr (fun q a b => hF6 q (by simp; omega))) hS.1.2.2.1 (fun _ _ => rfl) (fun q a => hF6 q (by simp; omega))
    · rw [hF6 50 (by simp)]; exact hS.2.1 g t a1 a2 a3 a4
    · rw [e6, mcpy_ne (by omega), e2, mset_hit rfl]; show x2 = (p.length : Int); omega)

def wp_X3_follow_5 (x1 : Int) (x2 : Int) (x3 : Int) (σ : Mem) (Q : Mem → Prop) : Prop :=
 ∀ P30 : Int → Int → Int → Int → Mem → Prop,
 (∀ (v1 : Int) (v2 : Int) (v3 : Int) (v4 : Int) (σ : Mem), (R32 v1 → R32 v2 → R32 v3 → R32 v4 → OKm σ →
   (((σ 1 9) ≤ v4) →
     Q σ) ∧
    ((v4 < (σ 1 9)) →
     ((6 ≤ v2) →
      Q σ) ∧
     ((v2 < 6) →
      (((σ 1 9) ≤ (σ 49 6)) →
       Q σ) ∧
      (((σ 49 6) < (σ 1 9)) →
       (((bAnd (bShr v3 v4) 1) ≠ 0) →
        R32 (v4 + 1) ∧ P30 v1 v2 v3 (v4 + 1) σ) ∧
       (((bAnd (bShr v3 v4) 1) = 0) →
        ∃ g14 : Mem, ∃ g15 : Nat → Txt, ∃ g16 : Int, (vwC σ (mset g14 1 v1 g16) g15 ∧ (0 ≤ v4 ∧ v4 < g14 10 1) ∧ (0 ≤ v1 ∧ v1 < g14 10 0) ∧ (0 ≤ g16 ∧ g16 ≤ g14 14 v1 ∧ g14 14 v1 ≤ 99) ∧ knC σ g14 g15 v1) ∧
        ∀ (u21 : Int) (σ20 : Mem), R32 u21 → OKm σ20 → (u21 = skT g14 g15 v4 v1 g16 ∧ vwC σ20 (mset g14 1 v1 g16) g15 ∧ knC σ20 g14 g15 v1 ∧ Fr [37, 50] σ σ20) →
        (0 ≤ v1 ∧ v1 < 16) ∧
        (((σ20 11 v1) < u21) →
         R32 (v4 + 1) ∧ P30 v1 v2 v3 (v4 + 1) σ20) ∧
        ((u21 ≤ (σ20 11 v1)) →
         ∃ g26 : Mem, ∃ g27 : Nat → Txt, ∃ g28 : Int, (vwC σ20 (mset g26 1 v1 g28) g27 ∧ (0 ≤ v4 ∧ v4 < g26 10 1) ∧ (0 ≤ v1 ∧ v1 < g26 10 0) ∧ (0 ≤ g28 ∧ g28 ≤ g26 14 v1 ∧ g26 14 v1 ≤ 99) ∧ knC σ20 g26 g27 v1) ∧
         ∀ (u33 : Int) (σ32 : Mem), R32 u33 → OKm σ32 → (u33 = skT g26 g27 v4 v1 g28 ∧ vwC σ32 (mset g26 1 v1 g28) g27 ∧ knC σ32 g26 g27 v1 ∧ Fr [37, 50] σ20 σ32) →
         (0 ≤ v2 ∧ v2 < 6) ∧
         ∀ σ36 : Mem, σ36 = mset σ32 51 v2 v4 →
         (0 ≤ v1 ∧ v1 < 16) ∧
         (0 ≤ v1 ∧ v1 < 16) ∧
         R32 ((σ36 11 v1) - u33) ∧
         ∀ σ42 : Mem, σ42 = mset σ36 11 v1 ((σ36 11 v1) - u33) →
         R32 (v2 + 1) ∧
         ∃ g46 : Mem, ∃ g47 : Nat → Txt, ∃ g48 : Int, ∃ g49 : List Int, ∃ g50 : List Int, (folC σ42 g46 g47 v1 g48 g49 g50 ∧ g49.length = 6 ∧ (v2 + 1) = 6 ∧ bsP (bOr v3 (bShl 1 v4)) g49 ∧ okP (g46 10 1) g49 ∧ (0 ≤ v1 ∧ v1 < g46 10 0) ∧ InvA g46 ∧ (0 ≤ g48 ∧ g48 ≤ g46 14 v1)) ∧
         ∀ σ54 : Mem, OKm σ54 → (folC σ54 g46 g47 v1 g48 g49 (vis (skR g46 g47 v1) (g46 10 1).toNat 1 g49 g48 g50) ∧ (∀ j : Int, j ≠ 6 → σ54 49 j = σ42 49 j) ∧ Fr [11, 37, 49, 50, 51, 52] σ42 σ54) →
         (0 ≤ v1 ∧ v1 < 16) ∧
         (0 ≤ v1 ∧ v1 < 16) ∧
         R32 ((σ54 11 v1) + u33) ∧
         ∀ σ60 : Mem, σ60 = mset σ54 11 v1 ((σ54 11 v1) + u33) →
         R32 (v4 + 1) ∧ P30 v1 v2 v3 (v4 + 1) σ60)))))) → P30 v1 v2 v3 v4 σ) →
  ((x2 ≤ (σ 49 6)) →
    P30 x1 x2 x3 0 σ) ∧
   (((σ 49 6) < x2) →
    ∀ σ2 : Mem, σ2 = mset σ 49 6 x2 →
    ((0 : Int) ≤ 0 ∧ (0 : Int) ≤ 0 ∧ (0 : Int) ≤ x2 ∧ (0 + x2 : Int) ≤ 6 ∧ (0 + x2 : Int) ≤ 6) ∧
    ∀ σ6 : Mem, σ6 = mcpy σ2 51 0 52 0 x2 →
    P30 x1 x2 x3 0 σ6)
theorem mt_X3_follow_5 {d : Nat} (hd : 6 ≤ d) {x1 : Int} {x2 : Int} {x3 : Int} {σ : Mem} {Q : Mem → Prop} (hx1 : R32 x1) (hx2 : R32 x2) (hx3 : R32 x3) (hO : OKm σ) (h : wp_X3_follow_5 x1 x2 x3 σ Q) : Mt yX3_follow cX3_follow 6 none d [aR (49), aI (x1), aI (x2), aI (x3)] σ (QV Q) := by
  refine Mt.intro (by decide +kernel) (Nat.le_of_ble_eq_true rfl) [(0, aR (49)), (1, aI (x1)), (2, aI (x2)), (3, aI (x3))] rfl ?_
  unfold wp_X3_follow_5 at h
  have h := h (fun (v1 : Int) (v2 : Int) (v3 : Int) (v4 : Int) (σ : Mem) => R32 v1 → R32 v2 → R32 v3 → R32 v4 → OKm σ → G yX3_follow cX3_follow 6 none d (QV Q) 30 [(0, aR (49)), (1, aI (v1)), (2, aI (v2)), (3, aI (v3)), (4, aI (v4))] [] σ) ?_
  · refine G_iload_n 2 rfl rfl dX3_follow_0 ?_
    refine G_aload_n 0 rfl rfl dX3_follow_1 ?_
    refine G_get (k := 6) (kd := (0, 0)) (v := aI (σ 49 6)) gf_X3_21 rfl rfl rfl rfl dX3_follow_2 ?_
    refine G_icmp_le hx2 (OKm.i hO 49 6 rfl) dX3_follow_5 (tgt := 27) (by decide) (fun c1 => ?_) (fun c1 => ?_)
    · have h := h.1 c1
      refine G_iconst dX3_follow_27 ?_
      refine G_istore (lv' := [(4, aI (0)), (0, aR (49)), (1, aI (x1)), (2, aI (x2)), (3, aI (x3))]) rfl (by decide) dX3_follow_28 ?_
      exact G_pick [1, 2, 3, 4, 0] rfl (h hx1 hx2 hx3 (rL 0 rfl) hO)
    · have h := h.2 c1
      refine G_aload_n 0 rfl rfl dX3_follow_8 ?_
      refine G_iload_n 2 rfl rfl dX3_follow_9 ?_
      obtain ⟨σ2, e4⟩ : ∃ τ : Mem, τ = mset σ 49 6 x2 := ⟨_, rfl⟩
      have h := h σ2 e4
      have o3 : OKm σ2 := by rw [e4]; exact OKm.seti hO _ _ _ hx2 rfl
      refine G_put (k := 6) (ki := 6) (kd := (0, 0)) (x := _) pf_X3_21 rfl rfl rfl rfl (fa_i (mset_self _ _ _ _)) (fun _ => rfl) (fun _ => rfl) dX3_follow_10 ?_
      rw [← e4]
      refine G_aload_n 0 rfl rfl dX3_follow_13 ?_
      refine G_get (k := 4) (kd := (3, 2)) (v := aR (51)) gf_X3_15 rfl rfl rfl rfl dX3_follow_14 ?_
      refine G_iconst dX3_follow_17 ?_
      refine G_aload_n 0 rfl rfl dX3_follow_18 ?_
      refine G_get (k := 5) (kd := (3, 3)) (v := aR (52)) gf_X3_18 rfl rfl rfl rfl dX3_follow_19 ?_
      refine G_iconst dX3_follow_22 ?_
      refine G_iload_n 2 rfl rfl dX3_follow_23 ?_
      obtain ⟨c5, h⟩ := h
      obtain ⟨σ6, e8⟩ : ∃ τ : Mem, τ = mcpy σ2 51 0 52 0 x2 := ⟨_, rfl⟩
      have h := h σ6 e8
      have o7 : OKm σ6 := by rw [e8]; exact OKm.cpy o3 (isLg_row (show shp 51 = (1, 6, []) from rfl)) (isLg_row (show shp 52 = (1, 6, []) from rfl))
      refine G_copy rfl (show shp 51 = (1, 6, []) from rfl) (show shp 52 = (1, 6, []) from rfl) (by decide) (by decide) c5.1 c5.2.1 c5.2.2.1 c5.2.2.2.1 c5.2.2.2.2 (Nat.le_of_ble_eq_true rfl) sf_X3_67 dX3_follow_24 ?_
      rw [← e8]
      refine G_iconst dX3_follow_27 ?_
      refine G_istore (lv' := [(4, aI (0)), (0, aR (49)), (1, aI (x1)), (2, aI (x2)), (3, aI (x3))]) rfl (by decide) dX3_follow_28 ?_
      exact G_pick [1, 2, 3, 4, 0] rfl (h hx1 hx2 hx3 (rL 0 rfl) o7)
  · intro v1 v2 v3 v4 σ h hv1 hv2 hv3 hv4 hO
    have h := h hv1 hv2 hv3 hv4 hO
    refine G_iload 4 rfl dX3_follow_30 ?_
    refine G_aload_n 0 rfl rfl dX3_follow_32 ?_
    refine G_get (k := 0) (kd := (2, 1)) (v := aR 1) gf_X3_29 rfl rfl rfl rfl dX3_follow_33 ?_
    refine G_get (k := 9) (kd := (0, 0)) (v := aI (σ 1 9)) gf_X3_73 rfl rfl rfl rfl dX3_follow_36 ?_
    refine G_icmp_ge hv4 (OKm.i hO 1 9 rfl) dX3_follow_39 (tgt := 155) (by decide) (fun c9 => ?_) (fun c9 => ?_)
    · have h := h.1 c9
      exact G_vret rfl dX3_follow_155 ⟨rfl, h⟩ hO
    · have h := h.2 c9
      refine G_iload_n 2 rfl rfl dX3_follow_42 ?_
      refine G_bipush (by decide) dX3_follow_43 ?_
      refine G_icmp_ge hv2 (rL 6 rfl) dX3_follow_45 (tgt := 155) (by decide) (fun c10 => ?_) (fun c10 => ?_)
      · have h := h.1 c10
        exact G_vret rfl dX3_follow_155 ⟨rfl, h⟩ hO
      · have h := h.2 c10
        refine G_aload_n 0 rfl rfl dX3_follow_48 ?_
        refine G_get (k := 6) (kd := (0, 0)) (v := aI (σ 49 6)) gf_X3_21 rfl rfl rfl rfl dX3_follow_49 ?_
        refine G_aload_n 0 rfl rfl dX3_follow_52 ?_
        refine G_get (k := 0) (kd := (2, 1)) (v := aR 1) gf_X3_29 rfl rfl rfl rfl dX3_follow_53 ?_
        refine G_get (k := 9) (kd := (0, 0)) (v := aI (σ 1 9)) gf_X3_73 rfl rfl rfl rfl dX3_follow_56 ?_
        refine G_icmp_ge (OKm.i hO 49 6 rfl) (OKm.i hO 1 9 rfl) dX3_follow_59 (tgt := 155) (by decide) (fun c11 => ?_) (fun c11 => ?_)
        · have h := h.1 c11
          exact G_vret rfl dX3_follow_155 ⟨rfl, h⟩ hO
        · have h := h.2 c11
          refine G_iload_n 3 rfl rfl dX3_follow_62 ?_
          refine G_iload 4 rfl dX3_follow_63 ?_
          refine G_ishr dX3_follow_65 ?_
          refine G_iconst dX3_follow_66 ?_
          refine G_iand dX3_follow_67 ?_
          refine G_if_ne (r32_of _) dX3_follow_68 (tgt := 149) (by decide) (fun c12 => ?_) (fun c12 => ?_)
          · have h := h.1 c12
            refine G_iinc (lv' := [(4, aI ((v4 + 1))), (0, aR (49)), (1, aI (v1)), (2, aI (v2)), (3, aI (v3))]) (k := 4) rfl rfl (by decide) dX3_follow_149 ?_
            refine G_goto (tgt := 30) dX3_follow_152 (by decide) ?_
            obtain ⟨c13, h⟩ := h
            exact G_pick [1, 2, 3, 4, 0] rfl (h hv1 hv2 hv3 c13 hO)
          · have h := h.2 c12
            refine G_aload_n 0 rfl rfl dX3_follow_71 ?_
            refine G_iload 4 rfl dX3_follow_72 ?_
            refine G_iload_n 1 rfl rfl dX3_follow_74 ?_
            obtain ⟨g14, g15, g16, c17, h⟩ := h
            refine G_callV (as := [_, _]) cf_X3_76 rfl rfl rfl (sp_X3_suckedAt (d - 1) (by omega) _ hO _ hv4 _ hv1 g14 g15 g16 c17) (by omega) rfl rfl (Nat.le_of_ble_eq_true rfl) dX3_follow_75 ?_
            rintro _ σ20 ⟨u21, rfl, z22⟩ o19 r18
            have h := h _ _ (r18 _ rfl) o19 z22
            refine G_aload_n 0 rfl rfl dX3_follow_78 ?_
            refine G_get (k := 1) (kd := (2, 10)) (v := aR 10) gf_X3_33 rfl rfl rfl rfl dX3_follow_79 ?_
            refine G_get (k := 0) (kd := (3, 1)) (v := aR (11)) gf_X3_41 rfl rfl rfl rfl dX3_follow_82 ?_
            refine G_iload_n 1 rfl rfl dX3_follow_85 ?_
            obtain ⟨c23, h⟩ := h
            refine G_iald (n := 16) rfl c23.1 c23.2 dX3_follow_86 ?_
            refine G_icmp_gt (r18 _ rfl) (OKm.i o19 11 v1 (isLg_row (show shp 11 = (1, 16, []) from rfl) _)) dX3_follow_87 (tgt := 149) (by decide) (fun c24 => ?_) (fun c24 => ?_)
            · have h := h.1 c24
              refine G_iinc (lv' := [(4, aI ((v4 + 1))), (0, aR (49)), (1, aI (v1)), (2, aI (v2)), (3, aI (v3))]) (k := 4) rfl rfl (by decide) dX3_follow_149 ?_
              refine G_goto (tgt := 30) dX3_follow_152 (by decide) ?_
              obtain ⟨c25, h⟩ := h
              exact G_pick [1, 2, 3, 4, 0] rfl (h hv1 hv2 hv3 c25 o19)
            · have h := h.2 c24
              refine G_aload_n 0 rfl rfl dX3_follow_90 ?_
              refine G_iload 4 rfl dX3_follow_91 ?_
              refine G_iload_n 1 rfl rfl dX3_follow_93 ?_
              obtain ⟨g26, g27, g28, c29, h⟩ := h
              refine G_callV (as := [_, _]) cf_X3_76 rfl rfl rfl (sp_X3_suckedAt (d - 1) (by omega) _ o19 _ hv4 _ hv1 g26 g27 g28 c29) (by omega) rfl rfl (Nat.le_of_ble_eq_true rfl) dX3_follow_94 ?_
              rintro _ σ32 ⟨u33, rfl, z34⟩ o31 r30
              have h := h _ _ (r30 _ rfl) o31 z34
              refine G_istore (lv' := [(5, aI (u33)), (0, aR (49)), (1, aI (v1)), (2, aI (v2)), (3, aI (v3)), (4, aI (v4))]) rfl (by decide) dX3_follow_97 ?_
              refine G_aload_n 1 rfl rfl dX3_follow_99 ?_
              refine G_get (k := 4) (kd := (3, 2)) (v := aR (51)) gf_X3_15 rfl rfl rfl rfl dX3_follow_100 ?_
              refine G_iload_n 3 rfl rfl dX3_follow_103 ?_
              refine G_iload 5 rfl dX3_follow_104 ?_
              obtain ⟨c35, h⟩ := h
              obtain ⟨σ36, e38⟩ : ∃ τ : Mem, τ = mset σ32 51 v2 v4 := ⟨_, rfl⟩
              have h := h σ36 e38
              have o37 : OKm σ36 := by rw [e38]; exact OKm.seti o31 _ _ _ hv4 (isLg_row (show shp 51 = (1, 6, []) from rfl) _)
              refine G_iast (n := 6) rfl c35.1 c35.2 dX3_follow_106 ?_
              rw [← e38]
              refine G_aload_n 1 rfl rfl dX3_follow_107 ?_
              refine G_get (k := 1) (kd := (2, 10)) (v := aR 10) gf_X3_33 rfl rfl rfl rfl dX3_follow_108 ?_
              refine G_get (k := 0) (kd := (3, 1)) (v := aR (11)) gf_X3_41 rfl rfl rfl rfl dX3_follow_111 ?_
              refine G_iload_n 2 rfl rfl dX3_follow_114 ?_
              refine G_dup2 rfl rfl dX3_follow_115 ?_
              obtain ⟨c39, h⟩ := h
              refine G_iald (n := 16) rfl c39.1 c39.2 dX3_follow_116 ?_
              refine G_iload 0 rfl dX3_follow_117 ?_
              refine G_isub dX3_follow_119 ?_
              obtain ⟨c40, h⟩ := h
              obtain ⟨c41, h⟩ := h
              obtain ⟨σ42, e44⟩ : ∃ τ : Mem, τ = mset σ36 11 v1 ((σ36 11 v1) - u33) := ⟨_, rfl⟩
              have h := h σ42 e44
              have o43 : OKm σ42 := by rw [e44]; exact OKm.seti o37 _ _ _ c41 (isLg_row (show shp 11 = (1, 16, []) from rfl) _)
              refine G_iast (n := 16) rfl c40.1 c40.2 dX3_follow_120 ?_
              rw [← e44]
              refine G_aload_n 1 rfl rfl dX3_follow_121 ?_
              refine G_iload_n 2 rfl rfl dX3_follow_122 ?_
              refine G_iload_n 3 rfl rfl dX3_follow_123 ?_
              refine G_iconst dX3_follow_124 ?_
              refine G_iadd dX3_follow_125 ?_
              refine G_iload_n 4 rfl rfl dX3_follow_126 ?_
              refine G_iconst dX3_follow_127 ?_
              refine G_iload 5 rfl dX3_follow_128 ?_
              refine G_ishl dX3_follow_130 ?_
              refine G_ior dX3_follow_131 ?_
              obtain ⟨c45, h⟩ := h
              obtain ⟨g46, g47, g48, g49, g50, c51, h⟩ := h
              refine G_callV (as := [_, _, _]) cf_X3_63 rfl rfl rfl (sp_X3_follow_6 (d - 1) (by omega) _ o43 _ hv1 _ c45 _ (r32_of _) g46 g47 g48 g49 g50 c51) (by omega) rfl rfl (Nat.le_of_ble_eq_true rfl) dX3_follow_132 ?_
              rintro _ σ54 ⟨rfl, z56⟩ o53 r52
              have h := h _ o53 z56
              refine G_aload_n 1 rfl rfl dX3_follow_135 ?_
              refine G_get (k := 1) (kd := (2, 10)) (v := aR 10) gf_X3_33 rfl rfl rfl rfl dX3_follow_136 ?_
              refine G_get (k := 0) (kd := (3, 1)) (v := aR (11)) gf_X3_41 rfl rfl rfl rfl dX3_follow_139 ?_
              refine G_iload_n 2 rfl rfl dX3_follow_142 ?_
              refine G_dup2 rfl rfl dX3_follow_143 ?_
              obtain ⟨c57, h⟩ := h
              refine G_iald (n := 16) rfl c57.1 c57.2 dX3_follow_144 ?_
              refine G_iload 0 rfl dX3_follow_145 ?_
              refine G_iadd dX3_follow_147 ?_
              obtain ⟨c58, h⟩ := h
              obtain ⟨c59, h⟩ := h
              obtain ⟨σ60, e62⟩ : ∃ τ : Mem, τ = mset σ54 11 v1 ((σ54 11 v1) + u33) := ⟨_, rfl⟩
              have h := h σ60 e62
              have o61 : OKm σ60 := by rw [e62]; exact OKm.seti o53 _ _ _ c59 (isLg_row (show shp 11 = (1, 16, []) from rfl) _)
              refine G_iast (n := 16) rfl c58.1 c58.2 dX3_follow_148 ?_
              rw [← e62]
              refine G_iinc (lv' := [(4, aI ((v4 + 1))), (5, aI (u33)), (0, aR (49)), (1, aI (v1)), (2, aI (v2)), (3, aI (v3))]) (k := 5) rfl rfl (by decide) dX3_follow_149 ?_
              refine G_goto (tgt := 30) dX3_follow_152 (by decide) ?_
              obtain ⟨c63, h⟩ := h
              exact G_pick [2, 3, 4, 5, 0] rfl (h hv1 hv2 hv3 c63 o61)

theorem sp_X3_follow_5 (d : Nat) (hd : 6 ≤ d) (σ : Mem) (hO : OKm σ) (x1 : Int) (hx1 : R32 x1) (x2 : Int) (hx2 : R32 x2) (x3 : Int) (hx3 : R32 x3) (A : Mem) (tx : Nat → Txt) (th : Int) (p : List Int) (b : List Int) (hpre : folC σ A tx x1 th p b ∧ p.length = 5 ∧ x2 = 5 ∧ bsP x3 p ∧ okP (A 10 1) p ∧ (0 ≤ x1 ∧ x1 < A 10 0) ∧ InvA A ∧ (0 ≤ th ∧ th ≤ A 14 x1)) : Mt yX3_follow cX3_follow 6 none d [aR (49), aI (x1), aI (x2), aI (x3)] σ (QV (fun σ' => folC σ' A tx x1 th p (vis (skR A tx x1) (A 10 1).toNat 2 p th b) ∧ (∀ j : Int, j ≠ 6 → σ' 49 j = σ 49 j) ∧ Fr [11, 37, 49, 50, 51, 52] σ σ')) := mt_X3_follow_5 hd hx1 hx2 hx3 hO (by
  unfold wp_X3_follow_5
  intro P30 h30
  obtain ⟨hS, hlen, hx2j, hbs, hok, hr, hI, hth⟩ := hpre
  have hc := hI.1
  have k1 := hI.2.1 x1 hr.1 hr.2
  have hinv : ∀ t : Int, 0 ≤ t ∧ t ≤ A 14 x1 → InvA (mset A 1 x1 t) := fun t h => hI.thick (fun _ _ => h)
  have b10 : ∀ t : Int, mset A 1 x1 t 10 = A 10 := fun t => mset_ne (by omega)
  have hG : ((A 10 1).toNat : Int) = A 10 1 := by omega
  generalize hGG : (A 10 1).toNat = G at *
  have hpG := (show okP (G : Int) p by rw [hG]; exact hok)
  have H : ∀ b1 : List Int, b1 = (if b.length < p.length then p else b) → ∀ (n c : Nat) (τ : Mem), c + n = G → folC τ A tx x1 th p (visL (vis (skR A tx x1) G 1) (skR A tx x1) p th c b1) → (∀ j : Int, j ≠ 6 → τ 49 j = σ 49 j) → Fr [11, 37, 49, 50, 51, 52] σ τ → P30 x1 x2 x3 (c : Int) τ := by
    intro b1 eb1 n
    have fin : ∀ (c : Nat) (τ : Mem), c ≤ G → visL (vis (skR A tx x1) G 1) (skR A tx x1) p th G b1 = visL (vis (skR A tx x1) G 1) (skR A tx x1) p th c b1 → folC τ A tx x1 th p (visL (vis (skR A tx x1) G 1) (skR A tx x1) p th c b1) → (∀ j : Int, j ≠ 6 → τ 49 j = σ 49 j) → Fr [11, 37, 49, 50, 51, 52] σ τ → folC τ A tx x1 th p (vis (skR A tx x1) G (1 + 1) p th b) ∧ (∀ j : Int, j ≠ 6 → τ 49 j = σ 49 j) ∧ Fr [11, 37, 49, 50, 51, 52] σ τ := fun c τ _ e h h49 hF => by
      refine ⟨?_, h49, hF⟩
      show folC τ A tx x1 th p (visL (vis (skR A tx x1) G 1) (skR A tx x1) p th G (if b.length < p.length then p else b))
      rw [← eb1, e]; exact h
    induction n with
    | zero =>
      intro c τ hk hSt h49 hF
      have f9 : τ 1 9 = A 10 1 := by rw [hSt.1.1.1.2.1, b10]
      have hcG : c = G := by omega
      exact h30 _ _ _ _ _ (fun _ _ _ _ _ => ⟨fun _ => fin c τ (by omega) (by rw [hcG]) hSt h49 hF, fun h => absurd h (by omega)⟩)
    | succ n ih =>
      intro c τ hk hSt h49 hF
      have f9 : τ 1 9 = A 10 1 := by rw [hSt.1.1.1.2.1, b10]
      have f6 := hSt.2.2.2.1
      have f11 : τ 11 x1 = th := by
        have := hSt.1.2.1.2.1 x1 hr.1 (by rw [b10]; exact hr.2)
        rw [this, mset_self]
      refine h30 _ _ _ _ _ (fun _ _ _ _ _ => ⟨fun h => absurd h (by omega), fun _ => ?_⟩)
      rw [f9, f6]
      refine ⟨fun h6 => ?_, fun h6 => ⟨fun hfull => ?_, fun hnf => ?_⟩⟩
      · refine fin c τ (by omega) ?_ hSt h49 hF
        have hall : ∀ x : Int, 0 ≤ x → x < (G : Int) → x ∈ p := fun x a b => hpG.full (by omega) ⟨a, b⟩
        rw [visL_none G hall, visL_none c (fun x a b => hall x a (by omega))]
      · refine fin c τ (by omega) ?_ hSt h49 hF
        have := visL_full hpG (by omega) (by omega) (G - c) (by omega) (sk := skR A tx x1) (f := 1) (th := th) (b := b1) (c := c)
        rw [show c + (G - c) = G by omega] at this
        exact this
      · rw [tbt_sh hbs.1 (by omega), hbs.2 (c : Int) (by omega)]
        have skip : ∀ ρ : Mem, ¬ ((c : Int) ∉ p ∧ skR A tx x1 (c : Int) th ≤ th) → folC ρ A tx x1 th p (visL (vis (skR A tx x1) G 1) (skR A tx x1) p th c b1) → (∀ j : Int, j ≠ 6 → ρ 49 j = σ 49 j) → Fr [11, 37, 49, 50, 51, 52] σ ρ → R32 ((c : Int) + 1) ∧ P30 x1 x2 x3 ((c : Int) + 1) ρ := fun ρ hn h a bF => by
          rw [← visL_no hn] at h
          exact ⟨by unfold R32; omega, ih (c + 1) ρ (by omega) h a bF⟩
        refine ⟨fun hin => skip τ (fun q => hin ?_) hSt h49 hF, fun hout => ⟨A, tx, th, ⟨hSt.1, by omega, hr, by omega, hSt.2.1⟩, ?_⟩⟩
        · rw [if_neg (by rw [decide_eq_true_eq]; exact q.1)]
        have hnp : (c : Int) ∉ p := fun q => by rw [decide_eq_true q, if_pos rfl] at hout; omega
        intro u21 σ20 hu21 hO20 ⟨eu21, hV20, hk20, hF20⟩
        have hS20 := hSt.now hV20 hk20 hF20
        have g11 : σ20 11 x1 = th := by rw [hF20 11 (by simp)]; exact f11
        have h4920 : ∀ j : Int, j ≠ 6 → σ20 49 j = σ 49 j := fun j a => by rw [hF20 49 (by simp)]; exact h49 j a
        have hFr20 : Fr [11, 37, 49, 50, 51, 52] σ σ20 := hF.tr (hF20.wk (by simp))
        have eu21 : u21 = skR A tx x1 (c : Int) th := eu21
        rw [g11, eu21]
        refine ⟨by omega, fun hlt => skip σ20 (fun q => by omega) hS20 h4920 hFr20, fun hle => ⟨A, tx, th, ⟨hV20, by omega, hr, by omega, hk20⟩, ?_⟩⟩
        intro u33 σ32 hu33 hO32 ⟨eu33, hV32, hk32, hF32⟩
        have hS32 := hS20.now hV32 hk32 hF32
        have eu33 : u33 = skR A tx x1 (c : Int) th := eu33
        have hsr : 0 ≤ skR A tx x1 (c : Int) th ∧ skR A tx x1 (c : Int) th ≤ 99 := skT_r hI (by omega) hr (by omega)
        have g11b : σ32 11 x1 = th := by rw [hF32 11 (by simp)]; exact g11
        have h4932 : ∀ j : Int, j ≠ 6 → σ32 49 j = σ 49 j := fun j a => by rw [hF32 49 (by simp)]; exact h4920 j a
        have hFr32 : Fr [11, 37, 49, 50, 51, 52] σ σ32 := hFr20.tr (hF32.wk (by simp))
        refine ⟨by omega, fun σ36 e36 => ⟨by omega, by omega, ?_⟩⟩
        have g36 : σ36 11 x1 = th := by rw [e36, mset_off (by omega)]; exact g11b
        rw [g36, eu33]
        refine ⟨by unfold R32; omega, fun σ42 e42 => ⟨by unfold R32; omega, ?_⟩⟩
        have hyes := visL_yes (rc := vis (skR A tx x1) G 1) (sk := skR A tx x1) (p := p) (th := th) (k := c) (b := b1) ⟨hnp, hle⟩
        generalize hbb : visL (vis (skR A tx x1) G 1) (skR A tx x1) p th c b1 = bb at *
        have hFr42 : Fr [11, 37, 49, 50, 51, 52] σ σ42 := by rw [e42, e36]; exact (hFr32.set (by simp)).set (by simp)
        have hlen' : (p ++ [(c : Int)]).length = p.length + 1 := by simp
        have hS42 : folC σ42 A tx x1 (th - skR A tx x1 (c : Int) th) (p ++ [(c : Int)]) bb := by
          refine ⟨?_, fun g t a1 a2 a3 a4 => ?_, ?_, ?_, ?_⟩
          · have h36 : vwC σ36 (mset A 1 x1 th) tx := hV32.fr (by rw [e36]; exact (Fr.rf _ _).set (by simp [ScrC]))
            rw [e42]; exact h36.th (hinv _ (by omega))
          · rw [e42, mset_off (by omega), e36, mset_off (by omega)]; exact hk32 g t a1 a2 a3 a4
          · refine onL.snoc (hS32.2.2.1.congr (fun i a b => ?_)) ?_
            · rw [e42, mset_off (by omega), e36, mset_miss (by omega)]
            · rw [e42, mset_off (by omega), e36, hlen, mset_hit (by omega)]
          · rw [e42, mset_off (by omega), e36, mset_off (by omega)]; exact hS32.2.2.2.1
          · exact hS32.2.2.2.2.congr (fun i _ _ => by rw [e42, mset_off (by omega), e36, mset_off (by omega)])
        refine ⟨A, tx, th - skR A tx x1 (c : Int) th, p ++ [(c : Int)], bb, ⟨hS42, by omega, by omega, hbs.snoc (by omega), hok.snoc (by omega) hnp, hr, hI, by omega⟩, ?_⟩
        intro σ49 hO49 ⟨hS49, h4949, hF49⟩
        rw [hGG] at hS49
        have hS49 : folC σ49 A tx x1 (th - skR A tx x1 (c : Int) th) (p ++ [(c : Int)]) (visL (vis (skR A tx x1) G 1) (skR A tx x1) p th (c + 1) b1) := by rw [hyes]; exact hS49
        have g49 : σ49 11 x1 = th - skR A tx x1 (c : Int) th := by
          have := hS49.1.2.1.2.1 x1 hr.1 (by rw [b10]; exact hr.2)
          rw [this, mset_self]
        rw [g49]
        refine ⟨by omega, by omega, by unfold R32; omega, fun σ55 e55 => ⟨by unfold R32; omega, ?_⟩⟩
        have eth : th - skR A tx x1 (c : Int) th + skR A tx x1 (c : Int) th = th := by omega
        rw [eth] at e55
        refine ih (c + 1) σ55 (by omega) ⟨?_, fun g t a1 a2 a3 a4 => ?_, ?_, ?_, ?_⟩ (fun j a => ?_) (by rw [e55]; exact (hFr42.tr hF49).set (by simp))
        · rw [e55]; exact hS49.1.th (hinv _ (by omega))
        · rw [e55, mset_off (by omega)]; exact hS49.2.1 g t a1 a2 a3 a4
        · exact hS49.2.2.1.pre.congr (fun i _ _ => by rw [e55, mset_off (by omega)])
        · rw [e55, mset_off (by omega)]; exact hS49.2.2.2.1
        · exact hS49.2.2.2.2.congr (fun i _ _ => by rw [e55, mset_off (by omega)])
        · rw [e55, mset_off (by omega), h4949 j a, e42, mset_off (by omega), e36, mset_off (by omega)]; exact h4932 j a
  have f6 := hS.2.2.2.1
  refine ⟨fun h => ?_, fun h σ2 e2 => ⟨by omega, fun σ6 e6 => ?_⟩⟩
  · have eb : b = (if b.length < p.length then p else b) := by rw [if_neg (by omega)]
    exact H b eb G 0 σ (Nat.zero_add _) hS (fun _ _ => rfl) (Fr.rf _ _)
  · have eb : p = (if b.length < p.length then p else b) := by rw [if_pos (by omega)]
    have hF6 : Fr [49, 52] σ σ6 := by
      intro q hq
      simp at hq
      rw [e6, mcpy_ne (by omega), e2, mset_ne (by omega)]
    have o49 : ∀ j : Int, j ≠ 6 → σ6 49 j = σ 49 j := fun j a => by rw [e6, mcpy_ne (by omega), e2, mset_miss a]
    have hp2 : onL σ6 52 p := fun i x hx => by
      have : i < p.length := (List.getElem?_eq_some_iff.mp hx).1
      have e := hS.2.2.1 i x hx
      rw [e6, mcpy_hit (by omega)]
      rw [show (0 + ((i : Int) - 0)) = (i : Int) by omega, e2, mset_off (by omega)]; exact e
    refine H p eb G 0 σ6 (Nat.zero_add _) ⟨?_, fun g t a1 a2 a3 a4 => ?_, hS.2.2.1.congr (fun i _ _ => by rw [hF6 51 (by simp)]), ?_, hp2⟩ o49 (hF6.wk (by simp))
    · exact hS.1.now (hS.1.2.1.congr (fun q a b => hF6 q (by simp; omega))) hS.1.2.2.1 (fun _ _ => rfl) (fun q a => hF6 q (by simp; omega))
    · rw [hF6 50 (by simp)]; exact hS.2.1 g t a1 a2 a3 a4
    · rw [e6, mcpy_ne (by omega), e2, mset_hit rfl]; show x2 = (p.length : Int); omega)

def wp_X3_follow_4 (x1 : Int) (x2 : Int) (x3 : Int) (σ : Mem) (Q : Mem → Prop) : Prop :=
 ∀ P30 : Int → Int → Int → Int → Mem → Prop,
 (∀ (v1 : Int) (v2 : Int) (v3 : Int) (v4 : Int) (σ : Mem), (R32 v1 → R32 v2 → R32 v3 → R32 v4 → OKm σ →
   (((σ 1 9) ≤ v4) →
     Q σ) ∧
    ((v4 < (σ 1 9)) →
     ((6 ≤ v2) →
      Q σ) ∧
     ((v2 < 6) →
      (((σ 1 9) ≤ (σ 49 6)) →
       Q σ) ∧
      (((σ 49 6) < (σ 1 9)) →
       (((bAnd (bShr v3 v4) 1) ≠ 0) →
        R32 (v4 + 1) ∧ P30 v1 v2 v3 (v4 + 1) σ) ∧
       (((bAnd (bShr v3 v4) 1) = 0) →
        ∃ g14 : Mem, ∃ g15 : Nat → Txt, ∃ g16 : Int, (vwC σ (mset g14 1 v1 g16) g15 ∧ (0 ≤ v4 ∧ v4 < g14 10 1) ∧ (0 ≤ v1 ∧ v1 < g14 10 0) ∧ (0 ≤ g16 ∧ g16 ≤ g14 14 v1 ∧ g14 14 v1 ≤ 99) ∧ knC σ g14 g15 v1) ∧
        ∀ (u21 : Int) (σ20 : Mem), R32 u21 → OKm σ20 → (u21 = skT g14 g15 v4 v1 g16 ∧ vwC σ20 (mset g14 1 v1 g16) g15 ∧ knC σ20 g14 g15 v1 ∧ Fr [37, 50] σ σ20) →
        (0 ≤ v1 ∧ v1 < 16) ∧
        (((σ20 11 v1) < u21) →
         R32 (v4 + 1) ∧ P30 v1 v2 v3 (v4 + 1) σ20) ∧
        ((u21 ≤ (σ20 11 v1)) →
         ∃ g26 : Mem, ∃ g27 : Nat → Txt, ∃ g28 : Int, (vwC σ20 (mset g26 1 v1 g28) g27 ∧ (0 ≤ v4 ∧ v4 < g26 10 1) ∧ (0 ≤ v1 ∧ v1 < g26 10 0) ∧ (0 ≤ g28 ∧ g28 ≤ g26 14 v1 ∧ g26 14 v1 ≤ 99) ∧ knC σ20 g26 g27 v1) ∧
         ∀ (u33 : Int) (σ32 : Mem), R32 u33 → OKm σ32 → (u33 = skT g26 g27 v4 v1 g28 ∧ vwC σ32 (mset g26 1 v1 g28) g27 ∧ knC σ32 g26 g27 v1 ∧ Fr [37, 50] σ20 σ32) →
         (0 ≤ v2 ∧ v2 < 6) ∧
         ∀ σ36 : Mem, σ36 = mset σ32 51 v2 v4 →
         (0 ≤ v1 ∧ v1 < 16) ∧
         (0 ≤ v1 ∧ v1 < 16) ∧
         R32 ((σ36 11 v1) - u33) ∧
         ∀ σ42 : Mem, σ42 = mset σ36 11 v1 ((σ36 11 v1) - u33) →
         R32 (v2 + 1) ∧
         ∃ g46 : Mem, ∃ g47 : Nat → Txt, ∃ g48 : Int, ∃ g49 : List Int, ∃ g50 : List Int, (folC σ42 g46 g47 v1 g48 g49 g50 ∧ g49.length = 5 ∧ (v2 + 1) = 5 ∧ bsP (bOr v3 (bShl 1 v4)) g49 ∧ okP (g46 10 1) g49 ∧ (0 ≤ v1 ∧ v1 < g46 10 0) ∧ InvA g46 ∧ (0 ≤ g48 ∧ g48 ≤ g46 14 v1)) ∧
         ∀ σ54 : Mem, OKm σ54 → (folC σ54 g46 g47 v1 g48 g49 (vis (skR g46 g47 v1) (g46 10 1).toNat 2 g49 g48 g50) ∧ (∀ j : Int, j ≠ 6 → σ54 49 j = σ42 49 j) ∧ Fr [11, 37, 49, 50, 51, 52] σ42 σ54) →
         (0 ≤ v1 ∧ v1 < 16) ∧
         (0 ≤ v1 ∧ v1 < 16) ∧
         R32 ((σ54 11 v1) + u33) ∧
         ∀ σ60 : Mem, σ60 = mset σ54 11 v1 ((σ54 11 v1) + u33) →
         R32 (v4 + 1) ∧ P30 v1 v2 v3 (v4 + 1) σ60)))))) → P30 v1 v2 v3 v4 σ) →
  ((x2 ≤ (σ 49 6)) →
    P30 x1 x2 x3 0 σ) ∧
   (((σ 49 6) < x2) →
    ∀ σ2 : Mem, σ2 = mset σ 49 6 x2 →
    ((0 : Int) ≤ 0 ∧ (0 : Int) ≤ 0 ∧ (0 : Int) ≤ x2 ∧ (0 + x2 : Int) ≤ 6 ∧ (0 + x2 : Int) ≤ 6) ∧
    ∀ σ6 : Mem, σ6 = mcpy σ2 51 0 52 0 x2 →
    P30 x1 x2 x3 0 σ6)
theorem mt_X3_follow_4 {d : Nat} (hd : 7 ≤ d) {x1 : Int} {x2 : Int} {x3 : Int} {σ : Mem} {Q : Mem → Prop} (hx1 : R32 x1) (hx2 : R32 x2) (hx3 : R32 x3) (hO : OKm σ) (h : wp_X3_follow_4 x1 x2 x3 σ Q) : Mt yX3_follow cX3_follow 6 none d [aR (49), aI (x1), aI (x2), aI (x3)] σ (QV Q) := by
  refine Mt.intro (by decide +kernel) (Nat.le_of_ble_eq_true rfl) [(0, aR (49)), (1, aI (x1)), (2, aI (x2)), (3, aI (x3))] rfl ?_
  unfold wp_X3_follow_4 at h
  have h := h (fun (v1 : Int) (v2 : Int) (v3 : Int) (v4 : Int) (σ : Mem) => R32 v1 → R32 v2 → R32 v3 → R32 v4 → OKm σ → G yX3_follow cX3_follow 6 none d (QV Q) 30 [(0, aR (49)), (1, aI (v1)), (2, aI (v2)), (3, aI (v3)), (4, aI (v4))] [] σ) ?_
  · refine G_iload_n 2 rfl rfl dX3_follow_0 ?_
    refine G_aload_n 0 rfl rfl dX3_follow_1 ?_
    refine G_get (k := 6) (kd := (0, 0)) (v := aI (σ 49 6)) gf_X3_21 rfl rfl rfl rfl dX3_follow_2 ?_
    refine G_icmp_le hx2 (OKm.i hO 49 6 rfl) dX3_follow_5 (tgt := 27) (by decide) (fun c1 => ?_) (fun c1 => ?_)
    · have h := h.1 c1
      refine G_iconst dX3_follow_27 ?_
      refine G_istore (lv' := [(4, aI (0)), (0, aR (49)), (1, aI (x1)), (2, aI (x2)), (3, aI (x3))]) rfl (by decide) dX3_follow_28 ?_
      exact G_pick [1, 2, 3, 4, 0] rfl (h hx1 hx2 hx3 (rL 0 rfl) hO)
    · have h := h.2 c1
      refine G_aload_n 0 rfl rfl dX3_follow_8 ?_
      refine G_iload_n 2 rfl rfl dX3_follow_9 ?_
      obtain ⟨σ2, e4⟩ : ∃ τ : Mem, τ = mset σ 49 6 x2 := ⟨_, rfl⟩
      have h := h σ2 e4
      have o3 : OKm σ2 := by rw [e4]; exact OKm.seti hO _ _ _ hx2 rfl
      refine G_put (k := 6) (ki := 6) (kd := (0, 0)) (x := _) pf_X3_21 rfl rfl rfl rfl (fa_i (mset_self _ _ _ _)) (fun _ => rfl) (fun _ => rfl) dX3_follow_10 ?_
      rw [← e4]
      refine G_aload_n 0 rfl rfl dX3_follow_13 ?_
      refine G_get (k := 4) (kd := (3, 2)) (v := aR (51)) gf_X3_15 rfl rfl rfl rfl dX3_follow_14 ?_
      refine G_iconst dX3_follow_17 ?_
      refine G_aload_n 0 rfl rfl dX3_follow_18 ?_
      refine G_get (k := 5) (kd := (3, 3)) (v := aR (52)) gf_X3_18 rfl rfl rfl rfl dX3_follow_19 ?_
      refine G_iconst dX3_follow_22 ?_
      refine G_iload_n 2 rfl rfl dX3_follow_23 ?_
      obtain ⟨c5, h⟩ := h
      obtain ⟨σ6, e8⟩ : ∃ τ : Mem, τ = mcpy σ2 51 0 52 0 x2 := ⟨_, rfl⟩
      have h := h σ6 e8
      have o7 : OKm σ6 := by rw [e8]; exact OKm.cpy o3 (isLg_row (show shp 51 = (1, 6, []) from rfl)) (isLg_row (show shp 52 = (1, 6, []) from rfl))
      refine G_copy rfl (show shp 51 = (1, 6, []) from rfl) (show shp 52 = (1, 6, []) from rfl) (by decide) (by decide) c5.1 c5.2.1 c5.2.2.1 c5.2.2.2.1 c5.2.2.2.2 (Nat.le_of_ble_eq_true rfl) sf_X3_67 dX3_follow_24 ?_
      rw [← e8]
      refine G_iconst dX3_follow_27 ?_
      refine G_istore (lv' := [(4, aI (0)), (0, aR (49)), (1, aI (x1)), (2, aI (x2)), (3, aI (x3))]) rfl (by decide) dX3_follow_28 ?_
      exact G_pick [1, 2, 3, 4, 0] rfl (h hx1 hx2 hx3 (rL 0 rfl) o7)
  · intro v1 v2 v3 v4 σ h hv1 hv2 hv3 hv4 hO
    have h := h hv1 hv2 hv3 hv4 hO
    refine G_iload 4 rfl dX3_follow_30 ?_
    refine G_aload_n 0 rfl rfl dX3_follow_32 ?_
    refine G_get (k := 0) (kd := (2, 1)) (v := aR 1) gf_X3_29 rfl rfl rfl rfl dX3_follow_33 ?_
    refine G_get (k := 9) (kd := (0, 0)) (v := aI (σ 1 9)) gf_X3_73 rfl rfl rfl rfl dX3_follow_36 ?_
    refine G_icmp_ge hv4 (OKm.i hO 1 9 rfl) dX3_follow_39 (tgt := 155) (by decide) (fun c9 => ?_) (fun c9 => ?_)
    · have h := h.1 c9
      exact G_vret rfl dX3_follow_155 ⟨rfl, h⟩ hO
    · have h := h.2 c9
      refine G_iload_n 2 rfl rfl dX3_follow_42 ?_
      refine G_bipush (by decide) dX3_follow_43 ?_
      refine G_icmp_ge hv2 (rL 6 rfl) dX3_follow_45 (tgt := 155) (by decide) (fun c10 => ?_) (fun c10 => ?_)
      · have h := h.1 c10
        exact G_vret rfl dX3_follow_155 ⟨rfl, h⟩ hO
      · have h := h.2 c10
        refine G_aload_n 0 rfl rfl dX3_follow_48 ?_
        refine G_get (k := 6) (kd := (0, 0)) (v := aI (σ 49 6)) gf_X3_21 rfl rfl rfl rfl dX3_follow_49 ?_
        refine G_aload_n 0 rfl rfl dX3_follow_52 ?_
        refine G_get (k := 0) (kd := (2, 1)) (v := aR 1) gf_X3_29 rfl rfl rfl rfl dX3_follow_53 ?_
        refine G_get (k := 9) (kd := (0, 0)) (v := aI (σ 1 9)) gf_X3_73 rfl rfl rfl rfl dX3_follow_56 ?_
        refine G_icmp_ge (OKm.i hO 49 6 rfl) (OKm.i hO 1 9 rfl) dX3_follow_59 (tgt := 155) (by decide) (fun c11 => ?_) (fun c11 => ?_)
        · have h := h.1 c11
          exact G_vret rfl dX3_follow_155 ⟨rfl, h⟩ hO
        · have h := h.2 c11
          refine G_iload_n 3 rfl rfl dX3_follow_62 ?_
          refine G_iload 4 rfl dX3_follow_63 ?_
          refine G_ishr dX3_follow_65 ?_
          refine G_iconst dX3_follow_66 ?_
          refine G_iand dX3_follow_67 ?_
          refine G_if_ne (r32_of _) dX3_follow_68 (tgt := 149) (by decide) (fun c12 => ?_) (fun c12 => ?_)
          · have h := h.1 c12
            refine G_iinc (lv' := [(4, aI ((v4 + 1))), (0, aR (49)), (1, aI (v1)), (2, aI (v2)), (3, aI (v3))]) (k := 4) rfl rfl (by decide) dX3_follow_149 ?_
            refine G_goto (tgt := 30) dX3_follow_152 (by decide) ?_
            obtain ⟨c13, h⟩ := h
            exact G_pick [1, 2, 3, 4, 0] rfl (h hv1 hv2 hv3 c13 hO)
          · have h := h.2 c12
            refine G_aload_n 0 rfl rfl dX3_follow_71 ?_
            refine G_iload 4 rfl dX3_follow_72 ?_
            refine G_iload_n 1 rfl rfl dX3_follow_74 ?_
            obtain ⟨g14, g15, g16, c17, h⟩ := h
            refine G_callV (as := [_, _]) cf_X3_76 rfl rfl rfl (sp_X3_suckedAt (d - 1) (by omega) _ hO _ hv4 _ hv1 g14 g15 g16 c17) (by omega) rfl rfl (Nat.le_of_ble_eq_true rfl) dX3_follow_75 ?_
            rintro _ σ20 ⟨u21, rfl, z22⟩ o19 r18
            have h := h _ _ (r18 _ rfl) o19 z22
            refine G_aload_n 0 rfl rfl dX3_follow_78 ?_
            refine G_get (k := 1) (kd := (2, 10)) (v := aR 10) gf_X3_33 rfl rfl rfl rfl dX3_follow_79 ?_
            refine G_get (k := 0) (kd := (3, 1)) (v := aR (11)) gf_X3_41 rfl rfl rfl rfl dX3_follow_82 ?_
            refine G_iload_n 1 rfl rfl dX3_follow_85 ?_
            obtain ⟨c23, h⟩ := h
            refine G_iald (n := 16) rfl c23.1 c23.2 dX3_follow_86 ?_
            refine G_icmp_gt (r18 _ rfl) (OKm.i o19 11 v1 (isLg_row (show shp 11 = (1, 16, []) from rfl) _)) dX3_follow_87 (tgt := 149) (by decide) (fun c24 => ?_) (fun c24 => ?_)
            · have h := h.1 c24
              refine G_iinc (lv' := [(4, aI ((v4 + 1))), (0, aR (49)), (1, aI (v1)), (2, aI (v2)), (3, aI (v3))]) (k := 4) rfl rfl (by decide) dX3_follow_149 ?_
              refine G_goto (tgt := 30) dX3_follow_152 (by decide) ?_
              obtain ⟨c25, h⟩ := h
              exact G_pick [1, 2, 3, 4, 0] rfl (h hv1 hv2 hv3 c25 o19)
            · have h := h.2 c24
              refine G_aload_n 0 rfl rfl dX3_follow_90 ?_
              refine G_iload 4 rfl dX3_follow_91 ?_
              refine G_iload_n 1 rfl rfl dX3_follow_93 ?_
              obtain ⟨g26, g27, g28, c29, h⟩ := h
              refine G_callV (as := [_, _]) cf_X3_76 rfl rfl rfl (sp_X3_suckedAt (d - 1) (by omega) _ o19 _ hv4 _ hv1 g26 g27 g28 c29) (by omega) rfl rfl (Nat.le_of_ble_eq_true rfl) dX3_follow_94 ?_
              rintro _ σ32 ⟨u33, rfl, z34⟩ o31 r30
              have h := h _ _ (r30 _ rfl) o31 z34
              refine G_istore (lv' := [(5, aI (u33)), (0, aR (49)), (1, aI (v1)), (2, aI (v2)), (3, aI (v3)), (4, aI (v4))]) rfl (by decide) dX3_follow_97 ?_
              refine G_aload_n 1 rfl rfl dX3_follow_99 ?_
              refine G_get (k := 4) (kd := (3, 2)) (v := aR (51)) gf_X3_15 rfl rfl rfl rfl dX3_follow_100 ?_
              refine G_iload_n 3 rfl rfl dX3_follow_103 ?_
              refine G_iload 5 rfl dX3_follow_104 ?_
              obtain ⟨c35, h⟩ := h
              obtain ⟨σ36, e38⟩ : ∃ τ : Mem, τ = mset σ32 51 v2 v4 := ⟨_, rfl⟩
              have h := h σ36 e38
              have o37 : OKm σ36 := by rw [e38]; exact OKm.seti o31 _ _ _ hv4 (isLg_row (show shp 51 = (1, 6, []) from rfl) _)
              refine G_iast (n := 6) rfl c35.1 c35.2 dX3_follow_106 ?_
              rw [← e38]
              refine G_aload_n 1 rfl rfl dX3_follow_107 ?_
              refine G_get (k := 1) (kd := (2, 10)) (v := aR 10) gf_X3_33 rfl rfl rfl rfl dX3_follow_108 ?_
              refine G_get (k := 0) (kd := (3, 1)) (v := aR (11)) gf_X3_41 rfl rfl rfl rfl dX3_follow_111 ?_
              refine G_iload_n 2 rfl rfl dX3_follow_114 ?_
              refine G_dup2 rfl rfl dX3_follow_115 ?_
              obtain ⟨c39, h⟩ := h
              refine G_iald (n := 16) rfl c39.1 c39.2 dX3_follow_116 ?_
              refine G_iload 0 rfl dX3_follow_117 ?_
              refine G_isub dX3_follow_119 ?_
              obtain ⟨c40, h⟩ := h
              obtain ⟨c41, h⟩ := h
              obtain ⟨σ42, e44⟩ : ∃ τ : Mem, τ = mset σ36 11 v1 ((σ36 11 v1) - u33) := ⟨_, rfl⟩
              have h := h σ42 e44
              have o43 : OKm σ42 := by rw [e44]; exact OKm.seti o37 _ _ _ c41 (isLg_row (show shp 11 = (1, 16, []) from rfl) _)
              refine G_iast (n := 16) rfl c40.1 c40.2 dX3_follow_120 ?_
              rw [← e44]
              refine G_aload_n 1 rfl rfl dX3_follow_121 ?_
              refine G_iload_n 2 rfl rfl dX3_follow_122 ?_
              refine G_iload_n 3 rfl rfl dX3_follow_123 ?_
              refine G_iconst dX3_follow_124 ?_
              refine G_iadd dX3_follow_125 ?_
              refine G_iload_n 4 rfl rfl dX3_follow_126 ?_
              refine G_iconst dX3_follow_127 ?_
              refine G_iload 5 rfl dX3_follow_128 ?_
              refine G_ishl dX3_follow_130 ?_
              refine G_ior dX3_follow_131 ?_
              obtain ⟨c45, h⟩ := h
              obtain ⟨g46, g47, g48, g49, g50, c51, h⟩ := h
              refine G_callV (as := [_, _, _]) cf_X3_63 rfl rfl rfl (sp_X3_follow_5 (d - 1) (by omega) _ o43 _ hv1 _ c45 _ (r32_of _) g46 g47 g48 g49 g50 c51) (by omega) rfl rfl (Nat.le_of_ble_eq_true rfl) dX3_follow_132 ?_
              rintro _ σ54 ⟨rfl, z56⟩ o53 r52
              have h := h _ o53 z56
              refine G_aload_n 1 rfl rfl dX3_follow_135 ?_
              refine G_get (k := 1) (kd := (2, 10)) (v := aR 10) gf_X3_33 rfl rfl rfl rfl dX3_follow_136 ?_
              refine G_get (k := 0) (kd := (3, 1)) (v := aR (11)) gf_X3_41 rfl rfl rfl rfl dX3_follow_139 ?_
              refine G_iload_n 2 rfl rfl dX3_follow_142 ?_
              refine G_dup2 rfl rfl dX3_follow_143 ?_
              obtain ⟨c57, h⟩ := h
              refine G_iald (n := 16) rfl c57.1 c57.2 dX3_follow_144 ?_
              refine G_iload 0 rfl dX3_follow_145 ?_
              refine G_iadd dX3_follow_147 ?_
              obtain ⟨c58, h⟩ := h
              obtain ⟨c59, h⟩ := h
              obtain ⟨σ60, e62⟩ : ∃ τ : Mem, τ = mset σ54 11 v1 ((σ54 11 v1) + u33) := ⟨_, rfl⟩
              have h := h σ60 e62
              have o61 : OKm σ60 := by rw [e62]; exact OKm.seti o53 _ _ _ c59 (isLg_row (show shp 11 = (1, 16, []) from rfl) _)
              refine G_iast (n := 16) rfl c58.1 c58.2 dX3_follow_148 ?_
              rw [← e62]
              refine G_iinc (lv' := [(4, aI ((v4 + 1))), (5, aI (u33)), (0, aR (49)), (1, aI (v1)), (2, aI (v2)), (3, aI (v3))]) (k := 5) rfl rfl (by decide) dX3_follow_149 ?_
              refine G_goto (tgt := 30) dX3_follow_152 (by decide) ?_
              obtain ⟨c63, h⟩ := h
              exact G_pick [2, 3, 4, 5, 0] rfl (h hv1 hv2 hv3 c63 o61)

theorem sp_X3_follow_4 (d : Nat) (hd : 7 ≤ d) (σ : Mem) (hO : OKm σ) (x1 : Int) (hx1 : R32 x1) (x2 : Int) (hx2 : R32 x2) (x3 : Int) (hx3 : R32 x3) (A : Mem) (tx : Nat → Txt) (th : Int) (p : List Int) (b : List Int) (hpre : folC σ A tx x1 th p b ∧ p.length = 4 ∧ x2 = 4 ∧ bsP x3 p ∧ okP (A 10 1) p ∧ (0 ≤ x1 ∧ x1 < A 10 0) ∧ InvA A ∧ (0 ≤ th ∧ th ≤ A 14 x1)) : Mt yX3_follow cX3_follow 6 none d [aR (49), aI (x1), aI (x2), aI (x3)] σ (QV (fun σ' => folC σ' A tx x1 th p (vis (skR A tx x1) (A 10 1).toNat 3 p th b) ∧ (∀ j : Int, j ≠ 6 → σ' 49 j = σ 49 j) ∧ Fr [11, 37, 49, 50, 51, 52] σ σ')) := mt_X3_follow_4 hd hx1 hx2 hx3 hO (by
  unfold wp_X3_follow_4
  intro P30 h30
  obtain ⟨hS, hlen, hx2j, hbs, hok, hr, hI, hth⟩ := hpre
  have hc := hI.1
  have k1 := hI.2.1 x1 hr.1 hr.2
  have hinv : ∀ t : Int, 0 ≤ t ∧ t ≤ A 14 x1 → InvA (mset A 1 x1 t) := fun t h => hI.thick (fun _ _ => h)
  have b10 : ∀ t : Int, mset A 1 x1 t 10 = A 10 := fun t => mset_ne (by omega)
  have hG : ((A 10 1).toNat : Int) = A 10 1 := by omega
  generalize hGG : (A 10 1).toNat = G at *
  have hpG := (show okP (G : Int) p by rw [hG]; exact hok)
  have H : ∀ b1 : List Int, b1 = (if b.length < p.length then p else b) → ∀ (n c : Nat) (τ : Mem), c + n = G → folC τ A tx x1 th p (visL (vis (skR A tx x1) G 2) (skR A tx x1) p th c b1) → (∀ j : Int, j ≠ 6 → τ 49 j = σ 49 j) → Fr [11, 37, 49, 50, 51, 52] σ τ → P30 x1 x2 x3 (c : Int) τ := by
    intro b1 eb1 n
    have fin : ∀ (c : Nat) (τ : Mem), c ≤ G → visL (vis (skR A tx x1) G 2) (skR A tx x1) p th G b1 = visL (vis (skR A tx x1) G 2) (skR A tx x1) p th c b1 → folC τ A tx x1 th p (visL (vis (skR A tx x1) G 2) (skR A tx x1) p th c b1) → (∀ j : Int, j ≠ 6 → τ 49 j = σ 49 j) → Fr [11, 37, 49, 50, 51, 52] σ τ → folC τ A tx x1 th p (vis (skR A tx x1) G (2 + 1) p th b) ∧ (∀ j : Int, j ≠ 6 → τ 49 j = σ 49 j) ∧ Fr [11, 37, 49, 50, 51, 52] σ τ := fun c τ _ e h h49 hF => by
      refine ⟨?_, h49, hF⟩
      show folC τ A tx x1 th p (visL (vis (skR A tx x1) G 2) (skR A tx x1) p th G (if b.length < p.length then p else b))
      rw [← eb1, e]; exact h
    induction n with
    | zero =>
      intro c τ hk hSt h49 hF
      have f9 : τ 1 9 = A 10 1 := by rw [hSt.1.1.1.2.1, b10]
      have hcG : c = G := by omega
      exact h30 _ _ _ _ _ (fun _ _ _ _ _ => ⟨fun _ => fin c τ (by omega) (by rw [hcG]) hSt h49 hF, fun h => absurd h (by omega)⟩)
    | succ n ih =>
      intro c τ hk hSt h49 hF
      have f9 : τ 1 9 = A 10 1 := by rw [hSt.1.1.1.2.1, b10]
      have f6 := hSt.2.2.2.1
      have f11 : τ 11 x1 = th := by
        have := hSt.1.2.1.2.1 x1 hr.1 (by rw [b10]; exact hr.2)
        rw [this, mset_self]
      refine h30 _ _ _ _ _ (fun _ _ _ _ _ => ⟨fun h => absurd h (by omega), fun _ => ?_⟩)
      rw [f9, f6]
      refine ⟨fun h6 => ?_, fun h6 => ⟨fun hfull => ?_, fun hnf => ?_⟩⟩
      · refine fin c τ (by omega) ?_ hSt h49 hF
        have hall : ∀ x : Int, 0 ≤ x → x < (G : Int) → x ∈ p := fun x a b => hpG.full (by omega) ⟨a, b⟩
        rw [visL_none G hall, visL_none c (fun x a b => hall x a (by omega))]
      · refine fin c τ (by omega) ?_ hSt h49 hF
        have := visL_full hpG (by omega) (by omega) (G - c) (by omega) (sk := skR A tx x1) (f := 2) (th := th) (b := b1) (c := c)
        rw [show c + (G - c) = G by omega] at this
        exact this
      · rw [tbt_sh hbs.1 (by omega), hbs.2 (c : Int) (by omega)]
        have skip : ∀ ρ : Mem, ¬ ((c : Int) ∉ p ∧ skR A tx x1 (c : Int) th ≤ th) → folC ρ A tx x1 th p (visL (vis (skR A tx x1) G 2) (skR A tx x1) p th c b1) → (∀ j : Int, j ≠ 6 → ρ 49 j = σ 49 j) → Fr [11, 37, 49, 50, 51, 52] σ ρ → R32 ((c : Int) + 1) ∧ P30 x1 x2 x3 ((c : Int) + 1) ρ := fun ρ hn h a bF => by
          rw [← visL_no hn] at h
          exact ⟨by unfold R32; omega, ih (c + 1) ρ (by omega) h a bF⟩
        refine ⟨fun hin => skip τ (fun q => hin ?_) hSt h49 hF, fun hout => ⟨A, tx, th, ⟨hSt.1, by omega, hr, by omega, hSt.2.1⟩, ?_⟩⟩
        · rw [if_neg (by rw [decide_eq_true_eq]; exact q.1)]
        have hnp : (c : Int) ∉ p := fun q => by rw [decide_eq_true q, if_pos rfl] at hout; omega
        intro u21 σ20 hu21 hO20 ⟨eu21, hV20, hk20, hF20⟩
        have hS20 := hSt.now hV20 hk20 hF20
        have g11 : σ20 11 x1 = th := by rw [hF20 11 (by simp)]; exact f11
        have h4920 : ∀ j : Int, j ≠ 6 → σ20 49 j = σ 49 j := fun j a => by rw [hF20 49 (by simp)]; exact h49 j a
        have hFr20 : Fr [11, 37, 49, 50, 51, 52] σ σ20 := hF.tr (hF20.wk (by simp))
        have eu21 : u21 = skR A tx x1 (c : Int) th := eu21
        rw [g11, eu21]
        refine ⟨by omega, fun hlt => skip σ20 (fun q => by omega) hS20 h4920 hFr20, fun hle => ⟨A, tx, th, ⟨hV20, by omega, hr, by omega, hk20⟩, ?_⟩⟩
        intro u33 σ32 hu33 hO32 ⟨eu33, hV32, hk32, hF32⟩
        have hS32 := hS20.now hV32 hk32 hF32
        have eu33 : u33 = skR A tx x1 (c : Int) th := eu33
        have hsr : 0 ≤ skR A tx x1 (c : Int) th ∧ skR A tx x1 (c : Int) th ≤ 99 := skT_r hI (by omega) hr (by omega)
        have g11b : σ32 11 x1 = th := by rw [hF32 11 (by simp)]; exact g11
        have h4932 : ∀ j : Int, j ≠ 6 → σ32 49 j = σ 49 j := fun j a => by rw [hF32 49 (by simp)]; exact h4920 j a
        have hFr32 : Fr [11, 37, 49, 50, 51, 52] σ σ32 := hFr20.tr (hF32.wk (by simp))
        refine ⟨by omega, fun σ36 e36 => ⟨by omega, by omega, ?_⟩⟩
        have g36 : σ36 11 x1 = th := by rw [e36, mset_off (by omega)]; exact g11b
        rw [g36, eu33]
        refine ⟨by unfold R32; omega, fun σ42 e42 => ⟨by unfold R32; omega, ?_⟩⟩
        have hyes := visL_yes (rc := vis (skR A tx x1) G 2) (sk := skR A tx x1) (p := p) (th := th) (k := c) (b := b1) ⟨hnp, hle⟩
        generalize hbb : visL (vis (skR A tx x1) G 2) (skR A tx x1) p th c b1 = bb at *
        have hFr42 : Fr [11, 37, 49, 50, 51, 52] σ σ42 := by rw [e42, e36]; exact (hFr32.set (by simp)).set (by simp)
        have hlen' : (p ++ [(c : Int)]).length = p.length + 1 := by simp
        have hS42 : folC σ42 A tx x1 (th - skR A tx x1 (c : Int) th) (p ++ [(c : Int)]) bb := by
          refine ⟨?_, fun g t a1 a2 a3 a4 => ?_, ?_, ?_, ?_⟩
          · have h36 : vwC σ36 (mset A 1 x1 th) tx := hV32.fr (by rw [e36]; exact (Fr.rf _ _).set (by simp [ScrC]))
            rw [e42]; exact h36.th (hinv _ (by omega))
          · rw [e42, mset_off (by omega), e36, mset_off (by omega)]; exact hk32 g t a1 a2 a3 a4
          · refine onL.snoc (hS32.2.2.1.congr (fun i a b => ?_)) ?_
            · rw [e42, mset_off (by omega), e36, mset_miss (by omega)]
            · rw [e42, mset_off (by omega), e36, hlen, mset_hit (by omega)]
          · rw [e42, mset_off (by omega), e36, mset_off (by omega)]; exact hS32.2.2.2.1
          · exact hS32.2.2.2.2.congr (fun i _ _ => by rw [e42, mset_off (by omega), e36, mset_off (by omega)])
        refine ⟨A, tx, th - skR A tx x1 (c : Int) th, p ++ [(c : Int)], bb, ⟨hS42, by omega, by omega, hbs.snoc (by omega), hok.snoc (by omega) hnp, hr, hI, by omega⟩, ?_⟩
        intro σ49 hO49 ⟨hS49, h4949, hF49⟩
        rw [hGG] at hS49
        have hS49 : folC σ49 A tx x1 (th - skR A tx x1 (c : Int) th) (p ++ [(c : Int)]) (visL (vis (skR A tx x1) G 2) (skR A tx x1) p th (c + 1) b1) := by rw [hyes]; exact hS49
        have g49 : σ49 11 x1 = th - skR A tx x1 (c : Int) th := by
          have := hS49.1.2.1.2.1 x1 hr.1 (by rw [b10]; exact hr.2)
          rw [this, mset_self]
        rw [g49]
        refine ⟨by omega, by omega, by unfold R32; omega, fun σ55 e55 => ⟨by unfold R32; omega, ?_⟩⟩
        have eth : th - skR A tx x1 (c : Int) th + skR A tx x1 (c : Int) th = th := by omega
        rw [eth] at e55
        refine ih (c + 1) σ55 (by omega) ⟨?_, fun g t a1 a2 a3 a4 => ?_, ?_, ?_, ?_⟩ (fun j a => ?_) (by rw [e55]; exact (hFr42.tr hF49).set (by simp))
        · rw [e55]; exact hS49.1.th (hinv _ (by omega))
        · rw [e55, mset_off (by omega)]; exact hS49.2.1 g t a1 a2 a3 a4
        · exact hS49.2.2.1.pre.congr (fun i _ _ => by rw [e55, mset_off (by omega)])
        · rw [e55, mset_off (by omega)]; exact hS49.2.2.2.1
        · exact hS49.2.2.2.2.congr (fun i _ _ => by rw [e55, mset_off (by omega)])
        · rw [e55, mset_off (by omega), h4949 j a, e42, mset_off (by omega), e36, mset_off (by omega)]; exact h4932 j a
  have f6 := hS.2.2.2.1
  refine ⟨fun h => ?_, fun h σ2 e2 => ⟨by omega, fun σ6 e6 => ?_⟩⟩
  · have eb : b = (if b.length < p.length then p else b) := by rw [if_neg (by omega)]
    exact H b eb G 0 σ (Nat.zero_add _) hS (fun _ _ => rfl) (Fr.rf _ _)
  · have eb : p = (if b.length < p.length then p else b) := by rw [if_pos (by omega)]
    have hF6 : Fr [49, 52] σ σ6 := by
      intro q hq
      simp at hq
      rw [e6, mcpy_ne (by omega), e2, mset_ne (by omega)]
    have o49 : ∀ j : Int, j ≠ 6 → σ6 49 j = σ 49 j := fun j a => by rw [e6, mcpy_ne (by omega), e2, mset_miss a]
    have hp2 : onL σ6 52 p := fun i x hx => by
      have : i < p.length := (List.getElem?_eq_some_iff.mp hx).1
      have e := hS.2.2.1 i x hx
      rw [e6, mcpy_hit (by omega)]
      rw [show (0 + ((i : Int) - 0)) = (i : Int) by omega, e2, mset_off (by omega)]; exact e
    refine H p eb G 0 σ6 (Nat.zero_add _) ⟨?_, fun g t a1 a2 a3 a4 => ?_, hS.2.2.1.congr (fun i _ _ => by rw [hF6 51 (by simp)]), ?_, hp2⟩ o49 (hF6.wk (by simp))
    · exact hS.1.now (hS.1.2.1.congr (fun q a b => hF6 q (by simp; omega))) hS.1.2.2.1 (fun _ _ => rfl) (fun q a => hF6 q (by simp; omega))
    · rw [hF6 50 (by simp)]; exact hS.2.1 g t a1 a2 a3 a4
    · rw [e6, mcpy_ne (by omega), e2, mset_hit rfl]; show x2 = (p.length : Int); omega)

def wp_X3_follow_3 (x1 : Int) (x2 : Int) (x3 : Int) (σ : Mem) (Q : Mem → Prop) : Prop :=
 ∀ P30 : Int → Int → Int → Int → Mem → Prop,
 (∀ (v1 : Int) (v2 : Int) (v3 : Int) (v4 : Int) (σ : Mem), (R32 v1 → R32 v2 → R32 v3 → R32 v4 → OKm σ →
   (((σ 1 9) ≤ v4) →
     Q σ) ∧
    ((v4 < (σ 1 9)) →
     ((6 ≤ v2) →
      Q σ) ∧
     ((v2 < 6) →
      (((σ 1 9) ≤ (σ 49 6)) →
       Q σ) ∧
      (((σ 49 6) < (σ 1 9)) →
       (((bAnd (bShr v3 v4) 1) ≠ 0) →
        R32 (v4 + 1) ∧ P30 v1 v2 v3 (v4 + 1) σ) ∧
       (((bAnd (bShr v3 v4) 1) = 0) →
        ∃ g14 : Mem, ∃ g15 : Nat → Txt, ∃ g16 : Int, (vwC σ (mset g14 1 v1 g16) g15 ∧ (0 ≤ v4 ∧ v4 < g14 10 1) ∧ (0 ≤ v1 ∧ v1 < g14 10 0) ∧ (0 ≤ g16 ∧ g16 ≤ g14 14 v1 ∧ g14 14 v1 ≤ 99) ∧ knC σ g14 g15 v1) ∧
        ∀ (u21 : Int) (σ20 : Mem), R32 u21 → OKm σ20 → (u21 = skT g14 g15 v4 v1 g16 ∧ vwC σ20 (mset g14 1 v1 g16) g15 ∧ knC σ20 g14 g15 v1 ∧ Fr [37, 50] σ σ20) →
        (0 ≤ v1 ∧ v1 < 16) ∧
        (((σ20 11 v1) < u21) →
         R32 (v4 + 1) ∧ P30 v1 v2 v3 (v4 + 1) σ20) ∧
        ((u21 ≤ (σ20 11 v1)) →
         ∃ g26 : Mem, ∃ g27 : Nat → Txt, ∃ g28 : Int, (vwC σ20 (mset g26 1 v1 g28) g27 ∧ (0 ≤ v4 ∧ v4 < g26 10 1) ∧ (0 ≤ v1 ∧ v1 < g26 10 0) ∧ (0 ≤ g28 ∧ g28 ≤ g26 14 v1 ∧ g26 14 v1 ≤ 99) ∧ knC σ20 g26 g27 v1) ∧
         ∀ (u33 : Int) (σ32 : Mem), R32 u33 → OKm σ32 → (u33 = skT g26 g27 v4 v1 g28 ∧ vwC σ32 (mset g26 1 v1 g28) g27 ∧ knC σ32 g26 g27 v1 ∧ Fr [37, 50] σ20 σ32) →
         (0 ≤ v2 ∧ v2 < 6) ∧
         ∀ σ36 : Mem, σ36 = mset σ32 51 v2 v4 →
         (0 ≤ v1 ∧ v1 < 16) ∧
         (0 ≤ v1 ∧ v1 < 16) ∧
         R32 ((σ36 11 v1) - u33) ∧
         ∀ σ42 : Mem, σ42 = mset σ36 11 v1 ((σ36 11 v1) - u33) →
         R32 (v2 + 1) ∧
         ∃ g46 : Mem, ∃ g47 : Nat → Txt, ∃ g48 : Int, ∃ g49 : List Int, ∃ g50 : List Int, (folC σ42 g46 g47 v1 g48 g49 g50 ∧ g49.length = 4 ∧ (v2 + 1) = 4 ∧ bsP (bOr v3 (bShl 1 v4)) g49 ∧ okP (g46 10 1) g49 ∧ (0 ≤ v1 ∧ v1 < g46 10 0) ∧ InvA g46 ∧ (0 ≤ g48 ∧ g48 ≤ g46 14 v1)) ∧
         ∀ σ54 : Mem, OKm σ54 → (folC σ54 g46 g47 v1 g48 g49 (vis (skR g46 g47 v1) (g46 10 1).toNat 3 g49 g48 g50) ∧ (∀ j : Int, j ≠ 6 → σ54 49 j = σ42 49 j) ∧ Fr [11, 37, 49, 50, 51, 52] σ42 σ54) →
         (0 ≤ v1 ∧ v1 < 16) ∧
         (0 ≤ v1 ∧ v1 < 16) ∧
         R32 ((σ54 11 v1) + u33) ∧
         ∀ σ60 : Mem, σ60 = mset σ54 11 v1 ((σ54 11 v1) + u33) →
         R32 (v4 + 1) ∧ P30 v1 v2 v3 (v4 + 1) σ60)))))) → P30 v1 v2 v3 v4 σ) →
  ((x2 ≤ (σ 49 6)) →
    P30 x1 x2 x3 0 σ) ∧
   (((σ 49 6) < x2) →
    ∀ σ2 : Mem, σ2 = mset σ 49 6 x2 →
    ((0 : Int) ≤ 0 ∧ (0 : Int) ≤ 0 ∧ (0 : Int) ≤ x2 ∧ (0 + x2 : Int) ≤ 6 ∧ (0 + x2 : Int) ≤ 6) ∧
    ∀ σ6 : Mem, σ6 = mcpy σ2 51 0 52 0 x2 →
    P30 x1 x2 x3 0 σ6)
theorem mt_X3_follow_3 {d : Nat} (hd : 8 ≤ d) {x1 : Int} {x2 : Int} {x3 : Int} {σ : Mem} {Q : Mem → Prop} (hx1 : R32 x1) (hx2 : R32 x2) (hx3 : R32 x3) (hO : OKm σ) (h : wp_X3_follow_3 x1 x2 x3 σ Q) : Mt yX3_follow cX3_follow 6 none d [aR (49), aI (x1), aI (x2), aI (x3)] σ (QV Q) := by
  refine Mt.intro (by decide +kernel) (Nat.le_of_ble_eq_true rfl) [(0, aR (49)), (1, aI (x1)), (2, aI (x2)), (3, aI (x3))] rfl ?_
  unfold wp_X3_follow_3 at h
  have h := h (fun (v1 : Int) (v2 : Int) (v3 : Int) (v4 : Int) (σ : Mem) => R32 v1 → R32 v2 → R32 v3 → R32 v4 → OKm σ → G yX3_follow cX3_follow 6 none d (QV Q) 30 [(0, aR (49)), (1, aI (v1)), (2, aI (v2)), (3, aI (v3)), (4, aI (v4))] [] σ) ?_
  · refine G_iload_n 2 rfl rfl dX3_follow_0 ?_
    refine G_aload_n 0 rfl rfl dX3_follow_1 ?_
    refine G_get (k := 6) (kd := (0, 0)) (v := aI (σ 49 6)) gf_X3_21 rfl rfl rfl rfl dX3_follow_2 ?_
    refine G_icmp_le hx2 (OKm.i hO 49 6 rfl) dX3_follow_5 (tgt := 27) (by decide) (fun c1 => ?_) (fun c1 => ?_)
    · have h := h.1 c1
      refine G_iconst dX3_follow_27 ?_
      refine G_istore (lv' := [(4, aI (0)), (0, aR (49)), (1, aI (x1)), (2, aI (x2)), (3, aI (x3))]) rfl (by decide) dX3_follow_28 ?_
      exact G_pick [1, 2, 3, 4, 0] rfl (h hx1 hx2 hx3 (rL 0 rfl) hO)
    · have h := h.2 c1
      refine G_aload_n 0 rfl rfl dX3_follow_8 ?_
      refine G_iload_n 2 rfl rfl dX3_follow_9 ?_
      obtain ⟨σ2, e4⟩ : ∃ τ : Mem, τ = mset σ 49 6 x2 := ⟨_, rfl⟩
      have h := h σ2 e4
      have o3 : OKm σ2 := by rw [e4]; exact OKm.seti hO _ _ _ hx2 rfl
      refine G_put (k := 6) (ki := 6) (kd := (0, 0)) (x := _) pf_X3_21 rfl rfl rfl rfl (fa_i (mset_self _ _ _ _)) (fun _ => rfl) (fun _ => rfl) dX3_follow_10 ?_
      rw [← e4]
      refine G_aload_n 0 rfl rfl dX3_follow_13 ?_
      refine G_get (k := 4) (kd := (3, 2)) (v := aR (51)) gf_X3_15 rfl rfl rfl rfl dX3_follow_14 ?_
      refine G_iconst dX3_follow_17 ?_
      refine G_aload_n 0 rfl rfl dX3_follow_18 ?_
      refine G_get (k := 5) (kd := (3, 3)) (v := aR (52)) gf_X3_18 rfl rfl rfl rfl dX3_follow_19 ?_
      refine G_iconst dX3_follow_22 ?_
      refine G_iload_n 2 rfl rfl dX3_follow_23 ?_
      obtain ⟨c5, h⟩ := h
      obtain ⟨σ6, e8⟩ : ∃ τ : Mem, τ = mcpy σ2 51 0 52 0 x2 := ⟨_, rfl⟩
      have h := h σ6 e8
      have o7 : OKm σ6 := by rw [e8]; exact OKm.cpy o3 (isLg_row (show shp 51 = (1, 6, []) from rfl)) (isLg_row (show shp 52 = (1, 6, []) from rfl))
      refine G_copy rfl (show shp 51 = (1, 6, []) from rfl) (show shp 52 = (1, 6, []) from rfl) (by decide) (by decide) c5.1 c5.2.1 c5.2.2.1 c5.2.2.2.1 c5.2.2.2.2 (Nat.le_of_ble_eq_true rfl) sf_X3_67 dX3_follow_24 ?_
      rw [← e8]
      refine G_iconst dX3_follow_27 ?_
      refine G_istore (lv' := [(4, aI (0)), (0, aR (49)), (1, aI (x1)), (2, aI (x2)), (3, aI (x3))]) rfl (by decide) dX3_follow_28 ?_
      exact G_pick [1, 2, 3, 4, 0] rfl (h hx1 hx2 hx3 (rL 0 rfl) o7)
  · intro v1 v2 v3 v4 σ h hv1 hv2 hv3 hv4 hO
    have h := h hv1 hv2 hv3 hv4 hO
    refine G_iload 4 rfl dX3_follow_30 ?_
    refine G_aload_n 0 rfl rfl dX3_follow_32 ?_
    refine G_get (k := 0) (kd := (2, 1)) (v := aR 1) gf_X3_29 rfl rfl rfl rfl dX3_follow_33 ?_
    refine G_get (k := 9) (kd := (0, 0)) (v := aI (σ 1 9)) gf_X3_73 rfl rfl rfl rfl dX3_follow_36 ?_
    refine G_icmp_ge hv4 (OKm.i hO 1 9 rfl) dX3_follow_39 (tgt := 155) (by decide) (fun c9 => ?_) (fun c9 => ?_)
    · have h := h.1 c9
      exact G_vret rfl dX3_follow_155 ⟨rfl, h⟩ hO
    · have h := h.2 c9
      refine G_iload_n 2 rfl rfl dX3_follow_42 ?_
      refine G_bipush (by decide) dX3_follow_43 ?_
      refine G_icmp_ge hv2 (rL 6 rfl) dX3_follow_45 (tgt := 155) (by decide) (fun c10 => ?_) (fun c10 => ?_)
      · have h := h.1 c10
        exact G_vret rfl dX3_follow_155 ⟨rfl, h⟩ hO
      · have h := h.2 c10
        refine G_aload_n 0 rfl rfl dX3_follow_48 ?_
        refine G_get (k := 6) (kd := (0, 0)) (v := aI (σ 49 6)) gf_X3_21 rfl rfl rfl rfl dX3_follow_49 ?_
        refine G_aload_n 0 rfl rfl dX3_follow_52 ?_
        refine G_get (k := 0) (kd := (2, 1)) (v := aR 1) gf_X3_29 rfl rfl rfl rfl dX3_follow_53 ?_
        refine G_get (k := 9) (kd := (0, 0)) (v := aI (σ 1 9)) gf_X3_73 rfl rfl rfl rfl dX3_follow_56 ?_
        refine G_icmp_ge (OKm.i hO 49 6 rfl) (OKm.i hO 1 9 rfl) dX3_follow_59 (tgt := 155) (by decide) (fun c11 => ?_) (fun c11 => ?_)
        · have h := h.1 c11
          exact G_vret rfl dX3_follow_155 ⟨rfl, h⟩ hO
        · have h := h.2 c11
          refine G_iload_n 3 rfl rfl dX3_follow_62 ?_
          refine G_iload 4 rfl dX3_follow_63 ?_
          refine G_ishr dX3_follow_65 ?_
          refine G_iconst dX3_follow_66 ?_
          refine G_iand dX3_follow_67 ?_
          refine G_if_ne (r32_of _) dX3_follow_68 (tgt := 149) (by decide) (fun c12 => ?_) (fun c12 => ?_)
          · have h := h.1 c12
            refine G_iinc (lv' := [(4, aI ((v4 + 1))), (0, aR (49)), (1, aI (v1)), (2, aI (v2)), (3, aI (v3))]) (k := 4) rfl rfl (by decide) dX3_follow_149 ?_
            refine G_goto (tgt := 30) dX3_follow_152 (by decide) ?_
            obtain ⟨c13, h⟩ := h
            exact G_pick [1, 2, 3, 4, 0] rfl (h hv1 hv2 hv3 c13 hO)
          · have h := h.2 c12
            refine G_aload_n 0 rfl rfl dX3_follow_71 ?_
            refine G_iload 4 rfl dX3_follow_72 ?_
            refine G_iload_n 1 rfl rfl dX3_follow_74 ?_
            obtain ⟨g14, g15, g16, c17, h⟩ := h
            refine G_callV (as := [_, _]) cf_X3_76 rfl rfl rfl (sp_X3_suckedAt (d - 1) (by omega) _ hO _ hv4 _ hv1 g14 g15 g16 c17) (by omega) rfl rfl (Nat.le_of_ble_eq_true rfl) dX3_follow_75 ?_
            rintro _ σ20 ⟨u21, rfl, z22⟩ o19 r18
            have h := h _ _ (r18 _ rfl) o19 z22
            refine G_aload_n 0 rfl rfl dX3_follow_78 ?_
            refine G_get (k := 1) (kd := (2, 10)) (v := aR 10) gf_X3_33 rfl rfl rfl rfl dX3_follow_79 ?_
            refine G_get (k := 0) (kd := (3, 1)) (v := aR (11)) gf_X3_41 rfl rfl rfl rfl dX3_follow_82 ?_
            refine G_iload_n 1 rfl rfl dX3_follow_85 ?_
            obtain ⟨c23, h⟩ := h
            refine G_iald (n := 16) rfl c23.1 c23.2 dX3_follow_86 ?_
            refine G_icmp_gt (r18 _ rfl) (OKm.i o19 11 v1 (isLg_row (show shp 11 = (1, 16, []) from rfl) _)) dX3_follow_87 (tgt := 149) (by decide) (fun c24 => ?_) (fun c24 => ?_)
            · have h := h.1 c24
              refine G_iinc (lv' := [(4, aI ((v4 + 1))), (0, aR (49)), (1, aI (v1)), (2, aI (v2)), (3, aI (v3))]) (k := 4) rfl rfl (by decide) dX3_follow_149 ?_
              refine G_goto (tgt := 30) dX3_follow_152 (by decide) ?_
              obtain ⟨c25, h⟩ := h
              exact G_pick [1, 2, 3, 4, 0] rfl (h hv1 hv2 hv3 c25 o19)
            · have h := h.2 c24
              refine G_aload_n 0 rfl rfl dX3_follow_90 ?_
              refine G_iload 4 rfl dX3_follow_91 ?_
              refine G_iload_n 1 rfl rfl dX3_follow_93 ?_
              obtain ⟨g26, g27, g28, c29, h⟩ := h
              refine G_callV (as := [_, _]) cf_X3_76 rfl rfl rfl (sp_X3_suckedAt (d - 1) (by omega) _ o19 _ hv4 _ hv1 g26 g27 g28 c29) (by omega) rfl rfl (Nat.le_of_ble_eq_true rfl) dX3_follow_94 ?_
              rintro _ σ32 ⟨u33, rfl, z34⟩ o31 r30
              have h := h _ _ (r30 _ rfl) o31 z34
              refine G_istore (lv' := [(5, aI (u33)), (0, aR (49)), (1, aI (v1)), (2, aI (v2)), (3, aI (v3)), (4, aI (v4))]) rfl (by decide) dX3_follow_97 ?_
              refine G_aload_n 1 rfl rfl dX3_follow_99 ?_
              refine G_get (k := 4) (kd := (3, 2)) (v := aR (51)) gf_X3_15 rfl rfl rfl rfl dX3_follow_100 ?_
              refine G_iload_n 3 rfl rfl dX3_follow_103 ?_
              refine G_iload 5 rfl dX3_follow_104 ?_
              obtain ⟨c35, h⟩ := h
              obtain ⟨σ36, e38⟩ : ∃ τ : Mem, τ = mset σ32 51 v2 v4 := ⟨_, rfl⟩
              have h := h σ36 e38
              have o37 : OKm σ36 := by rw [e38]; exact OKm.seti o31 _ _ _ hv4 (isLg_row (show shp 51 = (1, 6, []) from rfl) _)
              refine G_iast (n := 6) rfl c35.1 c35.2 dX3_follow_106 ?_
              rw [← e38]
              refine G_aload_n 1 rfl rfl dX3_follow_107 ?_
              refine G_get (k := 1) (kd := (2, 10)) (v := aR 10) gf_X3_33 rfl rfl rfl rfl dX3_follow_108 ?_
              refine G_get (k := 0) (kd := (3, 1)) (v := aR (11)) gf_X3_41 rfl rfl rfl rfl dX3_follow_111 ?_
              refine G_iload_n 2 rfl rfl dX3_follow_114 ?_
              refine G_dup2 rfl rfl dX3_follow_115 ?_
              obtain ⟨c39, h⟩ := h
              refine G_iald (n := 16) rfl c39.1 c39.2 dX3_follow_116 ?_
              refine G_iload 0 rfl dX3_follow_117 ?_
              refine G_isub dX3_follow_119 ?_
              obtain ⟨c40, h⟩ := h
              obtain ⟨c41, h⟩ := h
              obtain ⟨σ42, e44⟩ : ∃ τ : Mem, τ = mset σ36 11 v1 ((σ36 11 v1) - u33) := ⟨_, rfl⟩
              have h := h σ42 e44
              have o43 : OKm σ42 := by rw [e44]; exact OKm.seti o37 _ _ _ c41 (isLg_row (show shp 11 = (1, 16, []) from rfl) _)
              refine G_iast (n := 16) rfl c40.1 c40.2 dX3_follow_120 ?_
              rw [← e44]
              refine G_aload_n 1 rfl rfl dX3_follow_121 ?_
              refine G_iload_n 2 rfl rfl dX3_follow_122 ?_
              refine G_iload_n 3 rfl rfl dX3_follow_123 ?_
              refine G_iconst dX3_follow_124 ?_
              refine G_iadd dX3_follow_125 ?_
              refine G_iload_n 4 rfl rfl dX3_follow_126 ?_
              refine G_iconst dX3_follow_127 ?_
              refine G_iload 5 rfl dX3_follow_128 ?_
              refine G_ishl dX3_follow_130 ?_
              refine G_ior dX3_follow_131 ?_
              obtain ⟨c45, h⟩ := h
              obtain ⟨g46, g47, g48, g49, g50, c51, h⟩ := h
              refine G_callV (as := [_, _, _]) cf_X3_63 rfl rfl rfl (sp_X3_follow_4 (d - 1) (by omega) _ o43 _ hv1 _ c45 _ (r32_of _) g46 g47 g48 g49 g50 c51) (by omega) rfl rfl (Nat.le_of_ble_eq_true rfl) dX3_follow_132 ?_
              rintro _ σ54 ⟨rfl, z56⟩ o53 r52
              have h := h _ o53 z56
              refine G_aload_n 1 rfl rfl dX3_follow_135 ?_
              refine G_get (k := 1) (kd := (2, 10)) (v := aR 10) gf_X3_33 rfl rfl rfl rfl dX3_follow_136 ?_
              refine G_get (k := 0) (kd := (3, 1)) (v := aR (11)) gf_X3_41 rfl rfl rfl rfl dX3_follow_139 ?_
              refine G_iload_n 2 rfl rfl dX3_follow_142 ?_
              refine G_dup2 rfl rfl dX3_follow_143 ?_
              obtain ⟨c57, h⟩ := h
              refine G_iald (n := 16) rfl c57.1 c57.2 dX3_follow_144 ?_
              refine G_iload 0 rfl dX3_follow_145 ?_
              refine G_iadd dX3_follow_147 ?_
              obtain ⟨c58, h⟩ := h
              obtain ⟨c59, h⟩ := h
              obtain ⟨σ60, e62⟩ : ∃ τ : Mem, τ = mset σ54 11 v1 ((σ54 11 v1) + u33) := ⟨_, rfl⟩
              have h := h σ60 e62
              have o61 : OKm σ60 := by rw [e62]; exact OKm.seti o53 _ _ _ c59 (isLg_row (show shp 11 = (1, 16, []) from rfl) _)
              refine G_iast (n := 16) rfl c58.1 c58.2 dX3_follow_148 ?_
              rw [← e62]
              refine G_iinc (lv' := [(4, aI ((v4 + 1))), (5, aI (u33)), (0, aR (49)), (1, aI (v1)), (2, aI (v2)), (3, aI (v3))]) (k := 5) rfl rfl (by decide) dX3_follow_149 ?_
              refine G_goto (tgt := 30) dX3_follow_152 (by decide) ?_
              obtain ⟨c63, h⟩ := h
              exact G_pick [2, 3, 4, 5, 0] rfl (h hv1 hv2 hv3 c63 o61)

theorem sp_X3_follow_3 (d : Nat) (hd : 8 ≤ d) (σ : Mem) (hO : OKm σ) (x1 : Int) (hx1 : R32 x1) (x2 : Int) (hx2 : R32 x2) (x3 : Int) (hx3 : R32 x3) (A : Mem) (tx : Nat → Txt) (th : Int) (p : List Int) (b : List Int) (hpre : folC σ A tx x1 th p b ∧ p.length = 3 ∧ x2 = 3 ∧ bsP x3 p ∧ okP (A 10 1) p ∧ (0 ≤ x1 ∧ x1 < A 10 0) ∧ InvA A ∧ (0 ≤ th ∧ th ≤ A 14 x1)) : Mt yX3_follow cX3_follow 6 none d [aR (49), aI (x1), aI (x2), aI (x3)] σ (QV (fun σ' => folC σ' A tx x1 th p (vis (skR A tx x1) (A 10 1).toNat 4 p th b) ∧ (∀ j : Int, j ≠ 6 → σ' 49 j = σ 49 j) ∧ Fr [11, 37, 49, 50, 51, 52] σ σ')) := mt_X3_follow_3 hd hx1 hx2 hx3 hO (by
  unfold wp_X3_follow_3
  intro P30 h30
  obtain ⟨hS, hlen, hx2j, hbs, hok, hr, hI, hth⟩ := hpre
  have hc := hI.1
  have k1 := hI.2.1 x1 hr.1 hr.2
  have hinv : ∀ t : Int, 0 ≤ t ∧ t ≤ A 14 x1 → InvA (mset A 1 x1 t) := fun t h => hI.thick (fun _ _ => h)
  have b10 : ∀ t : Int, mset A 1 x1 t 10 = A 10 := fun t => mset_ne (by omega)
  have hG : ((A 10 1).toNat : Int) = A 10 1 := by omega
  generalize hGG : (A 10 1).toNat = G at *
  have hpG := (show okP (G : Int) p by rw [hG]; exact hok)
  have H : ∀ b1 : List Int, b1 = (if b.length < p.length then p else b) → ∀ (n c : Nat) (τ : Mem), c + n = G → folC τ A tx x1 th p (visL (vis (skR A tx x1) G 3) (skR A tx x1) p th c b1) → (∀ j : Int, j ≠ 6 → τ 49 j = σ 49 j) → Fr [11, 37, 49, 50, 51, 52] σ τ → P30 x1 x2 x3 (c : Int) τ := by
    intro b1 eb1 n
    have fin : ∀ (c : Nat) (τ : Mem), c ≤ G → visL (vis (skR A tx x1) G 3) (skR A tx x1) p th G b1 = visL (vis (skR A tx x1) G 3) (skR A tx x1) p th c b1 → folC τ A tx x1 th p (visL (vis (skR A tx x1) G 3) (skR A tx x1) p th c b1) → (∀ j : Int, j ≠ 6 → τ 49 j = σ 49 j) → Fr [11, 37, 49, 50, 51, 52] σ τ → folC τ A tx x1 th p (vis (skR A tx x1) G (3 + 1) p th b) ∧ (∀ j : Int, j ≠ 6 → τ 49 j = σ 49 j) ∧ Fr [11, 37, 49, 50, 51, 52] σ τ := fun c τ _ e h h49 hF => by
      refine ⟨?_, h49, hF⟩
      show folC τ A tx x1 th p (visL (vis (skR A tx x1) G 3) (skR A tx x1) p th G (if b.length < p.length then p else b))
      rw [← eb1, e]; exact h
    induction n with
    | zero =>
      intro c τ hk hSt h49 hF
      have f9 : τ 1 9 = A 10 1 := by rw [hSt.1.1.1.2.1, b10]
      have hcG : c = G := by omega
      exact h30 _ _ _ _ _ (fun _ _ _ _ _ => ⟨fun _ => fin c τ (by omega) (by rw [hcG]) hSt h49 hF, fun h => absurd h (by omega)⟩)
    | succ n ih =>
      intro c τ hk hSt h49 hF
      have f9 : τ 1 9 = A 10 1 := by rw [hSt.1.1.1.2.1, b10]
      have f6 := hSt.2.2.2.1
      have f11 : τ 11 x1 = th := by
        have := hSt.1.2.1.2.1 x1 hr.1 (by rw [b10]; exact hr.2)
        rw [this, mset_self]
      refine h30 _ _ _ _ _ (fun _ _ _ _ _ => ⟨fun h => absurd h (by omega), fun _ => ?_⟩)
      rw [f9, f6]
      refine ⟨fun h6 => ?_, fun h6 => ⟨fun hfull => ?_, fun hnf => ?_⟩⟩
      · refine fin c τ (by omega) ?_ hSt h49 hF
        have hall : ∀ x : Int, 0 ≤ x → x < (G : Int) → x ∈ p := fun x a b => hpG.full (by omega) ⟨a, b⟩
        rw [visL_none G hall, visL_none c (fun x a b => hall x a (by omega))]
      · refine fin c τ (by omega) ?_ hSt h49 hF
        have := visL_full hpG (by omega) (by omega) (G - c) (by omega) (sk := skR A tx x1) (f := 3) (th := th) (b := b1) (c := c)
        rw [show c + (G - c) = G by omega] at this
        exact this
      · rw [tbt_sh hbs.1 (by omega), hbs.2 (c : Int) (by omega)]
        have skip : ∀ ρ : Mem, ¬ ((c : Int) ∉ p ∧ skR A tx x1 (c : Int) th ≤ th) → folC ρ A tx x1 th p (visL (vis (skR A tx x1) G 3) (skR A tx x1) p th c b1) → (∀ j : Int, j ≠ 6 → ρ 49 j = σ 49 j) → Fr [11, 37, 49, 50, 51, 52] σ ρ → R32 ((c : Int) + 1) ∧ P30 x1 x2 x3 ((c : Int) + 1) ρ := fun ρ hn h a bF => by
          rw [← visL_no hn] at h
          exact ⟨by unfold R32; omega, ih (c + 1) ρ (by omega) h a bF⟩
        refine ⟨fun hin => skip τ (fun q => hin ?_) hSt h49 hF, fun hout => ⟨A, tx, th, ⟨hSt.1, by omega, hr, by omega, hSt.2.1⟩, ?_⟩⟩
        · rw [if_neg (by rw [decide_eq_true_eq]; exact q.1)]
        have hnp : (c : Int) ∉ p := fun q => by rw [decide_eq_true q, if_pos rfl] at hout; omega
        intro u21 σ20 hu21 hO20 ⟨eu21, hV20, hk20, hF20⟩
        have hS20 := hSt.now hV20 hk20 hF20
        have g11 : σ20 11 x1 = th := by rw [hF20 11 (by simp)]; exact f11
        have h4920 : ∀ j : Int, j ≠ 6 → σ20 49 j = σ 49 j := fun j a => by rw [hF20 49 (by simp)]; exact h49 j a
        have hFr20 : Fr [11, 37, 49, 50, 51, 52] σ σ20 := hF.tr (hF20.wk (by simp))
        have eu21 : u21 = skR A tx x1 (c : Int) th := eu21
        rw [g11, eu21]
        refine ⟨by omega, fun hlt => skip σ20 (fun q => by omega) hS20 h4920 hFr20, fun hle => ⟨A, tx, th, ⟨hV20, by omega, hr, by omega, hk20⟩, ?_⟩⟩
        intro u33 σ32 hu33 hO32 ⟨eu33, hV32, hk32, hF32⟩
        have hS32 := hS20.now hV32 hk32 hF32
        have eu33 : u33 = skR A tx x1 (c : Int) th := eu33
        have hsr : 0 ≤ skR A tx x1 (c : Int) th ∧ skR A tx x1 (c : Int) th ≤ 99 := skT_r hI (by omega) hr (by omega)
        have g11b : σ32 11 x1 = th := by rw [hF32 11 (by simp)]; exact g11
        have h4932 : ∀ j : Int, j ≠ 6 → σ32 49 j = σ 49 j := fun j a => by rw [hF32 49 (by simp)]; exact h4920 j a
        have hFr32 : Fr [11, 37, 49, 50, 51, 52] σ σ32 := hFr20.tr (hF32.wk (by simp))
        refine ⟨by omega, fun σ36 e36 => ⟨by omega, by omega, ?_⟩⟩
        have g36 : σ36 11 x1 = th := by rw [e36, mset_off (by omega)]; exact g11b
        rw [g36, eu33]
        refine ⟨by unfold R32; omega, fun σ42 e42 => ⟨by unfold R32; omega, ?_⟩⟩
        have hyes := visL_yes (rc := vis (skR A tx x1) G 3) (sk := skR A tx x1) (p := p) (th := th) (k := c) (b := b1) ⟨hnp, hle⟩
        generalize hbb : visL (vis (skR A tx x1) G 3) (skR A tx x1) p th c b1 = bb at *
        have hFr42 : Fr [11, 37, 49, 50, 51, 52] σ σ42 := by rw [e42, e36]; exact (hFr32.set (by simp)).set (by simp)
        have hlen' : (p ++ [(c : Int)]).length = p.length + 1 := by simp
        have hS42 : folC σ42 A tx x1 (th - skR A tx x1 (c : Int) th) (p ++ [(c : Int)]) bb := by
          refine ⟨?_, fun g t a1 a2 a3 a4 => ?_, ?_, ?_, ?_⟩
          · have h36 : vwC σ36 (mset A 1 x1 th) tx := hV32.fr (by rw [e36]; exact (Fr.rf _ _).set (by simp [ScrC]))
            rw [e42]; exact h36.th (hinv _ (by omega))
          · rw [e42, mset_off (by omega), e36, mset_off (by omega)]; exact hk32 g t a1 a2 a3 a4
          · refine onL.snoc (hS32.2.2.1.congr (fun i a b => ?_)) ?_
            · rw [e42, mset_off (by omega), e36, mset_miss (by omega)]
            · rw [e42, mset_off (by omega), e36, hlen, mset_hit (by omega)]
          · rw [e42, mset_off (by omega), e36, mset_off (by omega)]; exact hS32.2.2.2.1
          · exact hS32.2.2.2.2.congr (fun i _ _ => by rw [e42, mset_off (by omega), e36, mset_off (by omega)])
        refine ⟨A, tx, th - skR A tx x1 (c : Int) th, p ++ [(c : Int)], bb, ⟨hS42, by omega, by omega, hbs.snoc (by omega), hok.snoc (by omega) hnp, hr, hI, by omega⟩, ?_⟩
        intro σ49 hO49 ⟨hS49, h4949, hF49⟩
        rw [hGG] at hS49
        have hS49 : folC σ49 A tx x1 (th - skR A tx x1 (c : Int) th) (p ++ [(c : Int)]) (visL (vis (skR A tx x1) G 3) (skR A tx x1) p th (c + 1) b1) := by rw [hyes]; exact hS49
        have g49 : σ49 11 x1 = th - skR A tx x1 (c : Int) th := by
          have := hS49.1.2.1.2.1 x1 hr.1 (by rw [b10]; exact hr.2)
          rw [this, mset_self]
        rw [g49]
        refine ⟨by omega, by omega, by unfold R32; omega, fun σ55 e55 => ⟨by unfold R32; omega, ?_⟩⟩
        have eth : th - skR A tx x1 (c : Int) th + skR A tx x1 (c : Int) th = th := by omega
        rw [eth] at e55
        refine ih (c + 1) σ55 (by omega) ⟨?_, fun g t a1 a2 a3 a4 => ?_, ?_, ?_, ?_⟩ (fun j a => ?_) (by rw [e55]; exact (hFr42.tr hF49).set (by simp))
        · rw [e55]; exact hS49.1.th (hinv _ (by omega))
        · rw [e55, mset_off (by omega)]; exact hS49.2.1 g t a1 a2 a3 a4
        · exact hS49.2.2.1.pre.congr (fun i _ _ => by rw [e55, mset_off (by omega)])
        · rw [e55, mset_off (by omega)]; exact hS49.2.2.2.1
        · exact hS49.2.2.2.2.congr (fun i _ _ => by rw [e55, mset_off (by omega)])
        · rw [e55, mset_off (by omega), h4949 j a, e42, mset_off (by omega), e36, mset_off (by omega)]; exact h4932 j a
  have f6 := hS.2.2.2.1
  refine ⟨fun h => ?_, fun h σ2 e2 => ⟨by omega, fun σ6 e6 => ?_⟩⟩
  · have eb : b = (if b.length < p.length then p else b) := by rw [if_neg (by omega)]
    exact H b eb G 0 σ (Nat.zero_add _) hS (fun _ _ => rfl) (Fr.rf _ _)
  · have eb : p = (if b.length < p.length then p else b) := by rw [if_pos (by omega)]
    have hF6 : Fr [49, 52] σ σ6 := by
      intro q hq
      simp at hq
      rw [e6, mcpy_ne (by omega), e2, mset_ne (by omega)]
    have o49 : ∀ j : Int, j ≠ 6 → σ6 49 j = σ 49 j := fun j a => by rw [e6, mcpy_ne (by omega), e2, mset_miss a]
    have hp2 : onL σ6 52 p := fun i x hx => by
      have : i < p.length := (List.getElem?_eq_some_iff.mp hx).1
      have e := hS.2.2.1 i x hx
      rw [e6, mcpy_hit (by omega)]
      rw [show (0 + ((i : Int) - 0)) = (i : Int) by omega, e2, mset_off (by omega)]; exact e
    refine H p eb G 0 σ6 (Nat.zero_add _) ⟨?_, fun g t a1 a2 a3 a4 => ?_, hS.2.2.1.congr (fun i _ _ => by rw [hF6 51 (by simp)]), ?_, hp2⟩ o49 (hF6.wk (by simp))
    · exact hS.1.now (hS.1.2.1.congr (fun q a b => hF6 q (by simp; omega))) hS.1.2.2.1 (fun _ _ => rfl) (fun q a => hF6 q (by simp; omega))
    · rw [hF6 50 (by simp)]; exact hS.2.1 g t a1 a2 a3 a4
    · rw [e6, mcpy_ne (by omega), e2, mset_hit rfl]; show x2 = (p.length : Int); omega)

def wp_X3_follow_2 (x1 : Int) (x2 : Int) (x3 : Int) (σ : Mem) (Q : Mem → Prop) : Prop :=
 ∀ P30 : Int → Int → Int → Int → Mem → Prop,
 (∀ (v1 : Int) (v2 : Int) (v3 : Int) (v4 : Int) (σ : Mem), (R32 v1 → R32 v2 → R32 v3 → R32 v4 → OKm σ →
   (((σ 1 9) ≤ v4) →
     Q σ) ∧
    ((v4 < (σ 1 9)) →
     ((6 ≤ v2) →
      Q σ) ∧
     ((v2 < 6) →
      (((σ 1 9) ≤ (σ 49 6)) →
       Q σ) ∧
      (((σ 49 6) < (σ 1 9)) →
       (((bAnd (bShr v3 v4) 1) ≠ 0) →
        R32 (v4 + 1) ∧ P30 v1 v2 v3 (v4 + 1) σ) ∧
       (((bAnd (bShr v3 v4) 1) = 0) →
        ∃ g14 : Mem, ∃ g15 : Nat → Txt, ∃ g16 : Int, (vwC σ (mset g14 1 v1 g16) g15 ∧ (0 ≤ v4 ∧ v4 < g14 10 1) ∧ (0 ≤ v1 ∧ v1 < g14 10 0) ∧ (0 ≤ g16 ∧ g16 ≤ g14 14 v1 ∧ g14 14 v1 ≤ 99) ∧ knC σ g14 g15 v1) ∧
        ∀ (u21 : Int) (σ20 : Mem), R32 u21 → OKm σ20 → (u21 = skT g14 g15 v4 v1 g16 ∧ vwC σ20 (mset g14 1 v1 g16) g15 ∧ knC σ20 g14 g15 v1 ∧ Fr [37, 50] σ σ20) →
        (0 ≤ v1 ∧ v1 < 16) ∧
        (((σ20 11 v1) < u21) →
         R32 (v4 + 1) ∧ P30 v1 v2 v3 (v4 + 1) σ20) ∧
        ((u21 ≤ (σ20 11 v1)) →
         ∃ g26 : Mem, ∃ g27 : Nat → Txt, ∃ g28 : Int, (vwC σ20 (mset g26 1 v1 g28) g27 ∧ (0 ≤ v4 ∧ v4 < g26 10 1) ∧ (0 ≤ v1 ∧ v1 < g26 10 0) ∧ (0 ≤ g28 ∧ g28 ≤ g26 14 v1 ∧ g26 14 v1 ≤ 99) ∧ knC σ20 g26 g27 v1) ∧
         ∀ (u33 : Int) (σ32 : Mem), R32 u33 → OKm σ32 → (u33 = skT g26 g27 v4 v1 g28 ∧ vwC σ32 (mset g26 1 v1 g28) g27 ∧ knC σ32 g26 g27 v1 ∧ Fr [37, 50] σ20 σ32) →
         (0 ≤ v2 ∧ v2 < 6) ∧
         ∀ σ36 : Mem, σ36 = mset σ32 51 v2 v4 →
         (0 ≤ v1 ∧ v1 < 16) ∧
         (0 ≤ v1 ∧ v1 < 16) ∧
         R32 ((σ36 11 v1) - u33) ∧
         ∀ σ42 : Mem, σ42 = mset σ36 11 v1 ((σ36 11 v1) - u33) →
         R32 (v2 + 1) ∧
         ∃ g46 : Mem, ∃ g47 : Nat → Txt, ∃ g48 : Int, ∃ g49 : List Int, ∃ g50 : List Int, (folC σ42 g46 g47 v1 g48 g49 g50 ∧ g49.length = 3 ∧ (v2 + 1) = 3 ∧ bsP (bOr v3 (bShl 1 v4)) g49 ∧ okP (g46 10 1) g49 ∧ (0 ≤ v1 ∧ v1 < g46 10 0) ∧ InvA g46 ∧ (0 ≤ g48 ∧ g48 ≤ g46 14 v1)) ∧
         ∀ σ54 : Mem, OKm σ54 → (folC σ54 g46 g47 v1 g48 g49 (vis (skR g46 g47 v1) (g46 10 1).toNat 4 g49 g48 g50) ∧ (∀ j : Int, j ≠ 6 → σ54 49 j = σ42 49 j) ∧ Fr [11, 37, 49, 50, 51, 52] σ42 σ54) →
         (0 ≤ v1 ∧ v1 < 16) ∧
         (0 ≤ v1 ∧ v1 < 16) ∧
         R32 ((σ54 11 v1) + u33) ∧
         ∀ σ60 : Mem, σ60 = mset σ54 11 v1 ((σ54 11 v1) + u33) →
         R32 (v4 + 1) ∧ P30 v1 v2 v3 (v4 + 1) σ60)))))) → P30 v1 v2 v3 v4 σ) →
  ((x2 ≤ (σ 49 6)) →
    P30 x1 x2 x3 0 σ) ∧
   (((σ 49 6) < x2) →
    ∀ σ2 : Mem, σ2 = mset σ 49 6 x2 →
    ((0 : Int) ≤ 0 ∧ (0 : Int) ≤ 0 ∧ (0 : Int) ≤ x2 ∧ (0 + x2 : Int) ≤ 6 ∧ (0 + x2 : Int) ≤ 6) ∧
    ∀ σ6 : Mem, σ6 = mcpy σ2 51 0 52 0 x2 →
    P30 x1 x2 x3 0 σ6)
theorem mt_X3_follow_2 {d : Nat} (hd : 9 ≤ d) {x1 : Int} {x2 : Int} {x3 : Int} {σ : Mem} {Q : Mem → Prop} (hx1 : R32 x1) (hx2 : R32 x2) (hx3 : R32 x3) (hO : OKm σ) (h : wp_X3_follow_2 x1 x2 x3 σ Q) : Mt yX3_follow cX3_follow 6 none d [aR (49), aI (x1), aI (x2), aI (x3)] σ (QV Q) := by
  refine Mt.intro (by decide +kernel) (Nat.le_of_ble_eq_true rfl) [(0, aR (49)), (1, aI (x1)), (2, aI (x2)), (3, aI (x3))] rfl ?_
  unfold wp_X3_follow_2 at h
  have h := h (fun (v1 : Int) (v2 : Int) (v3 : Int) (v4 : Int) (σ : Mem) => R32 v1 → R32 v2 → R32 v3 → R32 v4 → OKm σ → G yX3_follow cX3_follow 6 none d (QV Q) 30 [(0, aR (49)), (1, aI (v1)), (2, aI (v2)), (3, aI (v3)), (4, aI (v4))] [] σ) ?_
  · refine G_iload_n 2 rfl rfl dX3_follow_0 ?_
    refine G_aload_n 0 rfl rfl dX3_follow_1 ?_
    refine G_get (k := 6) (kd := (0, 0)) (v := aI (σ 49 6)) gf_X3_21 rfl rfl rfl rfl dX3_follow_2 ?_
    refine G_icmp_le hx2 (OKm.i hO 49 6 rfl) dX3_follow_5 (tgt := 27) (by decide) (fun c1 => ?_) (fun c1 => ?_)
    · have h := h.1 c1
      refine G_iconst dX3_follow_27 ?_
      refine G_istore (lv' := [(4, aI (0)), (0, aR (49)), (1, aI (x1)), (2, aI (x2)), (3, aI (x3))]) rfl (by decide) dX3_follow_28 ?_
      exact G_pick [1, 2, 3, 4, 0] rfl (h hx1 hx2 hx3 (rL 0 rfl) hO)
    · have h := h.2 c1
      refine G_aload_n 0 rfl rfl dX3_follow_8 ?_
      refine G_iload_n 2 rfl rfl dX3_follow_9 ?_
      obtain ⟨σ2, e4⟩ : ∃ τ : Mem, τ = mset σ 49 6 x2 := ⟨_, rfl⟩
      have h := h σ2 e4
      have o3 : OKm σ2 := by rw [e4]; exact OKm.seti hO _ _ _ hx2 rfl
      refine G_put (k := 6) (ki := 6) (kd := (0, 0)) (x := _) pf_X3_21 rfl rfl rfl rfl (fa_i (mset_self _ _ _ _)) (fun _ => rfl) (fun _ => rfl) dX3_follow_10 ?_
      rw [← e4]
      refine G_aload_n 0 rfl rfl dX3_follow_13 ?_
      refine G_get (k := 4) (kd := (3, 2)) (v := aR (51)) gf_X3_15 rfl rfl rfl rfl dX3_follow_14 ?_
      refine G_iconst dX3_follow_17 ?_
      refine G_aload_n 0 rfl rfl dX3_follow_18 ?_
      refine G_get (k := 5) (kd := (3, 3)) (v := aR (52)) gf_X3_18 rfl rfl rfl rfl dX3_follow_19 ?_
      refine G_iconst dX3_follow_22 ?_
      refine G_iload_n 2 rfl rfl dX3_follow_23 ?_
      obtain ⟨c5, h⟩ := h
      obtain ⟨σ6, e8⟩ : ∃ τ : Mem, τ = mcpy σ2 51 0 52 0 x2 := ⟨_, rfl⟩
      have h := h σ6 e8
      have o7 : OKm σ6 := by rw [e8]; exact OKm.cpy o3 (isLg_row (show shp 51 = (1, 6, []) from rfl)) (isLg_row (show shp 52 = (1, 6, []) from rfl))
      refine G_copy rfl (show shp 51 = (1, 6, []) from rfl) (show shp 52 = (1, 6, []) from rfl) (by decide) (by decide) c5.1 c5.2.1 c5.2.2.1 c5.2.2.2.1 c5.2.2.2.2 (Nat.le_of_ble_eq_true rfl) sf_X3_67 dX3_follow_24 ?_
      rw [← e8]
      refine G_iconst dX3_follow_27 ?_
      refine G_istore (lv' := [(4, aI (0)), (0, aR (49)), (1, aI (x1)), (2, aI (x2)), (3, aI (x3))]) rfl (by decide) dX3_follow_28 ?_
      exact G_pick [1, 2, 3, 4, 0] rfl (h hx1 hx2 hx3 (rL 0 rfl) o7)
  · intro v1 v2 v3 v4 σ h hv1 hv2 hv3 hv4 hO
    have h := h hv1 hv2 hv3 hv4 hO
    refine G_iload 4 rfl dX3_follow_30 ?_
    refine G_aload_n 0 rfl rfl dX3_follow_32 ?_
    refine G_get (k := 0) (kd := (2, 1)) (v := aR 1) gf_X3_29 rfl rfl rfl rfl dX3_follow_33 ?_
    refine G_get (k := 9) (kd := (0, 0)) (v := aI (σ 1 9)) gf_X3_73 rfl rfl rfl rfl dX3_follow_36 ?_
    refine G_icmp_ge hv4 (OKm.i hO 1 9 rfl) dX3_follow_39 (tgt := 155) (by decide) (fun c9 => ?_) (fun c9 => ?_)
    · have h := h.1 c9
      exact G_vret rfl dX3_follow_155 ⟨rfl, h⟩ hO
    · have h := h.2 c9
      refine G_iload_n 2 rfl rfl dX3_follow_42 ?_
      refine G_bipush (by decide) dX3_follow_43 ?_
      refine G_icmp_ge hv2 (rL 6 rfl) dX3_follow_45 (tgt := 155) (by decide) (fun c10 => ?_) (fun c10 => ?_)
      · have h := h.1 c10
        exact G_vret rfl dX3_follow_155 ⟨rfl, h⟩ hO
      · have h := h.2 c10
        refine G_aload_n 0 rfl rfl dX3_follow_48 ?_
        refine G_get (k := 6) (kd := (0, 0)) (v := aI (σ 49 6)) gf_X3_21 rfl rfl rfl rfl dX3_follow_49 ?_
        refine G_aload_n 0 rfl rfl dX3_follow_52 ?_
        refine G_get (k := 0) (kd := (2, 1)) (v := aR 1) gf_X3_29 rfl rfl rfl rfl dX3_follow_53 ?_
        refine G_get (k := 9) (kd := (0, 0)) (v := aI (σ 1 9)) gf_X3_73 rfl rfl rfl rfl dX3_follow_56 ?_
        refine G_icmp_ge (OKm.i hO 49 6 rfl) (OKm.i hO 1 9 rfl) dX3_follow_59 (tgt := 155) (by decide) (fun c11 => ?_) (fun c11 => ?_)
        · have h := h.1 c11
          exact G_vret rfl dX3_follow_155 ⟨rfl, h⟩ hO
        · have h := h.2 c11
          refine G_iload_n 3 rfl rfl dX3_follow_62 ?_
          refine G_iload 4 rfl dX3_follow_63 ?_
          refine G_ishr dX3_follow_65 ?_
          refine G_iconst dX3_follow_66 ?_
          refine G_iand dX3_follow_67 ?_
          refine G_if_ne (r32_of _) dX3_follow_68 (tgt := 149) (by decide) (fun c12 => ?_) (fun c12 => ?_)
          · have h := h.1 c12
            refine G_iinc (lv' := [(4, aI ((v4 + 1))), (0, aR (49)), (1, aI (v1)), (2, aI (v2)), (3, aI (v3))]) (k := 4) rfl rfl (by decide) dX3_follow_149 ?_
            refine G_goto (tgt := 30) dX3_follow_152 (by decide) ?_
            obtain ⟨c13, h⟩ := h
            exact G_pick [1, 2, 3, 4, 0] rfl (h hv1 hv2 hv3 c13 hO)
          · have h := h.2 c12
            refine G_aload_n 0 rfl rfl dX3_follow_71 ?_
            refine G_iload 4 rfl dX3_follow_72 ?_
            refine G_iload_n 1 rfl rfl dX3_follow_74 ?_
            obtain ⟨g14, g15, g16, c17, h⟩ := h
            refine G_callV (as := [_, _]) cf_X3_76 rfl rfl rfl (sp_X3_suckedAt (d - 1) (by omega) _ hO _ hv4 _ hv1 g14 g15 g16 c17) (by omega) rfl rfl (Nat.le_of_ble_eq_true rfl) dX3_follow_75 ?_
            rintro _ σ20 ⟨u21, rfl, z22⟩ o19 r18
            have h := h _ _ (r18 _ rfl) o19 z22
            refine G_aload_n 0 rfl rfl dX3_follow_78 ?_
            refine G_get (k := 1) (kd := (2, 10)) (v := aR 10) gf_X3_33 rfl rfl rfl rfl dX3_follow_79 ?_
            refine G_get (k := 0) (kd := (3, 1)) (v := aR (11)) gf_X3_41 rfl rfl rfl rfl dX3_follow_82 ?_
            refine G_iload_n 1 rfl rfl dX3_follow_85 ?_
            obtain ⟨c23, h⟩ := h
            refine G_iald (n := 16) rfl c23.1 c23.2 dX3_follow_86 ?_
            refine G_icmp_gt (r18 _ rfl) (OKm.i o19 11 v1 (isLg_row (show shp 11 = (1, 16, []) from rfl) _)) dX3_follow_87 (tgt := 149) (by decide) (fun c24 => ?_) (fun c24 => ?_)
            · have h := h.1 c24
              refine G_iinc (lv' := [(4, aI ((v4 + 1))), (0, aR (49)), (1, aI (v1)), (2, aI (v2)), (3, aI (v3))]) (k := 4) rfl rfl (by decide) dX3_follow_149 ?_
              refine G_goto (tgt := 30) dX3_follow_152 (by decide) ?_
              obtain ⟨c25, h⟩ := h
              exact G_pick [1, 2, 3, 4, 0] rfl (h hv1 hv2 hv3 c25 o19)
            · have h := h.2 c24
              refine G_aload_n 0 rfl rfl dX3_follow_90 ?_
              refine G_iload 4 rfl dX3_follow_91 ?_
              refine G_iload_n 1 rfl rfl dX3_follow_93 ?_
              obtain ⟨g26, g27, g28, c29, h⟩ := h
              refine G_callV (as := [_, _]) cf_X3_76 rfl rfl rfl (sp_X3_suckedAt (d - 1) (by omega) _ o19 _ hv4 _ hv1 g26 g27 g28 c29) (by omega) rfl rfl (Nat.le_of_ble_eq_true rfl) dX3_follow_94 ?_
              rintro _ σ32 ⟨u33, rfl, z34⟩ o31 r30
              have h := h _ _ (r30 _ rfl) o31 z34
              refine G_istore (lv' := [(5, aI (u33)), (0, aR (49)), (1, aI (v1)), (2, aI (v2)), (3, aI (v3)), (4, aI (v4))]) rfl (by decide) dX3_follow_97 ?_
              refine G_aload_n 1 rfl rfl dX3_follow_99 ?_
              refine G_get (k := 4) (kd := (3, 2)) (v := aR (51)) gf_X3_15 rfl rfl rfl rfl dX3_follow_100 ?_
              refine G_iload_n 3 rfl rfl dX3_follow_103 ?_
              refine G_iload 5 rfl dX3_follow_104 ?_
              obtain ⟨c35, h⟩ := h
              obtain ⟨σ36, e38⟩ : ∃ τ : Mem, τ = mset σ32 51 v2 v4 := ⟨_, rfl⟩
              have h := h σ36 e38
              have o37 : OKm σ36 := by rw [e38]; exact OKm.seti o31 _ _ _ hv4 (isLg_row (show shp 51 = (1, 6, []) from rfl) _)
              refine G_iast (n := 6) rfl c35.1 c35.2 dX3_follow_106 ?_
              rw [← e38]
              refine G_aload_n 1 rfl rfl dX3_follow_107 ?_
              refine G_get (k := 1) (kd := (2, 10)) (v := aR 10) gf_X3_33 rfl rfl rfl rfl dX3_follow_108 ?_
              refine G_get (k := 0) (kd := (3, 1)) (v := aR (11)) gf_X3_41 rfl rfl rfl rfl dX3_follow_111 ?_
              refine G_iload_n 2 rfl rfl dX3_follow_114 ?_
              refine G_dup2 rfl rfl dX3_follow_115 ?_
              obtain ⟨c39, h⟩ := h
              refine G_iald (n := 16) rfl c39.1 c39.2 dX3_follow_116 ?_
              refine G_iload 0 rfl dX3_follow_117 ?_
              refine G_isub dX3_follow_119 ?_
              obtain ⟨c40, h⟩ := h
              obtain ⟨c41, h⟩ := h
              obtain ⟨σ42, e44⟩ : ∃ τ : Mem, τ = mset σ36 11 v1 ((σ36 11 v1) - u33) := ⟨_, rfl⟩
              have h := h σ42 e44
              have o43 : OKm σ42 := by rw [e44]; exact OKm.seti o37 _ _ _ c41 (isLg_row (show shp 11 = (1, 16, []) from rfl) _)
              refine G_iast (n := 16) rfl c40.1 c40.2 dX3_follow_120 ?_
              rw [← e44]
              refine G_aload_n 1 rfl rfl dX3_follow_121 ?_
              refine G_iload_n 2 rfl rfl dX3_follow_122 ?_
              refine G_iload_n 3 rfl rfl dX3_follow_123 ?_
              refine G_iconst dX3_follow_124 ?_
              refine G_iadd dX3_follow_125 ?_
              refine G_iload_n 4 rfl rfl dX3_follow_126 ?_
              refine G_iconst dX3_follow_127 ?_
              refine G_iload 5 rfl dX3_follow_128 ?_
              refine G_ishl dX3_follow_130 ?_
              refine G_ior dX3_follow_131 ?_
              obtain ⟨c45, h⟩ := h
              obtain ⟨g46, g47, g48, g49, g50, c51, h⟩ := h
              refine G_callV (as := [_, _, _]) cf_X3_63 rfl rfl rfl (sp_X3_follow_3 (d - 1) (by omega) _ o43 _ hv1 _ c45 _ (r32_of _) g46 g47 g48 g49 g50 c51) (by omega) rfl rfl (Nat.le_of_ble_eq_true rfl) dX3_follow_132 ?_
              rintro _ σ54 ⟨rfl, z56⟩ o53 r52
              have h := h _ o53 z56
              refine G_aload_n 1 rfl rfl dX3_follow_135 ?_
              refine G_get (k := 1) (kd := (2, 10)) (v := aR 10) gf_X3_33 rfl rfl rfl rfl dX3_follow_136 ?_
              refine G_get (k := 0) (kd := (3, 1)) (v := aR (11)) gf_X3_41 rfl rfl rfl rfl dX3_follow_139 ?_
              refine G_iload_n 2 rfl rfl dX3_follow_142 ?_
              refine G_dup2 rfl rfl dX3_follow_143 ?_
              obtain ⟨c57, h⟩ := h
              refine G_iald (n := 16) rfl c57.1 c57.2 dX3_follow_144 ?_
              refine G_iload 0 rfl dX3_follow_145 ?_
              refine G_iadd dX3_follow_147 ?_
              obtain ⟨c58, h⟩ := h
              obtain ⟨c59, h⟩ := h
              obtain ⟨σ60, e62⟩ : ∃ τ : Mem, τ = mset σ54 11 v1 ((σ54 11 v1) + u33) := ⟨_, rfl⟩
              have h := h σ60 e62
              have o61 : OKm σ60 := by rw [e62]; exact OKm.seti o53 _ _ _ c59 (isLg_row (show shp 11 = (1, 16, []) from rfl) _)
              refine G_iast (n := 16) rfl c58.1 c58.2 dX3_follow_148 ?_
              rw [← e62]
              refine G_iinc (lv' := [(4, aI ((v4 + 1))), (5, aI (u33)), (0, aR (49)), (1, aI (v1)), (2, aI (v2)), (3, aI (v3))]) (k := 5) rfl rfl (by decide) dX3_follow_149 ?_
              refine G_goto (tgt := 30) dX3_follow_152 (by decide) ?_
              obtain ⟨c63, h⟩ := h
              exact G_pick [2, 3, 4, 5, 0] rfl (h hv1 hv2 hv3 c63 o61)

theorem sp_X3_follow_2 (d : Nat) (hd : 9 ≤ d) (σ : Mem) (hO : OKm σ) (x1 : Int) (hx1 : R32 x1) (x2 : Int) (hx2 : R32 x2) (x3 : Int) (hx3 : R32 x3) (A : Mem) (tx : Nat → Txt) (th : Int) (p : List Int) (b : List Int) (hpre : folC σ A tx x1 th p b ∧ p.length = 2 ∧ x2 = 2 ∧ bsP x3 p ∧ okP (A 10 1) p ∧ (0 ≤ x1 ∧ x1 < A 10 0) ∧ InvA A ∧ (0 ≤ th ∧ th ≤ A 14 x1)) : Mt yX3_follow cX3_follow 6 none d [aR (49), aI (x1), aI (x2), aI (x3)] σ (QV (fun σ' => folC σ' A tx x1 th p (vis (skR A tx x1) (A 10 1).toNat 5 p th b) ∧ (∀ j : Int, j ≠ 6 → σ' 49 j = σ 49 j) ∧ Fr [11, 37, 49, 50, 51, 52] σ σ')) := mt_X3_follow_2 hd hx1 hx2 hx3 hO (by
  unfold wp_X3_follow_2
  intro P30 h30
  obtain ⟨hS, hlen, hx2j, hbs, hok, hr, hI, hth⟩ := hpre
  have hc := hI.1
  have k1 := hI.2.1 x1 hr.1 hr.2
  have hinv : ∀ t : Int, 0 ≤ t ∧ t ≤ A 14 x1 → InvA (mset A 1 x1 t) := fun t h => hI.thick (fun _ _ => h)
  have b10 : ∀ t : Int, mset A 1 x1 t 10 = A 10 := fun t => mset_ne (by omega)
  have hG : ((A 10 1).toNat : Int) = A 10 1 := by omega
  generalize hGG : (A 10 1).toNat = G at *
  have hpG := (show okP (G : Int) p by rw [hG]; exact hok)
  have H : ∀ b1 : List Int, b1 = (if b.length < p.length then p else b) → ∀ (n c : Nat) (τ : Mem), c + n = G → folC τ A tx x1 th p (visL (vis (skR A tx x1) G 4) (skR A tx x1) p th c b1) → (∀ j : Int, j ≠ 6 → τ 49 j = σ 49 j) → Fr [11, 37, 49, 50, 51, 52] σ τ → P30 x1 x2 x3 (c : Int) τ := by
    intro b1 eb1 n
    have fin : ∀ (c : Nat) (τ : Mem), c ≤ G → visL (vis (skR A tx x1) G 4) (skR A tx x1) p th G b1 = visL (vis (skR A tx x1) G 4) (skR A tx x1) p th c b1 → folC τ A tx x1 th p (visL (vis (skR A tx x1) G 4) (skR A tx x1) p th c b1) → (∀ j : Int, j ≠ 6 → τ 49 j = σ 49 j) → Fr [11, 37, 49, 50, 51, 52] σ τ → folC τ A tx x1 th p (vis (skR A tx x1) G (4 + 1) p th b) ∧ (∀ j : Int, j ≠ 6 → τ 49 j = σ 49 j) ∧ Fr [11, 37, 49, 50, 51, 52] σ τ := fun c τ _ e h h49 hF => by
      refine ⟨?_, h49, hF⟩
      show folC τ A tx x1 th p (visL (vis (skR A tx x1) G 4) (skR A tx x1) p th G (if b.length < p.length then p else b))
      rw [← eb1, e]; exact h
    induction n with
    | zero =>
      intro c τ hk hSt h49 hF
      have f9 : τ 1 9 = A 10 1 := by rw [hSt.1.1.1.2.1, b10]
      have hcG : c = G := by omega
      exact h30 _ _ _ _ _ (fun _ _ _ _ _ => ⟨fun _ => fin c τ (by omega) (by rw [hcG]) hSt h49 hF, fun h => absurd h (by omega)⟩)
    | succ n ih =>
      intro c τ hk hSt h49 hF
      have f9 : τ 1 9 = A 10 1 := by rw [hSt.1.1.1.2.1, b10]
      have f6 := hSt.2.2.2.1
      have f11 : τ 11 x1 = th := by
        have := hSt.1.2.1.2.1 x1 hr.1 (by rw [b10]; exact hr.2)
        rw [this, mset_self]
      refine h30 _ _ _ _ _ (fun _ _ _ _ _ => ⟨fun h => absurd h (by omega), fun _ => ?_⟩)
      rw [f9, f6]
      refine ⟨fun h6 => ?_, fun h6 => ⟨fun hfull => ?_, fun hnf => ?_⟩⟩
      · refine fin c τ (by omega) ?_ hSt h49 hF
        have hall : ∀ x : Int, 0 ≤ x → x < (G : Int) → x ∈ p := fun x a b => hpG.full (by omega) ⟨a, b⟩
        rw [visL_none G hall, visL_none c (fun x a b => hall x a (by omega))]
      · refine fin c τ (by omega) ?_ hSt h49 hF
        have := visL_full hpG (by omega) (by omega) (G - c) (by omega) (sk := skR A tx x1) (f := 4) (th := th) (b := b1) (c := c)
        rw [show c + (G - c) = G by omega] at this
        exact this
      · rw [tbt_sh hbs.1 (by omega), hbs.2 (c : Int) (by omega)]
        have skip : ∀ ρ : Mem, ¬ ((c : Int) ∉ p ∧ skR A tx x1 (c : Int) th ≤ th) → folC ρ A tx x1 th p (visL (vis (skR A tx x1) G 4) (skR A tx x1) p th c b1) → (∀ j : Int, j ≠ 6 → ρ 49 j = σ 49 j) → Fr [11, 37, 49, 50, 51, 52] σ ρ → R32 ((c : Int) + 1) ∧ P30 x1 x2 x3 ((c : Int) + 1) ρ := fun ρ hn h a bF => by
          rw [← visL_no hn] at h
          exact ⟨by unfold R32; omega, ih (c + 1) ρ (by omega) h a bF⟩
        refine ⟨fun hin => skip τ (fun q => hin ?_) hSt h49 hF, fun hout => ⟨A, tx, th, ⟨hSt.1, by omega, hr, by omega, hSt.2.1⟩, ?_⟩⟩
        · rw [if_neg (by rw [decide_eq_true_eq]; exact q.1)]
        have hnp : (c : Int) ∉ p := fun q => by rw [decide_eq_true q, if_pos rfl] at hout; omega
        intro u21 σ20 hu21 hO20 ⟨eu21, hV20, hk20, hF20⟩
        have hS20 := hSt.now hV20 hk20 hF20
        have g11 : σ20 11 x1 = th := by rw [hF20 11 (by simp)]; exact f11
        have h4920 : ∀ j : Int, j ≠ 6 → σ20 49 j = σ 49 j := fun j a => by rw [hF20 49 (by simp)]; exact h49 j a
        have hFr20 : Fr [11, 37, 49, 50, 51, 52] σ σ20 := hF.tr (hF20.wk (by simp))
        have eu21 : u21 = skR A tx x1 (c : Int) th := eu21
        rw [g11, eu21]
        refine ⟨by omega, fun hlt => skip σ20 (fun q => by omega) hS20 h4920 hFr20, fun hle => ⟨A, tx, th, ⟨hV20, by omega, hr, by omega, hk20⟩, ?_⟩⟩
        intro u33 σ32 hu33 hO32 ⟨eu33, hV32, hk32, hF32⟩
        have hS32 := hS20.now hV32 hk32 hF32
        have eu33 : u33 = skR A tx x1 (c : Int) th := eu33
        have hsr : 0 ≤ skR A tx x1 (c : Int) th ∧ skR A tx x1 (c : Int) th ≤ 99 := skT_r hI (by omega) hr (by omega)
        have g11b : σ32 11 x1 = th := by rw [hF32 11 (by simp)]; exact g11
        have h4932 : ∀ j : Int, j ≠ 6 → σ32 49 j = σ 49 j := fun j a => by rw [hF32 49 (by simp)]; exact h4920 j a
        have hFr32 : Fr [11, 37, 49, 50, 51, 52] σ σ32 := hFr20.tr (hF32.wk (by simp))
        refine ⟨by omega, fun σ36 e36 => ⟨by omega, by omega, ?_⟩⟩
        have g36 : σ36 11 x1 = th := by rw [e36, mset_off (by omega)]; exact g11b
        rw [g36, eu33]
        refine ⟨by unfold R32; omega, fun σ42 e42 => ⟨by unfold R32; omega, ?_⟩⟩
        have hyes := visL_yes (rc := vis (skR A tx x1) G 4) (sk := skR A tx x1) (p := p) (th := th) (k := c) (b := b1) ⟨hnp, hle⟩
        generalize hbb : visL (vis (skR A tx x1) G 4) (skR A tx x1) p th c b1 = bb at *
        have hFr42 : Fr [11, 37, 49, 50, 51, 52] σ σ42 := by rw [e42, e36]; exact (hFr32.set (by simp)).set (by simp)
        have hlen' : (p ++ [(c : Int)]).length = p.length + 1 := by simp
        have hS42 : folC σ42 A tx x1 (th - skR A tx x1 (c : Int) th) (p ++ [(c : Int)]) bb := by
          refine ⟨?_, fun g t a1 a2 a3 a4 => ?_, ?_, ?_, ?_⟩
          · have h36 : vwC σ36 (mset A 1 x1 th) tx := hV32.fr (by rw [e36]; exact (Fr.rf _ _).set (by simp [ScrC]))
            rw [e42]; exact h36.th (hinv _ (by omega))
          · rw [e42, mset_off (by omega), e36, mset_off (by omega)]; exact hk32 g t a1 a2 a3 a4
          · refine onL.snoc (hS32.2.2.1.congr (fun i a b => ?_)) ?_
            · rw [e42, mset_off (by omega), e36, mset_miss (by omega)]
            · rw [e42, mset_off (by omega), e36, hlen, mset_hit (by omega)]
          · rw [e42, mset_off (by omega), e36, mset_off (by omega)]; exact hS32.2.2.2.1
          · exact hS32.2.2.2.2.congr (fun i _ _ => by rw [e42, mset_off (by omega), e36, mset_off (by omega)])
        refine ⟨A, tx, th - skR A tx x1 (c : Int) th, p ++ [(c : Int)], bb, ⟨hS42, by omega, by omega, hbs.snoc (by omega), hok.snoc (by omega) hnp, hr, hI, by omega⟩, ?_⟩
        intro σ49 hO49 ⟨hS49, h4949, hF49⟩
        rw [hGG] at hS49
        have hS49 : folC σ49 A tx x1 (th - skR A tx x1 (c : Int) th) (p ++ [(c : Int)]) (visL (vis (skR A tx x1) G 4) (skR A tx x1) p th (c + 1) b1) := by rw [hyes]; exact hS49
        have g49 : σ49 11 x1 = th - skR A tx x1 (c : Int) th := by
          have := hS49.1.2.1.2.1 x1 hr.1 (by rw [b10]; exact hr.2)
          rw [this, mset_self]
        rw [g49]
        refine ⟨by omega, by omega, by unfold R32; omega, fun σ55 e55 => ⟨by unfold R32; omega, ?_⟩⟩
        have eth : th - skR A tx x1 (c : Int) th + skR A tx x1 (c : Int) th = th := by omega
        rw [eth] at e55
        refine ih (c + 1) σ55 (by omega) ⟨?_, fun g t a1 a2 a3 a4 => ?_, ?_, ?_, ?_⟩ (fun j a => ?_) (by rw [e55]; exact (hFr42.tr hF49).set (by simp))
        · rw [e55]; exact hS49.1.th (hinv _ (by omega))
        · rw [e55, mset_off (by omega)]; exact hS49.2.1 g t a1 a2 a3 a4
        · exact hS49.2.2.1.pre.congr (fun i _ _ => by rw [e55, mset_off (by omega)])
        · rw [e55, mset_off (by omega)]; exact hS49.2.2.2.1
        · exact hS49.2.2.2.2.congr (fun i _ _ => by rw [e55, mset_off (by omega)])
        · rw [e55, mset_off (by omega), h4949 j a, e42, mset_off (by omega), e36, mset_off (by omega)]; exact h4932 j a
  have f6 := hS.2.2.2.1
  refine ⟨fun h => ?_, fun h σ2 e2 => ⟨by omega, fun σ6 e6 => ?_⟩⟩
  · have eb : b = (if b.length < p.length then p else b) := by rw [if_neg (by omega)]
    exact H b eb G 0 σ (Nat.zero_add _) hS (fun _ _ => rfl) (Fr.rf _ _)
  · have eb : p = (if b.length < p.length then p else b) := by rw [if_pos (by omega)]
    have hF6 : Fr [49, 52] σ σ6 := by
      intro q hq
      simp at hq
      rw [e6, mcpy_ne (by omega), e2, mset_ne (by omega)]
    have o49 : ∀ j : Int, j ≠ 6 → σ6 49 j = σ 49 j := fun j a => by rw [e6, mcpy_ne (by omega), e2, mset_miss a]
    have hp2 : onL σ6 52 p := fun i x hx => by
      have : i < p.length := (List.getElem?_eq_some_iff.mp hx).1
      have e := hS.2.2.1 i x hx
      rw [e6, mcpy_hit (by omega)]
      rw [show (0 + ((i : Int) - 0)) = (i : Int) by omega, e2, mset_off (by omega)]; exact e
    refine H p eb G 0 σ6 (Nat.zero_add _) ⟨?_, fun g t a1 a2 a3 a4 => ?_, hS.2.2.1.congr (fun i _ _ => by rw [hF6 51 (by simp)]), ?_, hp2⟩ o49 (hF6.wk (by simp))
    · exact hS.1.now (hS.1.2.1.congr (fun q a b => hF6 q (by simp; omega))) hS.1.2.2.1 (fun _ _ => rfl) (fun q a => hF6 q (by simp; omega))
    · rw [hF6 50 (by simp)]; exact hS.2.1 g t a1 a2 a3 a4
    · rw [e6, mcpy_ne (by omega), e2, mset_hit rfl]; show x2 = (p.length : Int); omega)

def wp_X3_follow_1 (x1 : Int) (x2 : Int) (x3 : Int) (σ : Mem) (Q : Mem → Prop) : Prop :=
 ∀ P30 : Int → Int → Int → Int → Mem → Prop,
 (∀ (v1 : Int) (v2 : Int) (v3 : Int) (v4 : Int) (σ : Mem), (R32 v1 → R32 v2 → R32 v3 → R32 v4 → OKm σ →
   (((σ 1 9) ≤ v4) →
     Q σ) ∧
    ((v4 < (σ 1 9)) →
     ((6 ≤ v2) →
      Q σ) ∧
     ((v2 < 6) →
      (((σ 1 9) ≤ (σ 49 6)) →
       Q σ) ∧
      (((σ 49 6) < (σ 1 9)) →
       (((bAnd (bShr v3 v4) 1) ≠ 0) →
        R32 (v4 + 1) ∧ P30 v1 v2 v3 (v4 + 1) σ) ∧
       (((bAnd (bShr v3 v4) 1) = 0) →
        ∃ g14 : Mem, ∃ g15 : Nat → Txt, ∃ g16 : Int, (vwC σ (mset g14 1 v1 g16) g15 ∧ (0 ≤ v4 ∧ v4 < g14 10 1) ∧ (0 ≤ v1 ∧ v1 < g14 10 0) ∧ (0 ≤ g16 ∧ g16 ≤ g14 14 v1 ∧ g14 14 v1 ≤ 99) ∧ knC σ g14 g15 v1) ∧
        ∀ (u21 : Int) (σ20 : Mem), R32 u21 → OKm σ20 → (u21 = skT g14 g15 v4 v1 g16 ∧ vwC σ20 (mset g14 1 v1 g16) g15 ∧ knC σ20 g14 g15 v1 ∧ Fr [37, 50] σ σ20) →
        (0 ≤ v1 ∧ v1 < 16) ∧
        (((σ20 11 v1) < u21) →
         R32 (v4 + 1) ∧ P30 v1 v2 v3 (v4 + 1) σ20) ∧
        ((u21 ≤ (σ20 11 v1)) →
         ∃ g26 : Mem, ∃ g27 : Nat → Txt, ∃ g28 : Int, (vwC σ20 (mset g26 1 v1 g28) g27 ∧ (0 ≤ v4 ∧ v4 < g26 10 1) ∧ (0 ≤ v1 ∧ v1 < g26 10 0) ∧ (0 ≤ g28 ∧ g28 ≤ g26 14 v1 ∧ g26 14 v1 ≤ 99) ∧ knC σ20 g26 g27 v1) ∧
         ∀ (u33 : Int) (σ32 : Mem), R32 u33 → OKm σ32 → (u33 = skT g26 g27 v4 v1 g28 ∧ vwC σ32 (mset g26 1 v1 g28) g27 ∧ knC σ32 g26 g27 v1 ∧ Fr [37, 50] σ20 σ32) →
         (0 ≤ v2 ∧ v2 < 6) ∧
         ∀ σ36 : Mem, σ36 = mset σ32 51 v2 v4 →
         (0 ≤ v1 ∧ v1 < 16) ∧
         (0 ≤ v1 ∧ v1 < 16) ∧
         R32 ((σ36 11 v1) - u33) ∧
         ∀ σ42 : Mem, σ42 = mset σ36 11 v1 ((σ36 11 v1) - u33) →
         R32 (v2 + 1) ∧
         ∃ g46 : Mem, ∃ g47 : Nat → Txt, ∃ g48 : Int, ∃ g49 : List Int, ∃ g50 : List Int, (folC σ42 g46 g47 v1 g48 g49 g50 ∧ g49.length = 2 ∧ (v2 + 1) = 2 ∧ bsP (bOr v3 (bShl 1 v4)) g49 ∧ okP (g46 10 1) g49 ∧ (0 ≤ v1 ∧ v1 < g46 10 0) ∧ InvA g46 ∧ (0 ≤ g48 ∧ g48 ≤ g46 14 v1)) ∧
         ∀ σ54 : Mem, OKm σ54 → (folC σ54 g46 g47 v1 g48 g49 (vis (skR g46 g47 v1) (g46 10 1).toNat 5 g49 g48 g50) ∧ (∀ j : Int, j ≠ 6 → σ54 49 j = σ42 49 j) ∧ Fr [11, 37, 49, 50, 51, 52] σ42 σ54) →
         (0 ≤ v1 ∧ v1 < 16) ∧
         (0 ≤ v1 ∧ v1 < 16) ∧
         R32 ((σ54 11 v1) + u33) ∧
         ∀ σ60 : Mem, σ60 = mset σ54 11 v1 ((σ54 11 v1) + u33) →
         R32 (v4 + 1) ∧ P30 v1 v2 v3 (v4 + 1) σ60)))))) → P30 v1 v2 v3 v4 σ) →
  ((x2 ≤ (σ 49 6)) →
    P30 x1 x2 x3 0 σ) ∧
   (((σ 49 6) < x2) →
    ∀ σ2 : Mem, σ2 = mset σ 49 6 x2 →
    ((0 : Int) ≤ 0 ∧ (0 : Int) ≤ 0 ∧ (0 : Int) ≤ x2 ∧ (0 + x2 : Int) ≤ 6 ∧ (0 + x2 : Int) ≤ 6) ∧
    ∀ σ6 : Mem, σ6 = mcpy σ2 51 0 52 0 x2 →
    P30 x1 x2 x3 0 σ6)
theorem mt_X3_follow_1 {d : Nat} (hd : 10 ≤ d) {x1 : Int} {x2 : Int} {x3 : Int} {σ : Mem} {Q : Mem → Prop} (hx1 : R32 x1) (hx2 : R32 x2) (hx3 : R32 x3) (hO : OKm σ) (h : wp_X3_follow_1 x1 x2 x3 σ Q) : Mt yX3_follow cX3_follow 6 none d [aR (49), aI (x1), aI (x2), aI (x3)] σ (QV Q) := by
  refine Mt.intro (by decide +kernel) (Nat.le_of_ble_eq_true rfl) [(0, aR (49)), (1, aI (x1)), (2, aI (x2)), (3, aI (x3))] rfl ?_
  unfold wp_X3_follow_1 at h
  have h := h (fun (v1 : Int) (v2 : Int) (v3 : Int) (v4 : Int) (σ : Mem) => R32 v1 → R32 v2 → R32 v3 → R32 v4 → OKm σ → G yX3_follow cX3_follow 6 none d (QV Q) 30 [(0, aR (49)), (1, aI (v1)), (2, aI (v2)), (3, aI (v3)), (4, aI (v4))] [] σ) ?_
  · refine G_iload_n 2 rfl rfl dX3_follow_0 ?_
    refine G_aload_n 0 rfl rfl dX3_follow_1 ?_
    refine G_get (k := 6) (kd := (0, 0)) (v := aI (σ 49 6)) gf_X3_21 rfl rfl rfl rfl dX3_follow_2 ?_
    refine G_icmp_le hx2 (OKm.i hO 49 6 rfl) dX3_follow_5 (tgt := 27) (by decide) (fun c1 => ?_) (fun c1 => ?_)
    · have h := h.1 c1
      refine G_iconst dX3_follow_27 ?_
      refine G_istore (lv' := [(4, aI (0)), (0, aR (49)), (1, aI (x1)), (2, aI (x2)), (3, aI (x3))]) rfl (by decide) dX3_follow_28 ?_
      exact G_pick [1, 2, 3, 4, 0] rfl (h hx1 hx2 hx3 (rL 0 rfl) hO)
    · have h := h.2 c1
      refine G_aload_n 0 rfl rfl dX3_follow_8 ?_
      refine G_iload_n 2 rfl rfl dX3_follow_9 ?_
      obtain ⟨σ2, e4⟩ : ∃ τ : Mem, τ = mset σ 49 6 x2 := ⟨_, rfl⟩
      have h := h σ2 e4
      have o3 : OKm σ2 := by rw [e4]; exact OKm.seti hO _ _ _ hx2 rfl
      refine G_put (k := 6) (ki := 6) (kd := (0, 0)) (x := _) pf_X3_21 rfl rfl rfl rfl (fa_i (mset_self _ _ _ _)) (fun _ => rfl) (fun _ => rfl) dX3_follow_10 ?_
      rw [← e4]
      refine G_aload_n 0 rfl rfl dX3_follow_13 ?_
      refine G_get (k := 4) (kd := (3, 2)) (v := aR (51)) gf_X3_15 rfl rfl rfl rfl dX3_follow_14 ?_
      refine G_iconst dX3_follow_17 ?_
      refine G_aload_n 0 rfl rfl dX3_follow_18 ?_
      refine G_get (k := 5) (kd := (3, 3)) (v := aR (52)) gf_X3_18 rfl rfl rfl rfl dX3_follow_19 ?_
      refine G_iconst dX3_follow_22 ?_
      refine G_iload_n 2 rfl rfl dX3_follow_23 ?_
      obtain ⟨c5, h⟩ := h
      obtain ⟨σ6, e8⟩ : ∃ τ : Mem, τ = mcpy σ2 51 0 52 0 x2 := ⟨_, rfl⟩
      have h := h σ6 e8
      have o7 : OKm σ6 := by rw [e8]; exact OKm.cpy o3 (isLg_row (show shp 51 = (1, 6, []) from rfl)) (isLg_row (show shp 52 = (1, 6, []) from rfl))
      refine G_copy rfl (show shp 51 = (1, 6, []) from rfl) (show shp 52 = (1, 6, []) from rfl) (by decide) (by decide) c5.1 c5.2.1 c5.2.2.1 c5.2.2.2.1 c5.2.2.2.2 (Nat.le_of_ble_eq_true rfl) sf_X3_67 dX3_follow_24 ?_
      rw [← e8]
      refine G_iconst dX3_follow_27 ?_
      refine G_istore (lv' := [(4, aI (0)), (0, aR (49)), (1, aI (x1)), (2, aI (x2)), (3, aI (x3))]) rfl (by decide) dX3_follow_28 ?_
      exact G_pick [1, 2, 3, 4, 0] rfl (h hx1 hx2 hx3 (rL 0 rfl) o7)
  · intro v1 v2 v3 v4 σ h hv1 hv2 hv3 hv4 hO
    have h := h hv1 hv2 hv3 hv4 hO
    refine G_iload 4 rfl dX3_follow_30 ?_
    refine G_aload_n 0 rfl rfl dX3_follow_32 ?_
    refine G_get (k := 0) (kd := (2, 1)) (v := aR 1) gf_X3_29 rfl rfl rfl rfl dX3_follow_33 ?_
    refine G_get (k := 9) (kd := (0, 0)) (v := aI (σ 1 9)) gf_X3_73 rfl rfl rfl rfl dX3_follow_36 ?_
    refine G_icmp_ge hv4 (OKm.i hO 1 9 rfl) dX3_follow_39 (tgt := 155) (by decide) (fun c9 => ?_) (fun c9 => ?_)
    · have h := h.1 c9
      exact G_vret rfl dX3_follow_155 ⟨rfl, h⟩ hO
    · have h := h.2 c9
      refine G_iload_n 2 rfl rfl dX3_follow_42 ?_
      refine G_bipush (by decide) dX3_follow_43 ?_
      refine G_icmp_ge hv2 (rL 6 rfl) dX3_follow_45 (tgt := 155) (by decide) (fun c10 => ?_) (fun c10 => ?_)
      · have h := h.1 c10
        exact G_vret rfl dX3_follow_155 ⟨rfl, h⟩ hO
      · have h := h.2 c10
        refine G_aload_n 0 rfl rfl dX3_follow_48 ?_
        refine G_get (k := 6) (kd := (0, 0)) (v := aI (σ 49 6)) gf_X3_21 rfl rfl rfl rfl dX3_follow_49 ?_
        refine G_aload_n 0 rfl rfl dX3_follow_52 ?_
        refine G_get (k := 0) (kd := (2, 1)) (v := aR 1) gf_X3_29 rfl rfl rfl rfl dX3_follow_53 ?_
        refine G_get (k := 9) (kd := (0, 0)) (v := aI (σ 1 9)) gf_X3_73 rfl rfl rfl rfl dX3_follow_56 ?_
        refine G_icmp_ge (OKm.i hO 49 6 rfl) (OKm.i hO 1 9 rfl) dX3_follow_59 (tgt := 155) (by decide) (fun c11 => ?_) (fun c11 => ?_)
        · have h := h.1 c11
          exact G_vret rfl dX3_follow_155 ⟨rfl, h⟩ hO
        · have h := h.2 c11
          refine G_iload_n 3 rfl rfl dX3_follow_62 ?_
          refine G_iload 4 rfl dX3_follow_63 ?_
          refine G_ishr dX3_follow_65 ?_
          refine G_iconst dX3_follow_66 ?_
          refine G_iand dX3_follow_67 ?_
          refine G_if_ne (r32_of _) dX3_follow_68 (tgt := 149) (by decide) (fun c12 => ?_) (fun c12 => ?_)
          · have h := h.1 c12
            refine G_iinc (lv' := [(4, aI ((v4 + 1))), (0, aR (49)), (1, aI (v1)), (2, aI (v2)), (3, aI (v3))]) (k := 4) rfl rfl (by decide) dX3_follow_149 ?_
            refine G_goto (tgt := 30) dX3_follow_152 (by decide) ?_
            obtain ⟨c13, h⟩ := h
            exact G_pick [1, 2, 3, 4, 0] rfl (h hv1 hv2 hv3 c13 hO)
          · have h := h.2 c12
            refine G_aload_n 0 rfl rfl dX3_follow_71 ?_
            refine G_iload 4 rfl dX3_follow_72 ?_
            refine G_iload_n 1 rfl rfl dX3_follow_74 ?_
            obtain ⟨g14, g15, g16, c17, h⟩ := h
            refine G_callV (as := [_, _]) cf_X3_76 rfl rfl rfl (sp_X3_suckedAt (d - 1) (by omega) _ hO _ hv4 _ hv1 g14 g15 g16 c17) (by omega) rfl rfl (Nat.le_of_ble_eq_true rfl) dX3_follow_75 ?_
            rintro _ σ20 ⟨u21, rfl, z22⟩ o19 r18
            have h := h _ _ (r18 _ rfl) o19 z22
            refine G_aload_n 0 rfl rfl dX3_follow_78 ?_
            refine G_get (k := 1) (kd := (2, 10)) (v := aR 10) gf_X3_33 rfl rfl rfl rfl dX3_follow_79 ?_
            refine G_get (k := 0) (kd := (3, 1)) (v := aR (11)) gf_X3_41 rfl rfl rfl rfl dX3_follow_82 ?_
            refine G_iload_n 1 rfl rfl dX3_follow_85 ?_
            obtain ⟨c23, h⟩ := h
            refine G_iald (n := 16) rfl c23.1 c23.2 dX3_follow_86 ?_
            refine G_icmp_gt (r18 _ rfl) (OKm.i o19 11 v1 (isLg_row (show shp 11 = (1, 16, []) from rfl) _)) dX3_follow_87 (tgt := 149) (by decide) (fun c24 => ?_) (fun c24 => ?_)
            · have h := h.1 c24
              refine G_iinc (lv' := [(4, aI ((v4 + 1))), (0, aR (49)), (1, aI (v1)), (2, aI (v2)), (3, aI (v3))]) (k := 4) rfl rfl (by decide) dX3_follow_149 ?_
              refine G_goto (tgt := 30) dX3_follow_152 (by decide) ?_
              obtain ⟨c25, h⟩ := h
              exact G_pick [1, 2, 3, 4, 0] rfl (h hv1 hv2 hv3 c25 o19)
            · have h := h.2 c24
              refine G_aload_n 0 rfl rfl dX3_follow_90 ?_
              refine G_iload 4 rfl dX3_follow_91 ?_
              refine G_iload_n 1 rfl rfl dX3_follow_93 ?_
              obtain ⟨g26, g27, g28, c29, h⟩ := h
              refine G_callV (as := [_, _]) cf_X3_76 rfl rfl rfl (sp_X3_suckedAt (d - 1) (by omega) _ o19 _ hv4 _ hv1 g26 g27 g28 c29) (by omega) rfl rfl (Nat.le_of_ble_eq_true rfl) dX3_follow_94 ?_
              rintro _ σ32 ⟨u33, rfl, z34⟩ o31 r30
              have h := h _ _ (r30 _ rfl) o31 z34
              refine G_istore (lv' := [(5, aI (u33)), (0, aR (49)), (1, aI (v1)), (2, aI (v2)), (3, aI (v3)), (4, aI (v4))]) rfl (by decide) dX3_follow_97 ?_
              refine G_aload_n 1 rfl rfl dX3_follow_99 ?_
              refine G_get (k := 4) (kd := (3, 2)) (v := aR (51)) gf_X3_15 rfl rfl rfl rfl dX3_follow_100 ?_
              refine G_iload_n 3 rfl rfl dX3_follow_103 ?_
              refine G_iload 5 rfl dX3_follow_104 ?_
              obtain ⟨c35, h⟩ := h
              obtain ⟨σ36, e38⟩ : ∃ τ : Mem, τ = mset σ32 51 v2 v4 := ⟨_, rfl⟩
              have h := h σ36 e38
              have o37 : OKm σ36 := by rw [e38]; exact OKm.seti o31 _ _ _ hv4 (isLg_row (show shp 51 = (1, 6, []) from rfl) _)
              refine G_iast (n := 6) rfl c35.1 c35.2 dX3_follow_106 ?_
              rw [← e38]
              refine G_aload_n 1 rfl rfl dX3_follow_107 ?_
              refine G_get (k := 1) (kd := (2, 10)) (v := aR 10) gf_X3_33 rfl rfl rfl rfl dX3_follow_108 ?_
              refine G_get (k := 0) (kd := (3, 1)) (v := aR (11)) gf_X3_41 rfl rfl rfl rfl dX3_follow_111 ?_
              refine G_iload_n 2 rfl rfl dX3_follow_114 ?_
              refine G_dup2 rfl rfl dX3_follow_115 ?_
              obtain ⟨c39, h⟩ := h
              refine G_iald (n := 16) rfl c39.1 c39.2 dX3_follow_116 ?_
              refine G_iload 0 rfl dX3_follow_117 ?_
              refine G_isub dX3_follow_119 ?_
              obtain ⟨c40, h⟩ := h
              obtain ⟨c41, h⟩ := h
              obtain ⟨σ42, e44⟩ : ∃ τ : Mem, τ = mset σ36 11 v1 ((σ36 11 v1) - u33) := ⟨_, rfl⟩
              have h := h σ42 e44
              have o43 : OKm σ42 := by rw [e44]; exact OKm.seti o37 _ _ _ c41 (isLg_row (show shp 11 = (1, 16, []) from rfl) _)
              refine G_iast (n := 16) rfl c40.1 c40.2 dX3_follow_120 ?_
              rw [← e44]
              refine G_aload_n 1 rfl rfl dX3_follow_121 ?_
              refine G_iload_n 2 rfl rfl dX3_follow_122 ?_
              refine G_iload_n 3 rfl rfl dX3_follow_123 ?_
              refine G_iconst dX3_follow_124 ?_
              refine G_iadd dX3_follow_125 ?_
              refine G_iload_n 4 rfl rfl dX3_follow_126 ?_
              refine G_iconst dX3_follow_127 ?_
              refine G_iload 5 rfl dX3_follow_128 ?_
              refine G_ishl dX3_follow_130 ?_
              refine G_ior dX3_follow_131 ?_
              obtain ⟨c45, h⟩ := h
              obtain ⟨g46, g47, g48, g49, g50, c51, h⟩ := h
              refine G_callV (as := [_, _, _]) cf_X3_63 rfl rfl rfl (sp_X3_follow_2 (d - 1) (by omega) _ o43 _ hv1 _ c45 _ (r32_of _) g46 g47 g48 g49 g50 c51) (by omega) rfl rfl (Nat.le_of_ble_eq_true rfl) dX3_follow_132 ?_
              rintro _ σ54 ⟨rfl, z56⟩ o53 r52
              have h := h _ o53 z56
              refine G_aload_n 1 rfl rfl dX3_follow_135 ?_
              refine G_get (k := 1) (kd := (2, 10)) (v := aR 10) gf_X3_33 rfl rfl rfl rfl dX3_follow_136 ?_
              refine G_get (k := 0) (kd := (3, 1)) (v := aR (11)) gf_X3_41 rfl rfl rfl rfl dX3_follow_139 ?_
              refine G_iload_n 2 rfl rfl dX3_follow_142 ?_
              refine G_dup2 rfl rfl dX3_follow_143 ?_
              obtain ⟨c57, h⟩ := h
              refine G_iald (n := 16) rfl c57.1 c57.2 dX3_follow_144 ?_
              refine G_iload 0 rfl dX3_follow_145 ?_
              refine G_iadd dX3_follow_147 ?_
              obtain ⟨c58, h⟩ := h
              obtain ⟨c59, h⟩ := h
              obtain ⟨σ60, e62⟩ : ∃ τ : Mem, τ = mset σ54 11 v1 ((σ54 11 v1) + u33) := ⟨_, rfl⟩
              have h := h σ60 e62
              have o61 : OKm σ60 := by rw [e62]; exact OKm.seti o53 _ _ _ c59 (isLg_row (show shp 11 = (1, 16, []) from rfl) _)
              refine G_iast (n := 16) rfl c58.1 c58.2 dX3_follow_148 ?_
              rw [← e62]
              refine G_iinc (lv' := [(4, aI ((v4 + 1))), (5, aI (u33)), (0, aR (49)), (1, aI (v1)), (2, aI (v2)), (3, aI (v3))]) (k := 5) rfl rfl (by decide) dX3_follow_149 ?_
              refine G_goto (tgt := 30) dX3_follow_152 (by decide) ?_
              obtain ⟨c63, h⟩ := h
              exact G_pick [2, 3, 4, 5, 0] rfl (h hv1 hv2 hv3 c63 o61)

theorem sp_X3_follow_1 (d : Nat) (hd : 10 ≤ d) (σ : Mem) (hO : OKm σ) (x1 : Int) (hx1 : R32 x1) (x2 : Int) (hx2 : R32 x2) (x3 : Int) (hx3 : R32 x3) (A : Mem) (tx : Nat → Txt) (th : Int) (p : List Int) (b : List Int) (hpre : folC σ A tx x1 th p b ∧ p.length = 1 ∧ x2 = 1 ∧ bsP x3 p ∧ okP (A 10 1) p ∧ (0 ≤ x1 ∧ x1 < A 10 0) ∧ InvA A ∧ (0 ≤ th ∧ th ≤ A 14 x1)) : Mt yX3_follow cX3_follow 6 none d [aR (49), aI (x1), aI (x2), aI (x3)] σ (QV (fun σ' => folC σ' A tx x1 th p (vis (skR A tx x1) (A 10 1).toNat 6 p th b) ∧ (∀ j : Int, j ≠ 6 → σ' 49 j = σ 49 j) ∧ Fr [11, 37, 49, 50, 51, 52] σ σ')) := mt_X3_follow_1 hd hx1 hx2 hx3 hO (by
  unfold wp_X3_follow_1
  intro P30 h30
  obtain ⟨hS, hlen, hx2j, hbs, hok, hr, hI, hth⟩ := hpre
  have hc := hI.1
  have k1 := hI.2.1 x1 hr.1 hr.2
  have hinv : ∀ t : Int, 0 ≤ t ∧ t ≤ A 14 x1 → InvA (mset A 1 x1 t) := fun t h => hI.thick (fun _ _ => h)
  have b10 : ∀ t : Int, mset A 1 x1 t 10 = A 10 := fun t => mset_ne (by omega)
  have hG : ((A 10 1).toNat : Int) = A 10 1 := by omega
  generalize hGG : (A 10 1).toNat = G at *
  have hpG := (show okP (G : Int) p by rw [hG]; exact hok)
  have H : ∀ b1 : List Int, b1 = (if b.length < p.length then p else b) → ∀ (n c : Nat) (τ : Mem), c + n = G → folC τ A tx x1 th p (visL (vis (skR A tx x1) G 5) (skR A tx x1) p th c b1) → (∀ j : Int, j ≠ 6 → τ 49 j = σ 49 j) → Fr [11, 37, 49, 50, 51, 52] σ τ → P30 x1 x2 x3 (c : Int) τ := by
    intro b1 eb1 n
    have fin : ∀ (c : Nat) (τ : Mem), c ≤ G → visL (vis (skR A tx x1) G 5) (skR A tx x1) p th G b1 = visL (vis (skR A tx x1) G 5) (skR A tx x1) p th c b1 → folC τ A tx x1 th p (visL (vis (skR A tx x1) G 5) (skR A tx x1) p th c b1) → (∀ j : Int, j ≠ 6 → τ 49 j = σ 49 j) → Fr [11, 37, 49, 50, 51, 52] σ τ → folC τ A tx x1 th p (vis (skR A tx x1) G (5 + 1) p th b) ∧ (∀ j : Int, j ≠ 6 → τ 49 j = σ 49 j) ∧ Fr [11, 37, 49, 50, 51, 52] σ τ := fun c τ _ e h h49 hF => by
      refine ⟨?_, h49, hF⟩
      show folC τ A tx x1 th p (visL (vis (skR A tx x1) G 5) (skR A tx x1) p th G (if b.length < p.length then p else b))
      rw [← eb1, e]; exact h
    induction n with
    | zero =>
      intro c τ hk hSt h49 hF
      have f9 : τ 1 9 = A 10 1 := by rw [hSt.1.1.1.2.1, b10]
      have hcG : c = G := by omega
      exact h30 _ _ _ _ _ (fun _ _ _ _ _ => ⟨fun _ => fin c τ (by omega) (by rw [hcG]) hSt h49 hF, fun h => absurd h (by omega)⟩)
    | succ n ih =>
      intro c τ hk hSt h49 hF
      have f9 : τ 1 9 = A 10 1 := by rw [hSt.1.1.1.2.1, b10]
      have f6 := hSt.2.2.2.1
      have f11 : τ 11 x1 = th := by
        have := hSt.1.2.1.2.1 x1 hr.1 (by rw [b10]; exact hr.2)
        rw [this, mset_self]
      refine h30 _ _ _ _ _ (fun _ _ _ _ _ => ⟨fun h => absurd h (by omega), fun _ => ?_⟩)
      rw [f9, f6]
      refine ⟨fun h6 => ?_, fun h6 => ⟨fun hfull => ?_, fun hnf => ?_⟩⟩
      · refine fin c τ (by omega) ?_ hSt h49 hF
        have hall : ∀ x : Int, 0 ≤ x → x < (G : Int) → x ∈ p := fun x a b => hpG.full (by omega) ⟨a, b⟩
        rw [visL_none G hall, visL_none c (fun x a b => hall x a (by omega))]
      · refine fin c τ (by omega) ?_ hSt h49 hF
        have := visL_full hpG (by omega) (by omega) (G - c) (by omega) (sk := skR A tx x1) (f := 5) (th := th) (b := b1) (c := c)
        rw [show c + (G - c) = G by omega] at this
        exact this
      · rw [tbt_sh hbs.1 (by omega), hbs.2 (c : Int) (by omega)]
        have skip : ∀ ρ : Mem, ¬ ((c : Int) ∉ p ∧ skR A tx x1 (c : Int) th ≤ th) → folC ρ A tx x1 th p (visL (vis (skR A tx x1) G 5) (skR A tx x1) p th c b1) → (∀ j : Int, j ≠ 6 → ρ 49 j = σ 49 j) → Fr [11, 37, 49, 50, 51, 52] σ ρ → R32 ((c : Int) + 1) ∧ P30 x1 x2 x3 ((c : Int) + 1) ρ := fun ρ hn h a bF => by
          rw [← visL_no hn] at h
          exact ⟨by unfold R32; omega, ih (c + 1) ρ (by omega) h a bF⟩
        refine ⟨fun hin => skip τ (fun q => hin ?_) hSt h49 hF, fun hout => ⟨A, tx, th, ⟨hSt.1, by omega, hr, by omega, hSt.2.1⟩, ?_⟩⟩
        · rw [if_neg (by rw [decide_eq_true_eq]; exact q.1)]
        have hnp : (c : Int) ∉ p := fun q => by rw [decide_eq_true q, if_pos rfl] at hout; omega
        intro u21 σ20 hu21 hO20 ⟨eu21, hV20, hk20, hF20⟩
        have hS20 := hSt.now hV20 hk20 hF20
        have g11 : σ20 11 x1 = th := by rw [hF20 11 (by simp)]; exact f11
        have h4920 : ∀ j : Int, j ≠ 6 → σ20 49 j = σ 49 j := fun j a => by rw [hF20 49 (by simp)]; exact h49 j a
        have hFr20 : Fr [11, 37, 49, 50, 51, 52] σ σ20 := hF.tr (hF20.wk (by simp))
        have eu21 : u21 = skR A tx x1 (c : Int) th := eu21
        rw [g11, eu21]
        refine ⟨by omega, fun hlt => skip σ20 (fun q => by omega) hS20 h4920 hFr20, fun hle => ⟨A, tx, th, ⟨hV20, by omega, hr, by omega, hk20⟩, ?_⟩⟩
        intro u33 σ32 hu33 hO32 ⟨eu33, hV32, hk32, hF32⟩
        have hS32 := hS20.now hV32 hk32 hF32
        have eu33 : u33 = skR A tx x1 (c : Int) th := eu33
        have hsr : 0 ≤ skR A tx x1 (c : Int) th ∧ skR A tx x1 (c : Int) th ≤ 99 := skT_r hI (by omega) hr (by omega)
        have g11b : σ32 11 x1 = th := by rw [hF32 11 (by simp)]; exact g11
        have h4932 : ∀ j : Int, j ≠ 6 → σ32 49 j = σ 49 j := fun j a => by rw [hF32 49 (by simp)]; exact h4920 j a
        have hFr32 : Fr [11, 37, 49, 50, 51, 52] σ σ32 := hFr20.tr (hF32.wk (by simp))
        refine ⟨by omega, fun σ36 e36 => ⟨by omega, by omega, ?_⟩⟩
        have g36 : σ36 11 x1 = th := by rw [e36, mset_off (by omega)]; exact g11b
        rw [g36, eu33]
        refine ⟨by unfold R32; omega, fun σ42 e42 => ⟨by unfold R32; omega, ?_⟩⟩
        have hyes := visL_yes (rc := vis (skR A tx x1) G 5) (sk := skR A tx x1) (p := p) (th := th) (k := c) (b := b1) ⟨hnp, hle⟩
        generalize hbb : visL (vis (skR A tx x1) G 5) (skR A tx x1) p th c b1 = bb at *
        have hFr42 : Fr [11, 37, 49, 50, 51, 52] σ σ42 := by rw [e42, e36]; exact (hFr32.set (by simp)).set (by simp)
        have hlen' : (p ++ [(c : Int)]).length = p.length + 1 := by simp
        have hS42 : folC σ42 A tx x1 (th - skR A tx x1 (c : Int) th) (p ++ [(c : Int)]) bb := by
          refine ⟨?_, fun g t a1 a2 a3 a4 => ?_, ?_, ?_, ?_⟩
          · have h36 : vwC σ36 (mset A 1 x1 th) tx := hV32.fr (by rw [e36]; exact (Fr.rf _ _).set (by simp [ScrC]))
            rw [e42]; exact h36.th (hinv _ (by omega))
          · rw [e42, mset_off (by omega), e36, mset_off (by omega)]; exact hk32 g t a1 a2 a3 a4
          · refine onL.snoc (hS32.2.2.1.congr (fun i a b => ?_)) ?_
            · rw [e42, mset_off (by omega), e36, mset_miss (by omega)]
            · rw [e42, mset_off (by omega), e36, hlen, mset_hit (by omega)]
          · rw [e42, mset_off (by omega), e36, mset_off (by omega)]; exact hS32.2.2.2.1
          · exact hS32.2.2.2.2.congr (fun i _ _ => by rw [e42, mset_off (by omega), e36, mset_off (by omega)])
        refine ⟨A, tx, th - skR A tx x1 (c : Int) th, p ++ [(c : Int)], bb, ⟨hS42, by omega, by omega, hbs.snoc (by omega), hok.snoc (by omega) hnp, hr, hI, by omega⟩, ?_⟩
        intro σ49 hO49 ⟨hS49, h4949, hF49⟩
        rw [hGG] at hS49
        have hS49 : folC σ49 A tx x1 (th - skR A tx x1 (c : Int) th) (p ++ [(c : Int)]) (visL (vis (skR A tx x1) G 5) (skR A tx x1) p th (c + 1) b1) := by rw [hyes]; exact hS49
        have g49 : σ49 11 x1 = th - skR A tx x1 (c : Int) th := by
          have := hS49.1.2.1.2.1 x1 hr.1 (by rw [b10]; exact hr.2)
          rw [this, mset_self]
        rw [g49]
        refine ⟨by omega, by omega, by unfold R32; omega, fun σ55 e55 => ⟨by unfold R32; omega, ?_⟩⟩
        have eth : th - skR A tx x1 (c : Int) th + skR A tx x1 (c : Int) th = th := by omega
        rw [eth] at e55
        refine ih (c + 1) σ55 (by omega) ⟨?_, fun g t a1 a2 a3 a4 => ?_, ?_, ?_, ?_⟩ (fun j a => ?_) (by rw [e55]; exact (hFr42.tr hF49).set (by simp))
        · rw [e55]; exact hS49.1.th (hinv _ (by omega))
        · rw [e55, mset_off (by omega)]; exact hS49.2.1 g t a1 a2 a3 a4
        · exact hS49.2.2.1.pre.congr (fun i _ _ => by rw [e55, mset_off (by omega)])
        · rw [e55, mset_off (by omega)]; exact hS49.2.2.2.1
        · exact hS49.2.2.2.2.congr (fun i _ _ => by rw [e55, mset_off (by omega)])
        · rw [e55, mset_off (by omega), h4949 j a, e42, mset_off (by omega), e36, mset_off (by omega)]; exact h4932 j a
  have f6 := hS.2.2.2.1
  refine ⟨fun h => ?_, fun h σ2 e2 => ⟨by omega, fun σ6 e6 => ?_⟩⟩
  · have eb : b = (if b.length < p.length then p else b) := by rw [if_neg (by omega)]
    exact H b eb G 0 σ (Nat.zero_add _) hS (fun _ _ => rfl) (Fr.rf _ _)
  · have eb : p = (if b.length < p.length then p else b) := by rw [if_pos (by omega)]
    have hF6 : Fr [49, 52] σ σ6 := by
      intro q hq
      simp at hq
      rw [e6, mcpy_ne (by omega), e2, mset_ne (by omega)]
    have o49 : ∀ j : Int, j ≠ 6 → σ6 49 j = σ 49 j := fun j a => by rw [e6, mcpy_ne (by omega), e2, mset_miss a]
    have hp2 : onL σ6 52 p := fun i x hx => by
      have : i < p.length := (List.getElem?_eq_some_iff.mp hx).1
      have e := hS.2.2.1 i x hx
      rw [e6, mcpy_hit (by omega)]
      rw [show (0 + ((i : Int) - 0)) = (i : Int) by omega, e2, mset_off (by omega)]; exact e
    refine H p eb G 0 σ6 (Nat.zero_add _) ⟨?_, fun g t a1 a2 a3 a4 => ?_, hS.2.2.1.congr (fun i _ _ => by rw [hF6 51 (by simp)]), ?_, hp2⟩ o49 (hF6.wk (by simp))
    · exact hS.1.now (hS.1.2.1.congr (fun q a b => hF6 q (by simp; omega))) hS.1.2.2.1 (fun _ _ => rfl) (fun q a => hF6 q (by simp; omega))
    · rw [hF6 50 (by simp)]; exact hS.2.1 g t a1 a2 a3 a4
    · rw [e6, mcpy_ne (by omega), e2, mset_hit rfl]; show x2 = (p.length : Int); omega)

def wp_X3_follow_0 (x1 : Int) (x2 : Int) (x3 : Int) (σ : Mem) (Q : Mem → Prop) : Prop :=
 ∀ P30 : Int → Int → Int → Int → Mem → Prop,
 (∀ (v1 : Int) (v2 : Int) (v3 : Int) (v4 : Int) (σ : Mem), (R32 v1 → R32 v2 → R32 v3 → R32 v4 → OKm σ →
   (((σ 1 9) ≤ v4) →
     Q σ) ∧
    ((v4 < (σ 1 9)) →
     ((6 ≤ v2) →
      Q σ) ∧
     ((v2 < 6) →
      (((σ 1 9) ≤ (σ 49 6)) →
       Q σ) ∧
      (((σ 49 6) < (σ 1 9)) →
       (((bAnd (bShr v3 v4) 1) ≠ 0) →
        R32 (v4 + 1) ∧ P30 v1 v2 v3 (v4 + 1) σ) ∧
       (((bAnd (bShr v3 v4) 1) = 0) →
        ∃ g14 : Mem, ∃ g15 : Nat → Txt, ∃ g16 : Int, (vwC σ (mset g14 1 v1 g16) g15 ∧ (0 ≤ v4 ∧ v4 < g14 10 1) ∧ (0 ≤ v1 ∧ v1 < g14 10 0) ∧ (0 ≤ g16 ∧ g16 ≤ g14 14 v1 ∧ g14 14 v1 ≤ 99) ∧ knC σ g14 g15 v1) ∧
        ∀ (u21 : Int) (σ20 : Mem), R32 u21 → OKm σ20 → (u21 = skT g14 g15 v4 v1 g16 ∧ vwC σ20 (mset g14 1 v1 g16) g15 ∧ knC σ20 g14 g15 v1 ∧ Fr [37, 50] σ σ20) →
        (0 ≤ v1 ∧ v1 < 16) ∧
        (((σ20 11 v1) < u21) →
         R32 (v4 + 1) ∧ P30 v1 v2 v3 (v4 + 1) σ20) ∧
        ((u21 ≤ (σ20 11 v1)) →
         ∃ g26 : Mem, ∃ g27 : Nat → Txt, ∃ g28 : Int, (vwC σ20 (mset g26 1 v1 g28) g27 ∧ (0 ≤ v4 ∧ v4 < g26 10 1) ∧ (0 ≤ v1 ∧ v1 < g26 10 0) ∧ (0 ≤ g28 ∧ g28 ≤ g26 14 v1 ∧ g26 14 v1 ≤ 99) ∧ knC σ20 g26 g27 v1) ∧
         ∀ (u33 : Int) (σ32 : Mem), R32 u33 → OKm σ32 → (u33 = skT g26 g27 v4 v1 g28 ∧ vwC σ32 (mset g26 1 v1 g28) g27 ∧ knC σ32 g26 g27 v1 ∧ Fr [37, 50] σ20 σ32) →
         (0 ≤ v2 ∧ v2 < 6) ∧
         ∀ σ36 : Mem, σ36 = mset σ32 51 v2 v4 →
         (0 ≤ v1 ∧ v1 < 16) ∧
         (0 ≤ v1 ∧ v1 < 16) ∧
         R32 ((σ36 11 v1) - u33) ∧
         ∀ σ42 : Mem, σ42 = mset σ36 11 v1 ((σ36 11 v1) - u33) →
         R32 (v2 + 1) ∧
         ∃ g46 : Mem, ∃ g47 : Nat → Txt, ∃ g48 : Int, ∃ g49 : List Int, ∃ g50 : List Int, (folC σ42 g46 g47 v1 g48 g49 g50 ∧ g49.length = 1 ∧ (v2 + 1) = 1 ∧ bsP (bOr v3 (bShl 1 v4)) g49 ∧ okP (g46 10 1) g49 ∧ (0 ≤ v1 ∧ v1 < g46 10 0) ∧ InvA g46 ∧ (0 ≤ g48 ∧ g48 ≤ g46 14 v1)) ∧
         ∀ σ54 : Mem, OKm σ54 → (folC σ54 g46 g47 v1 g48 g49 (vis (skR g46 g47 v1) (g46 10 1).toNat 6 g49 g48 g50) ∧ (∀ j : Int, j ≠ 6 → σ54 49 j = σ42 49 j) ∧ Fr [11, 37, 49, 50, 51, 52] σ42 σ54) →
         (0 ≤ v1 ∧ v1 < 16) ∧
         (0 ≤ v1 ∧ v1 < 16) ∧
         R32 ((σ54 11 v1) + u33) ∧
         ∀ σ60 : Mem, σ60 = mset σ54 11 v1 ((σ54 11 v1) + u33) →
         R32 (v4 + 1) ∧ P30 v1 v2 v3 (v4 + 1) σ60)))))) → P30 v1 v2 v3 v4 σ) →
  ((x2 ≤ (σ 49 6)) →
    P30 x1 x2 x3 0 σ) ∧
   (((σ 49 6) < x2) →
    ∀ σ2 : Mem, σ2 = mset σ 49 6 x2 →
    ((0 : Int) ≤ 0 ∧ (0 : Int) ≤ 0 ∧ (0 : Int) ≤ x2 ∧ (0 + x2 : Int) ≤ 6 ∧ (0 + x2 : Int) ≤ 6) ∧
    ∀ σ6 : Mem, σ6 = mcpy σ2 51 0 52 0 x2 →
    P30 x1 x2 x3 0 σ6)
theorem mt_X3_follow_0 {d : Nat} (hd : 11 ≤ d) {x1 : Int} {x2 : Int} {x3 : Int} {σ : Mem} {Q : Mem → Prop} (hx1 : R32 x1) (hx2 : R32 x2) (hx3 : R32 x3) (hO : OKm σ) (h : wp_X3_follow_0 x1 x2 x3 σ Q) : Mt yX3_follow cX3_follow 6 none d [aR (49), aI (x1), aI (x2), aI (x3)] σ (QV Q) := by
  refine Mt.intro (by decide +kernel) (Nat.le_of_ble_eq_true rfl) [(0, aR (49)), (1, aI (x1)), (2, aI (x2)), (3, aI (x3))] rfl ?_
  unfold wp_X3_follow_0 at h
  have h := h (fun (v1 : Int) (v2 : Int) (v3 : Int) (v4 : Int) (σ : Mem) => R32 v1 → R32 v2 → R32 v3 → R32 v4 → OKm σ → G yX3_follow cX3_follow 6 none d (QV Q) 30 [(0, aR (49)), (1, aI (v1)), (2, aI (v2)), (3, aI (v3)), (4, aI (v4))] [] σ) ?_
  · refine G_iload_n 2 rfl rfl dX3_follow_0 ?_
    refine G_aload_n 0 rfl rfl dX3_follow_1 ?_
    refine G_get (k := 6) (kd := (0, 0)) (v := aI (σ 49 6)) gf_X3_21 rfl rfl rfl rfl dX3_follow_2 ?_
    refine G_icmp_le hx2 (OKm.i hO 49 6 rfl) dX3_follow_5 (tgt := 27) (by decide) (fun c1 => ?_) (fun c1 => ?_)
    · have h := h.1 c1
      refine G_iconst dX3_follow_27 ?_
      refine G_istore (lv' := [(4, aI (0)), (0, aR (49)), (1, aI (x1)), (2, aI (x2)), (3, aI (x3))]) rfl (by decide) dX3_follow_28 ?_
      exact G_pick [1, 2, 3, 4, 0] rfl (h hx1 hx2 hx3 (rL 0 rfl) hO)
    · have h := h.2 c1
      refine G_aload_n 0 rfl rfl dX3_follow_8 ?_
      refine G_iload_n 2 rfl rfl dX3_follow_9 ?_
      obtain ⟨σ2, e4⟩ : ∃ τ : Mem, τ = mset σ 49 6 x2 := ⟨_, rfl⟩
      have h := h σ2 e4
      have o3 : OKm σ2 := by rw [e4]; exact OKm.seti hO _ _ _ hx2 rfl
      refine G_put (k := 6) (ki := 6) (kd := (0, 0)) (x := _) pf_X3_21 rfl rfl rfl rfl (fa_i (mset_self _ _ _ _)) (fun _ => rfl) (fun _ => rfl) dX3_follow_10 ?_
      rw [← e4]
      refine G_aload_n 0 rfl rfl dX3_follow_13 ?_
      refine G_get (k := 4) (kd := (3, 2)) (v := aR (51)) gf_X3_15 rfl rfl rfl rfl dX3_follow_14 ?_
      refine G_iconst dX3_follow_17 ?_
      refine G_aload_n 0 rfl rfl dX3_follow_18 ?_
      refine G_get (k := 5) (kd := (3, 3)) (v := aR (52)) gf_X3_18 rfl rfl rfl rfl dX3_follow_19 ?_
      refine G_iconst dX3_follow_22 ?_
      refine G_iload_n 2 rfl rfl dX3_follow_23 ?_
      obtain ⟨c5, h⟩ := h
      obtain ⟨σ6, e8⟩ : ∃ τ : Mem, τ = mcpy σ2 51 0 52 0 x2 := ⟨_, rfl⟩
      have h := h σ6 e8
      have o7 : OKm σ6 := by rw [e8]; exact OKm.cpy o3 (isLg_row (show shp 51 = (1, 6, []) from rfl)) (isLg_row (show shp 52 = (1, 6, []) from rfl))
      refine G_copy rfl (show shp 51 = (1, 6, []) from rfl) (show shp 52 = (1, 6, []) from rfl) (by decide) (by decide) c5.1 c5.2.1 c5.2.2.1 c5.2.2.2.1 c5.2.2.2.2 (Nat.le_of_ble_eq_true rfl) sf_X3_67 dX3_follow_24 ?_
      rw [← e8]
      refine G_iconst dX3_follow_27 ?_
      refine G_istore (lv' := [(4, aI (0)), (0, aR (49)), (1, aI (x1)), (2, aI (x2)), (3, aI (x3))]) rfl (by decide) dX3_follow_28 ?_
      exact G_pick [1, 2, 3, 4, 0] rfl (h hx1 hx2 hx3 (rL 0 rfl) o7)
  · intro v1 v2 v3 v4 σ h hv1 hv2 hv3 hv4 hO
    have h := h hv1 hv2 hv3 hv4 hO
    refine G_iload 4 rfl dX3_follow_30 ?_
    refine G_aload_n 0 rfl rfl dX3_follow_32 ?_
    refine G_get (k := 0) (kd := (2, 1)) (v := aR 1) gf_X3_29 rfl rfl rfl rfl dX3_follow_33 ?_
    refine G_get (k := 9) (kd := (0, 0)) (v := aI (σ 1 9)) gf_X3_73 rfl rfl rfl rfl dX3_follow_36 ?_
    refine G_icmp_ge hv4 (OKm.i hO 1 9 rfl) dX3_follow_39 (tgt := 155) (by decide) (fun c9 => ?_) (fun c9 => ?_)
    · have h := h.1 c9
      exact G_vret rfl dX3_follow_155 ⟨rfl, h⟩ hO
    · have h := h.2 c9
      refine G_iload_n 2 rfl rfl dX3_follow_42 ?_
      refine G_bipush (by decide) dX3_follow_43 ?_
      refine G_icmp_ge hv2 (rL 6 rfl) dX3_follow_45 (tgt := 155) (by decide) (fun c10 => ?_) (fun c10 => ?_)
      · have h := h.1 c10
        exact G_vret rfl dX3_follow_155 ⟨rfl, h⟩ hO
      · have h := h.2 c10
        refine G_aload_n 0 rfl rfl dX3_follow_48 ?_
        refine G_get (k := 6) (kd := (0, 0)) (v := aI (σ 49 6)) gf_X3_21 rfl rfl rfl rfl dX3_follow_49 ?_
        refine G_aload_n 0 rfl rfl dX3_follow_52 ?_
        refine G_get (k := 0) (kd := (2, 1)) (v := aR 1) gf_X3_29 rfl rfl rfl rfl dX3_follow_53 ?_
        refine G_get (k := 9) (kd := (0, 0)) (v := aI (σ 1 9)) gf_X3_73 rfl rfl rfl rfl dX3_follow_56 ?_
        refine G_icmp_ge (OKm.i hO 49 6 rfl) (OKm.i hO 1 9 rfl) dX3_follow_59 (tgt := 155) (by decide) (fun c11 => ?_) (fun c11 => ?_)
        · have h := h.1 c11
          exact G_vret rfl dX3_follow_155 ⟨rfl, h⟩ hO
        · have h := h.2 c11
          refine G_iload_n 3 rfl rfl dX3_follow_62 ?_
          refine G_iload 4 rfl dX3_follow_63 ?_
          refine G_ishr dX3_follow_65 ?_
          refine G_iconst dX3_follow_66 ?_
          refine G_iand dX3_follow_67 ?_
          refine G_if_ne (r32_of _) dX3_follow_68 (tgt := 149) (by decide) (fun c12 => ?_) (fun c12 => ?_)
          · have h := h.1 c12
            refine G_iinc (lv' := [(4, aI ((v4 + 1))), (0, aR (49)), (1, aI (v1)), (2, aI (v2)), (3, aI (v3))]) (k := 4) rfl rfl (by decide) dX3_follow_149 ?_
            refine G_goto (tgt := 30) dX3_follow_152 (by decide) ?_
            obtain ⟨c13, h⟩ := h
            exact G_pick [1, 2, 3, 4, 0] rfl (h hv1 hv2 hv3 c13 hO)
          · have h := h.2 c12
            refine G_aload_n 0 rfl rfl dX3_follow_71 ?_
            refine G_iload 4 rfl dX3_follow_72 ?_
            refine G_iload_n 1 rfl rfl dX3_follow_74 ?_
            obtain ⟨g14, g15, g16, c17, h⟩ := h
            refine G_callV (as := [_, _]) cf_X3_76 rfl rfl rfl (sp_X3_suckedAt (d - 1) (by omega) _ hO _ hv4 _ hv1 g14 g15 g16 c17) (by omega) rfl rfl (Nat.le_of_ble_eq_true rfl) dX3_follow_75 ?_
            rintro _ σ20 ⟨u21, rfl, z22⟩ o19 r18
            have h := h _ _ (r18 _ rfl) o19 z22
            refine G_aload_n 0 rfl rfl dX3_follow_78 ?_
            refine G_get (k := 1) (kd := (2, 10)) (v := aR 10) gf_X3_33 rfl rfl rfl rfl dX3_follow_79 ?_
            refine G_get (k := 0) (kd := (3, 1)) (v := aR (11)) gf_X3_41 rfl rfl rfl rfl dX3_follow_82 ?_
            refine G_iload_n 1 rfl rfl dX3_follow_85 ?_
            obtain ⟨c23, h⟩ := h
            refine G_iald (n := 16) rfl c23.1 c23.2 dX3_follow_86 ?_
            refine G_icmp_gt (r18 _ rfl) (OKm.i o19 11 v1 (isLg_row (show shp 11 = (1, 16, []) from rfl) _)) dX3_follow_87 (tgt := 149) (by decide) (fun c24 => ?_) (fun c24 => ?_)
            · have h := h.1 c24
              refine G_iinc (lv' := [(4, aI ((v4 + 1))), (0, aR (49)), (1, aI (v1)), (2, aI (v2)), (3, aI (v3))]) (k := 4) rfl rfl (by decide) dX3_follow_149 ?_
              refine G_goto (tgt := 30) dX3_follow_152 (by decide) ?_
              obtain ⟨c25, h⟩ := h
              exact G_pick [1, 2, 3, 4, 0] rfl (h hv1 hv2 hv3 c25 o19)
            · have h := h.2 c24
              refine G_aload_n 0 rfl rfl dX3_follow_90 ?_
              refine G_iload 4 rfl dX3_follow_91 ?_
              refine G_iload_n 1 rfl rfl dX3_follow_93 ?_
              obtain ⟨g26, g27, g28, c29, h⟩ := h
              refine G_callV (as := [_, _]) cf_X3_76 rfl rfl rfl (sp_X3_suckedAt (d - 1) (by omega) _ o19 _ hv4 _ hv1 g26 g27 g28 c29) (by omega) rfl rfl (Nat.le_of_ble_eq_true rfl) dX3_follow_94 ?_
              rintro _ σ32 ⟨u33, rfl, z34⟩ o31 r30
              have h := h _ _ (r30 _ rfl) o31 z34
              refine G_istore (lv' := [(5, aI (u33)), (0, aR (49)), (1, aI (v1)), (2, aI (v2)), (3, aI (v3)), (4, aI (v4))]) rfl (by decide) dX3_follow_97 ?_
              refine G_aload_n 1 rfl rfl dX3_follow_99 ?_
              refine G_get (k := 4) (kd := (3, 2)) (v := aR (51)) gf_X3_15 rfl rfl rfl rfl dX3_follow_100 ?_
              refine G_iload_n 3 rfl rfl dX3_follow_103 ?_
              refine G_iload 5 rfl dX3_follow_104 ?_
              obtain ⟨c35, h⟩ := h
              obtain ⟨σ36, e38⟩ : ∃ τ : Mem, τ = mset σ32 51 v2 v4 := ⟨_, rfl⟩
              have h := h σ36 e38
              have o37 : OKm σ36 := by rw [e38]; exact OKm.seti o31 _ _ _ hv4 (isLg_row (show shp 51 = (1, 6, []) from rfl) _)
              refine G_iast (n := 6) rfl c35.1 c35.2 dX3_follow_106 ?_
              rw [← e38]
              refine G_aload_n 1 rfl rfl dX3_follow_107 ?_
              refine G_get (k := 1) (kd := (2, 10)) (v := aR 10) gf_X3_33 rfl rfl rfl rfl dX3_follow_108 ?_
              refine G_get (k := 0) (kd := (3, 1)) (v := aR (11)) gf_X3_41 rfl rfl rfl rfl dX3_follow_111 ?_
              refine G_iload_n 2 rfl rfl dX3_follow_114 ?_
              refine G_dup2 rfl rfl dX3_follow_115 ?_
              obtain ⟨c39, h⟩ := h
              refine G_iald (n := 16) rfl c39.1 c39.2 dX3_follow_116 ?_
              refine G_iload 0 rfl dX3_follow_117 ?_
              refine G_isub dX3_follow_119 ?_
              obtain ⟨c40, h⟩ := h
              obtain ⟨c41, h⟩ := h
              obtain ⟨σ42, e44⟩ : ∃ τ : Mem, τ = mset σ36 11 v1 ((σ36 11 v1) - u33) := ⟨_, rfl⟩
              have h := h σ42 e44
              have o43 : OKm σ42 := by rw [e44]; exact OKm.seti o37 _ _ _ c41 (isLg_row (show shp 11 = (1, 16, []) from rfl) _)
              refine G_iast (n := 16) rfl c40.1 c40.2 dX3_follow_120 ?_
              rw [← e44]
              refine G_aload_n 1 rfl rfl dX3_follow_121 ?_
              refine G_iload_n 2 rfl rfl dX3_follow_122 ?_
              refine G_iload_n 3 rfl rfl dX3_follow_123 ?_
              refine G_iconst dX3_follow_124 ?_
              refine G_iadd dX3_follow_125 ?_
              refine G_iload_n 4 rfl rfl dX3_follow_126 ?_
              refine G_iconst dX3_follow_127 ?_
              refine G_iload 5 rfl dX3_follow_128 ?_
              refine G_ishl dX3_follow_130 ?_
              refine G_ior dX3_follow_131 ?_
              obtain ⟨c45, h⟩ := h
              obtain ⟨g46, g47, g48, g49, g50, c51, h⟩ := h
              refine G_callV (as := [_, _, _]) cf_X3_63 rfl rfl rfl (sp_X3_follow_1 (d - 1) (by omega) _ o43 _ hv1 _ c45 _ (r32_of _) g46 g47 g48 g49 g50 c51) (by omega) rfl rfl (Nat.le_of_ble_eq_true rfl) dX3_follow_132 ?_
              rintro _ σ54 ⟨rfl, z56⟩ o53 r52
              have h := h _ o53 z56
              refine G_aload_n 1 rfl rfl dX3_follow_135 ?_
              refine G_get (k := 1) (kd := (2, 10)) (v := aR 10) gf_X3_33 rfl rfl rfl rfl dX3_follow_136 ?_
              refine G_get (k := 0) (kd := (3, 1)) (v := aR (11)) gf_X3_41 rfl rfl rfl rfl dX3_follow_139 ?_
              refine G_iload_n 2 rfl rfl dX3_follow_142 ?_
              refine G_dup2 rfl rfl dX3_follow_143 ?_
              obtain ⟨c57, h⟩ := h
              refine G_iald (n := 16) rfl c57.1 c57.2 dX3_follow_144 ?_
              refine G_iload 0 rfl dX3_follow_145 ?_
              refine G_iadd dX3_follow_147 ?_
              obtain ⟨c58, h⟩ := h
              obtain ⟨c59, h⟩ := h
              obtain ⟨σ60, e62⟩ : ∃ τ : Mem, τ = mset σ54 11 v1 ((σ54 11 v1) + u33) := ⟨_, rfl⟩
              have h := h σ60 e62
              have o61 : OKm σ60 := by rw [e62]; exact OKm.seti o53 _ _ _ c59 (isLg_row (show shp 11 = (1, 16, []) from rfl) _)
              refine G_iast (n := 16) rfl c58.1 c58.2 dX3_follow_148 ?_
              rw [← e62]
              refine G_iinc (lv' := [(4, aI ((v4 + 1))), (5, aI (u33)), (0, aR (49)), (1, aI (v1)), (2, aI (v2)), (3, aI (v3))]) (k := 5) rfl rfl (by decide) dX3_follow_149 ?_
              refine G_goto (tgt := 30) dX3_follow_152 (by decide) ?_
              obtain ⟨c63, h⟩ := h
              exact G_pick [2, 3, 4, 5, 0] rfl (h hv1 hv2 hv3 c63 o61)

theorem sp_X3_follow_0 (d : Nat) (hd : 11 ≤ d) (σ : Mem) (hO : OKm σ) (x1 : Int) (hx1 : R32 x1) (x2 : Int) (hx2 : R32 x2) (x3 : Int) (hx3 : R32 x3) (A : Mem) (tx : Nat → Txt) (th : Int) (p : List Int) (b : List Int) (hpre : folC σ A tx x1 th p b ∧ p.length = 0 ∧ x2 = 0 ∧ bsP x3 p ∧ okP (A 10 1) p ∧ (0 ≤ x1 ∧ x1 < A 10 0) ∧ InvA A ∧ (0 ≤ th ∧ th ≤ A 14 x1)) : Mt yX3_follow cX3_follow 6 none d [aR (49), aI (x1), aI (x2), aI (x3)] σ (QV (fun σ' => folC σ' A tx x1 th p (vis (skR A tx x1) (A 10 1).toNat 7 p th b) ∧ (∀ j : Int, j ≠ 6 → σ' 49 j = σ 49 j) ∧ Fr [11, 37, 49, 50, 51, 52] σ σ')) := mt_X3_follow_0 hd hx1 hx2 hx3 hO (by
  unfold wp_X3_follow_0
  intro P30 h30
  obtain ⟨hS, hlen, hx2j, hbs, hok, hr, hI, hth⟩ := hpre
  have hc := hI.1
  have k1 := hI.2.1 x1 hr.1 hr.2
  have hinv : ∀ t : Int, 0 ≤ t ∧ t ≤ A 14 x1 → InvA (mset A 1 x1 t) := fun t h => hI.thick (fun _ _ => h)
  have b10 : ∀ t : Int, mset A 1 x1 t 10 = A 10 := fun t => mset_ne (by omega)
  have hG : ((A 10 1).toNat : Int) = A 10 1 := by omega
  generalize hGG : (A 10 1).toNat = G at *
  have hpG := (show okP (G : Int) p by rw [hG]; exact hok)
  have H : ∀ b1 : List Int, b1 = (if b.length < p.length then p else b) → ∀ (n c : Nat) (τ : Mem), c + n = G → folC τ A tx x1 th p (visL (vis (skR A tx x1) G 6) (skR A tx x1) p th c b1) → (∀ j : Int, j ≠ 6 → τ 49 j = σ 49 j) → Fr [11, 37, 49, 50, 51, 52] σ τ → P30 x1 x2 x3 (c : Int) τ := by
    intro b1 eb1 n
    have fin : ∀ (c : Nat) (τ : Mem), c ≤ G → visL (vis (skR A tx x1) G 6) (skR A tx x1) p th G b1 = visL (vis (skR A tx x1) G 6) (skR A tx x1) p th c b1 → folC τ A tx x1 th p (visL (vis (skR A tx x1) G 6) (skR A tx x1) p th c b1) → (∀ j : Int, j ≠ 6 → τ 49 j = σ 49 j) → Fr [11, 37, 49, 50, 51, 52] σ τ → folC τ A tx x1 th p (vis (skR A tx x1) G (6 + 1) p th b) ∧ (∀ j : Int, j ≠ 6 → τ 49 j = σ 49 j) ∧ Fr [11, 37, 49, 50, 51, 52] σ τ := fun c τ _ e h h49 hF => by
      refine ⟨?_, h49, hF⟩
      show folC τ A tx x1 th p (visL (vis (skR A tx x1) G 6) (skR A tx x1) p th G (if b.length < p.length then p else b))
      rw [← eb1, e]; exact h
    induction n with
    | zero =>
      intro c τ hk hSt h49 hF
      have f9 : τ 1 9 = A 10 1 := by rw [hSt.1.1.1.2.1, b10]
      have hcG : c = G := by omega
      exact h30 _ _ _ _ _ (fun _ _ _ _ _ => ⟨fun _ => fin c τ (by omega) (by rw [hcG]) hSt h49 hF, fun h => absurd h (by omega)⟩)
    | succ n ih =>
      intro c τ hk hSt h49 hF
      have f9 : τ 1 9 = A 10 1 := by rw [hSt.1.1.1.2.1, b10]
      have f6 := hSt.2.2.2.1
      have f11 : τ 11 x1 = th := by
        have := hSt.1.2.1.2.1 x1 hr.1 (by rw [b10]; exact hr.2)
        rw [this, mset_self]
      refine h30 _ _ _ _ _ (fun _ _ _ _ _ => ⟨fun h => absurd h (by omega), fun _ => ?_⟩)
      rw [f9, f6]
      refine ⟨fun h6 => ?_, fun h6 => ⟨fun hfull => ?_, fun hnf => ?_⟩⟩
      · refine fin c τ (by omega) ?_ hSt h49 hF
        have hall : ∀ x : Int, 0 ≤ x → x < (G : Int) → x ∈ p := fun x a b => hpG.full (by omega) ⟨a, b⟩
        rw [visL_none G hall, visL_none c (fun x a b => hall x a (by omega))]
      · refine fin c τ (by omega) ?_ hSt h49 hF
        have := visL_full hpG (by omega) (by omega) (G - c) (by omega) (sk := skR A tx x1) (f := 6) (th := th) (b := b1) (c := c)
        rw [show c + (G - c) = G by omega] at this
        exact this
      · rw [tbt_sh hbs.1 (by omega), hbs.2 (c : Int) (by omega)]
        have skip : ∀ ρ : Mem, ¬ ((c : Int) ∉ p ∧ skR A tx x1 (c : Int) th ≤ th) → folC ρ A tx x1 th p (visL (vis (skR A tx x1) G 6) (skR A tx x1) p th c b1) → (∀ j : Int, j ≠ 6 → ρ 49 j = σ 49 j) → Fr [11, 37, 49, 50, 51, 52] σ ρ → R32 ((c : Int) + 1) ∧ P30 x1 x2 x3 ((c : Int) + 1) ρ := fun ρ hn h a bF => by
          rw [← visL_no hn] at h
          exact ⟨by unfold R32; omega, ih (c + 1) ρ (by omega) h a bF⟩
        refine ⟨fun hin => skip τ (fun q => hin ?_) hSt h49 hF, fun hout => ⟨A, tx, th, ⟨hSt.1, by omega, hr, by omega, hSt.2.1⟩, ?_⟩⟩
        · rw [if_neg (by rw [decide_eq_true_eq]; exact q.1)]
        have hnp : (c : Int) ∉ p := fun q => by rw [decide_eq_true q, if_pos rfl] at hout; omega
        intro u21 σ20 hu21 hO20 ⟨eu21, hV20, hk20, hF20⟩
        have hS20 := hSt.now hV20 hk20 hF20
        have g11 : σ20 11 x1 = th := by rw [hF20 11 (by simp)]; exact f11
        have h4920 : ∀ j : Int, j ≠ 6 → σ20 49 j = σ 49 j := fun j a => by rw [hF20 49 (by simp)]; exact h49 j a
        have hFr20 : Fr [11, 37, 49, 50, 51, 52] σ σ20 := hF.tr (hF20.wk (by simp))
        have eu21 : u21 = skR A tx x1 (c : Int) th := eu21
        rw [g11, eu21]
        refine ⟨by omega, fun hlt => skip σ20 (fun q => by omega) hS20 h4920 hFr20, fun hle => ⟨A, tx, th, ⟨hV20, by omega, hr, by omega, hk20⟩, ?_⟩⟩
        intro u33 σ32 hu33 hO32 ⟨eu33, hV32, hk32, hF32⟩
        have hS32 := hS20.now hV32 hk32 hF32
        have eu33 : u33 = skR A tx x1 (c : Int) th := eu33
        have hsr : 0 ≤ skR A tx x1 (c : Int) th ∧ skR A tx x1 (c : Int) th ≤ 99 := skT_r hI (by omega) hr (by omega)
        have g11b : σ32 11 x1 = th := by rw [hF32 11 (by simp)]; exact g11
        have h4932 : ∀ j : Int, j ≠ 6 → σ32 49 j = σ 49 j := fun j a => by rw [hF32 49 (by simp)]; exact h4920 j a
        have hFr32 : Fr [11, 37, 49, 50, 51, 52] σ σ32 := hFr20.tr (hF32.wk (by simp))
        refine ⟨by omega, fun σ36 e36 => ⟨by omega, by omega, ?_⟩⟩
        have g36 : σ36 11 x1 = th := by rw [e36, mset_off (by omega)]; exact g11b
        rw [g36, eu33]
        refine ⟨by unfold R32; omega, fun σ42 e42 => ⟨by unfold R32; omega, ?_⟩⟩
        have hyes := visL_yes (rc := vis (skR A tx x1) G 6) (sk := skR A tx x1) (p := p) (th := th) (k := c) (b := b1) ⟨hnp, hle⟩
        generalize hbb : visL (vis (skR A tx x1) G 6) (skR A tx x1) p th c b1 = bb at *
        have hFr42 : Fr [11, 37, 49, 50, 51, 52] σ σ42 := by rw [e42, e36]; exact (hFr32.set (by simp)).set (by simp)
        have hlen' : (p ++ [(c : Int)]).length = p.length + 1 := by simp
        have hS42 : folC σ42 A tx x1 (th - skR A tx x1 (c : Int) th) (p ++ [(c : Int)]) bb := by
          refine ⟨?_, fun g t a1 a2 a3 a4 => ?_, ?_, ?_, ?_⟩
          · have h36 : vwC σ36 (mset A 1 x1 th) tx := hV32.fr (by rw [e36]; exact (Fr.rf _ _).set (by simp [ScrC]))
            rw [e42]; exact h36.th (hinv _ (by omega))
          · rw [e42, mset_off (by omega), e36, mset_off (by omega)]; exact hk32 g t a1 a2 a3 a4
          · refine onL.snoc (hS32.2.2.1.congr (fun i a b => ?_)) ?_
            · rw [e42, mset_off (by omega), e36, mset_miss (by omega)]
            · rw [e42, mset_off (by omega), e36, hlen, mset_hit (by omega)]
          · rw [e42, mset_off (by omega), e36, mset_off (by omega)]; exact hS32.2.2.2.1
          · exact hS32.2.2.2.2.congr (fun i _ _ => by rw [e42, mset_off (by omega), e36, mset_off (by omega)])
        refine ⟨A, tx, th - skR A tx x1 (c : Int) th, p ++ [(c : Int)], bb, ⟨hS42, by omega, by omega, hbs.snoc (by omega), hok.snoc (by omega) hnp, hr, hI, by omega⟩, ?_⟩
        intro σ49 hO49 ⟨hS49, h4949, hF49⟩
        rw [hGG] at hS49
        have hS49 : folC σ49 A tx x1 (th - skR A tx x1 (c : Int) th) (p ++ [(c : Int)]) (visL (vis (skR A tx x1) G 6) (skR A tx x1) p th (c + 1) b1) := by rw [hyes]; exact hS49
        have g49 : σ49 11 x1 = th - skR A tx x1 (c : Int) th := by
          have := hS49.1.2.1.2.1 x1 hr.1 (by rw [b10]; exact hr.2)
          rw [this, mset_self]
        rw [g49]
        refine ⟨by omega, by omega, by unfold R32; omega, fun σ55 e55 => ⟨by unfold R32; omega, ?_⟩⟩
        have eth : th - skR A tx x1 (c : Int) th + skR A tx x1 (c : Int) th = th := by omega
        rw [eth] at e55
        refine ih (c + 1) σ55 (by omega) ⟨?_, fun g t a1 a2 a3 a4 => ?_, ?_, ?_, ?_⟩ (fun j a => ?_) (by rw [e55]; exact (hFr42.tr hF49).set (by simp))
        · rw [e55]; exact hS49.1.th (hinv _ (by omega))
        · rw [e55, mset_off (by omega)]; exact hS49.2.1 g t a1 a2 a3 a4
        · exact hS49.2.2.1.pre.congr (fun i _ _ => by rw [e55, mset_off (by omega)])
        · rw [e55, mset_off (by omega)]; exact hS49.2.2.2.1
        · exact hS49.2.2.2.2.congr (fun i _ _ => by rw [e55, mset_off (by omega)])
        · rw [e55, mset_off (by omega), h4949 j a, e42, mset_off (by omega), e36, mset_off (by omega)]; exact h4932 j a
  have f6 := hS.2.2.2.1
  refine ⟨fun h => ?_, fun h σ2 e2 => ⟨by omega, fun σ6 e6 => ?_⟩⟩
  · have eb : b = (if b.length < p.length then p else b) := by rw [if_neg (by omega)]
    exact H b eb G 0 σ (Nat.zero_add _) hS (fun _ _ => rfl) (Fr.rf _ _)
  · have eb : p = (if b.length < p.length then p else b) := by rw [if_pos (by omega)]
    have hF6 : Fr [49, 52] σ σ6 := by
      intro q hq
      simp at hq
      rw [e6, mcpy_ne (by omega), e2, mset_ne (by omega)]
    have o49 : ∀ j : Int, j ≠ 6 → σ6 49 j = σ 49 j := fun j a => by rw [e6, mcpy_ne (by omega), e2, mset_miss a]
    have hp2 : onL σ6 52 p := fun i x hx => by
      have : i < p.length := (List.getElem?_eq_some_iff.mp hx).1
      have e := hS.2.2.1 i x hx
      rw [e6, mcpy_hit (by omega)]
      rw [show (0 + ((i : Int) - 0)) = (i : Int) by omega, e2, mset_off (by omega)]; exact e
    refine H p eb G 0 σ6 (Nat.zero_add _) ⟨?_, fun g t a1 a2 a3 a4 => ?_, hS.2.2.1.congr (fun i _ _ => by rw [hF6 51 (by simp)]), ?_, hp2⟩ o49 (hF6.wk (by simp))
    · exact hS.1.now (hS.1.2.1.congr (fun q a b => hF6 q (by simp; omega))) hS.1.2.2.1 (fun _ _ => rfl) (fun q a => hF6 q (by simp; omega))
    · rw [hF6 50 (by simp)]; exact hS.2.1 g t a1 a2 a3 a4
    · rw [e6, mcpy_ne (by omega), e2, mset_hit rfl]; show x2 = (p.length : Int); omega)
