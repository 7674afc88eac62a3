def colM (A : Mem) : Nat → (Nat → Int)
  | 0 => fun _ => 0
  | n + 1 => fun s => if s = n then (if n = 0 then 0 else mnD A (colM A n) n n) else colM A n s
def colG (A : Mem) (s : Nat) : Int := colM A (s + 1) s
theorem colM_at {A : Mem} {s : Nat} : ∀ n, s < n → colM A n s = colG A s
  | 0, h => by omega
  | n + 1, h => by
    by_cases e : s = n
    · subst e; rfl
    · show (if s = n then _ else colM A n s) = _
      rw [if_neg e]; exact colM_at n (by omega)
theorem colG_ok (A : Mem) : isM A (colG A) 256 := fun s hs => by
  show (if s = s then (if s = 0 then 0 else mnD A (colM A s) s s) else colM A s s) = _
  rw [if_pos rfl]
  by_cases h0 : s = 0
  · rw [if_pos h0, if_pos h0]
  · rw [if_neg h0, if_neg h0]
    exact mnD_congr (by omega) (fun x hx => colM_at s hx) s (Nat.le_refl _)
theorem colF_M {A : Mem} (hI : InvA A) : isM A (colF A) 256 := fun s hs => by
  have e := FG hI (colF_ok A) (colG_ok A)
  rw [e 256 s hs hs, colG_ok A s hs]
  by_cases h0 : s = 0
  · rw [if_pos h0, if_pos h0]
  · rw [if_neg h0, if_neg h0]
    exact mnD_congr (by omega) (fun x hx => (e 256 x (by omega) (by omega)).symm) s (Nat.le_refl _)
theorem mcD_ge {A : Mem} {F : Nat → Int} {s : Nat} (hs : s < 65536) (h : ∀ x, x < s → 0 ≤ F x) : ∀ k, k ≤ s → 0 ≤ mcD A F s k ∧ mcD A F s k ≤ 1000000
  | 0, _ => by simp [mcD]
  | k + 1, hk => by
    have ih := mcD_ge (A := A) (F := F) hs h k (by omega)
    unfold mcD
    by_cases hc : subB (s - k) s = true ∧ (s - k).testBit (lowN 16 s) = true ∧ indS A (s - k) = true
    · rw [if_pos hc]
      have := h _ (dif_lt hs hc.1 (by omega))
      omega
    · rw [if_neg hc]; exact ih
theorem colF_r {A : Mem} (hI : InvA A) : ∀ (n s : Nat), s < n → s < 256 → 0 ≤ colF A s ∧ colF A s ≤ 8
  | 0, s, h, _ => by omega
  | n + 1, s, h, h2 => by
    have h8 := (F_le hI (colF_ok A) 256 s h2 h2).2
    refine ⟨?_, h8⟩
    rw [colF_ok A s h2]
    split
    · omega
    · exact (mcD_ge (by omega) (fun x hx => (colF_r hI n x (by omega) (by omega)).1) s (Nat.le_refl _)).1
theorem lowI {s : Nat} (h : s < 256) (h0 : s ≠ 0) : bAnd (s : Int) (-(s : Int)) = bShl 1 ((lowN 16 s : Nat) : Int) ∧ lowN 16 s < 8 := by
  have : ∀ s : Nat, s < 256 → s ≠ 0 → bAnd (s : Int) (-(s : Int)) = bShl 1 ((lowN 16 s : Nat) : Int) ∧ lowN 16 s < 8 := by decide +kernel
  exact this s h h0
theorem and_low {p : Int} {k : Int} (hp : 0 ≤ p ∧ p < 65536) (hk : 0 ≤ k ∧ k < 16) : bAnd p (bShl 1 k) = 0 ↔ tbt p k = false := by
  have s1 := (tb_shl (k := k) (t := 0) hk (by omega)).1
  have ha := fun u => tb_and (s := p) (u := bShl 1 k) (t := u) hp s1
  constructor
  · intro h
    have := (ha k).2
    rw [h, (tb_shl hk hk.1).2, decide_eq_true rfl, Bool.and_true] at this
    rw [← this]; unfold tbt; simp
  · intro h
    refine tb_ext (ha 0).1.1 (Int.le_refl 0) (fun t ht => ?_)
    rw [(ha t).2, (tb_shl hk ht).2]
    by_cases e : t = k
    · rw [e, h]; unfold tbt; simp
    · rw [decide_eq_false e, Bool.and_false]; unfold tbt; simp
theorem sub1_and {s p : Nat} (hs : s < 256) (hp : p ≤ s) (h0 : p ≠ 0) : bAnd ((p : Int) - 1) (s : Int) = (((p - 1) &&& s : Nat) : Int) := by
  rw [show ((p : Int) - 1) = ((p - 1 : Nat) : Int) by omega]
  exact bAnd_nat (by omega) (by omega)
theorem xor_dif {s p : Nat} (hs : s < 256) (h : subB p s = true) : bXor (s : Int) (p : Int) = ((dif s p : Nat) : Int) := by
  have := sub_le h
  rw [bXor_nat (by omega) (by omega), dif_xor h]
theorem not_dif {s p : Nat} (hs : s < 256) (hp : p < 256) : bAnd (s : Int) (bXor (p : Int) (-1)) = ((dif s p : Nat) : Int) := by
  obtain ⟨q, h1, h2, h3⟩ := bAndN (n := s) (m := p) (by omega) (by omega)
  rw [h1]
  congr 1
  exact Nat.eq_of_testBit_eq (fun i => by rw [h3, dif_bit])
theorem mcD_s {A : Mem} {F : Nat → Int} {s p : Nat} (hp : p ≤ s) (h0 : p ≠ 0) (hsub : subB p s = true) : mcD A F s (s - p + 1) = if p.testBit (lowN 16 s) = true ∧ indS A p = true then min (mcD A F s (s - p)) (1 + F (dif s p)) else mcD A F s (s - p) := by
  show (if subB (s - (s - p)) s = true ∧ _ then _ else _) = _
  rw [show s - (s - p) = p by omega, hsub]
  simp only [true_and]
theorem mnD_s {A : Mem} {F : Nat → Int} {s p : Nat} (hp : p ≤ s) (h0 : p ≠ 0) (hsub : subB p s = true) : mnD A F s (s - p + 1) = if indS A p = true then min (mnD A F s (s - p)) (F (dif s p) + 1) else mnD A F s (s - p) := by
  show (if subB (s - (s - p)) s = true ∧ _ then _ else _) = _
  rw [show s - (s - p) = p by omega, hsub]
  simp only [true_and]

def wp_X4_colourCount  (σ : Mem) (Q : Int → Mem → Prop) : Prop :=
 ∀ P13 : Int → Mem → Prop,
 ∀ P35 : Int → Int → Int → Mem → Prop,
 (∀ (v1 : Int) (σ : Mem), (R32 v1 → OKm σ →
   ((256 ≤ v1) →
     Q (σ 46 255) σ) ∧
    ((v1 < 256) →
     (0 ≤ v1 ∧ v1 < 256) ∧
     ∀ σ14 : Mem, σ14 = mset σ 46 v1 1000000 →
     P35 v1 (bAnd v1 (-v1)) v1 σ14)) → P13 v1 σ) →
 (∀ (v1 : Int) (v2 : Int) (v3 : Int) (σ : Mem), (R32 v1 → R32 v2 → R32 v3 → OKm σ →
   ((v3 ≤ 0) →
     R32 (v1 + 1) ∧ P13 (v1 + 1) σ) ∧
    ((0 < v3) →
     (((bAnd v3 v2) = 0) →
      P35 v1 v2 (bAnd (v3 - 1) v1) σ) ∧
     (((bAnd v3 v2) ≠ 0) →
      ∃ g20 : Mem, (nearN g20 σ (g20 10 0) ∧ InvA g20 ∧ (0 ≤ v3 ∧ v3 < 256)) ∧
      ∀ (u25 : Int) (σ24 : Mem), R32 u25 → OKm σ24 → (u25 = (if indS g20 (v3).toNat = true then 1 else 0) ∧ σ24 = σ) →
      ((u25 = 0) →
       P35 v1 v2 (bAnd (v3 - 1) v1) σ24) ∧
      ((u25 ≠ 0) →
       (0 ≤ v1 ∧ v1 < 256) ∧
       (0 ≤ (bXor v1 v3) ∧ (bXor v1 v3) < 256) ∧
       R32 (1 + (σ24 46 (bXor v1 v3))) ∧
       (0 ≤ v1 ∧ v1 < 256) ∧
       ∀ σ32 : Mem, σ32 = mset σ24 46 v1 (min (σ24 46 v1) (1 + (σ24 46 (bXor v1 v3)))) →
       P35 v1 v2 (bAnd (v3 - 1) v1) σ32)))) → P35 v1 v2 v3 σ) →
  ∃ g1 : Mem, ∃ g2 : Nat → Txt, (vwC σ g1 g2) ∧
   ∀ σ6 : Mem, OKm σ6 → (nearN g1 σ6 (g1 10 0) ∧ Fr [45] σ σ6) →
   ∀ σ9 : Mem, σ9 = mset σ6 46 0 0 →
   P13 1 σ9
theorem mt_X4_colourCount {d : Nat} (hd : 2 ≤ d)  {σ : Mem} {Q : Int → Mem → Prop}  (hO : OKm σ) (h : wp_X4_colourCount  σ Q) : Mt yX4_colourCount cX4_colourCount 4 (some .int) d [aR (40)] σ (QI Q) := by
  refine Mt.intro (by decide +kernel) (Nat.le_of_ble_eq_true rfl) [(0, aR (40))] rfl ?_
  unfold wp_X4_colourCount at h
  have h := h (fun (v1 : Int) (σ : Mem) => R32 v1 → OKm σ → G yX4_colourCount cX4_colourCount 4 (some .int) d (QI Q) 13 [(0, aR (40)), (1, aI (v1))] [] σ)
    (fun (v1 : Int) (v2 : Int) (v3 : Int) (σ : Mem) => R32 v1 → R32 v2 → R32 v3 → OKm σ → G yX4_colourCount cX4_colourCount 4 (some .int) d (QI Q) 35 [(0, aR (40)), (1, aI (v1)), (2, aI (v2)), (3, aI (v3))] [] σ) ?_ ?_
  · refine G_aload_n 0 rfl rfl dX4_colourCount_0 ?_
    obtain ⟨g1, g2, c3, h⟩ := h
    refine G_callV (as := []) cf_X4_139 rfl rfl rfl (sp_X4_findNear (d - 1) (by omega) _ hO  g1 g2 c3) (by omega) rfl rfl (Nat.le_of_ble_eq_true rfl) dX4_colourCount_1 ?_
    rintro _ σ6 ⟨rfl, z8⟩ o5 r4
    have h := h _ o5 z8
    refine G_aload_n 0 rfl rfl dX4_colourCount_4 ?_
    refine G_get (k := 7) (kd := (3, 6)) (v := aR (46)) gf_X4_27 rfl rfl rfl rfl dX4_colourCount_5 ?_
    refine G_iconst dX4_colourCount_8 ?_
    refine G_iconst dX4_colourCount_9 ?_
    obtain ⟨σ9, e11⟩ : ∃ τ : Mem, τ = mset σ6 46 0 0 := ⟨_, rfl⟩
    have h := h σ9 e11
    have o10 : OKm σ9 := by rw [e11]; exact OKm.seti o5 _ _ _ (rL 0 rfl) (isLg_row (show shp 46 = (1, 256, []) from rfl) _)
    refine G_iast (n := 256) rfl (by decide) (by decide) dX4_colourCount_10 ?_
    rw [← e11]
    refine G_iconst dX4_colourCount_11 ?_
    refine G_istore_n (lv' := [(1, aI (1)), (0, aR (40))]) rfl rfl (by decide) dX4_colourCount_12 ?_
    exact G_pick [1, 0] rfl (h (rL 1 rfl) o10)
  · intro v1 σ h hv1 hO
    have h := h hv1 hO
    refine G_iload_n 1 rfl rfl dX4_colourCount_13 ?_
    refine G_sipush (by decide) dX4_colourCount_14 ?_
    refine G_icmp_ge hv1 (rL 256 rfl) dX4_colourCount_17 (tgt := 93) (by decide) (fun c12 => ?_) (fun c12 => ?_)
    · have h := h.1 c12
      refine G_aload_n 0 rfl rfl dX4_colourCount_93 ?_
      refine G_get (k := 7) (kd := (3, 6)) (v := aR (46)) gf_X4_27 rfl rfl rfl rfl dX4_colourCount_94 ?_
      refine G_sipush (by decide) dX4_colourCount_97 ?_
      refine G_iald (n := 256) rfl (by decide) (by decide) dX4_colourCount_100 ?_
      exact G_iret rfl (OKm.i hO 46 255 (isLg_row (show shp 46 = (1, 256, []) from rfl) _)) dX4_colourCount_101 ⟨_, rfl, h⟩ hO
    · have h := h.2 c12
      refine G_iload_n 1 rfl rfl dX4_colourCount_20 ?_
      refine G_iload_n 1 rfl rfl dX4_colourCount_21 ?_
      refine G_ineg dX4_colourCount_22 ?_
      refine G_iand dX4_colourCount_23 ?_
      refine G_istore_n (lv' := [(2, aI ((bAnd v1 (-v1)))), (0, aR (40)), (1, aI (v1))]) rfl rfl (by decide) dX4_colourCount_24 ?_
      refine G_aload_n 1 rfl rfl dX4_colourCount_25 ?_
      refine G_get (k := 7) (kd := (3, 6)) (v := aR (46)) gf_X4_27 rfl rfl rfl rfl dX4_colourCount_26 ?_
      refine G_iload_n 2 rfl rfl dX4_colourCount_29 ?_
      refine G_ldc (n := 1000000) rfl (by decide) kc_X4_64 dX4_colourCount_30 ?_
      obtain ⟨c13, h⟩ := h
      obtain ⟨σ14, e16⟩ : ∃ τ : Mem, τ = mset σ 46 v1 1000000 := ⟨_, rfl⟩
      have h := h σ14 e16
      have o15 : OKm σ14 := by rw [e16]; exact OKm.seti hO _ _ _ (rL 1000000 rfl) (isLg_row (show shp 46 = (1, 256, []) from rfl) _)
      refine G_iast (n := 256) rfl c13.1 c13.2 dX4_colourCount_32 ?_
      rw [← e16]
      refine G_iload_n 2 rfl rfl dX4_colourCount_33 ?_
      refine G_istore_n (lv' := [(3, aI (v1)), (2, aI ((bAnd v1 (-v1)))), (0, aR (40)), (1, aI (v1))]) rfl rfl (by decide) dX4_colourCount_34 ?_
      exact G_pick [2, 3, 1, 0] rfl (h hv1 (r32_of _) hv1 o15)
  · intro v1 v2 v3 σ h hv1 hv2 hv3 hO
    have h := h hv1 hv2 hv3 hO
    refine G_iload_n 3 rfl rfl dX4_colourCount_35 ?_
    refine G_if_le hv3 dX4_colourCount_36 (tgt := 87) (by decide) (fun c17 => ?_) (fun c17 => ?_)
    · have h := h.1 c17
      refine G_iinc (lv' := [(1, aI ((v1 + 1))), (0, aR (40)), (2, aI (v2)), (3, aI (v3))]) (k := 1) rfl rfl (by decide) dX4_colourCount_87 ?_
      refine G_goto (tgt := 13) dX4_colourCount_90 (by decide) ?_
      obtain ⟨c18, h⟩ := h
      exact G_pick [1, 0] rfl (h c18 hO)
    · have h := h.2 c17
      refine G_iload_n 3 rfl rfl dX4_colourCount_39 ?_
      refine G_iload_n 2 rfl rfl dX4_colourCount_40 ?_
      refine G_iand dX4_colourCount_41 ?_
      refine G_if_eq (r32_of _) dX4_colourCount_42 (tgt := 78) (by decide) (fun c19 => ?_) (fun c19 => ?_)
      · have h := h.1 c19
        refine G_iload_n 3 rfl rfl dX4_colourCount_78 ?_
        refine G_iconst dX4_colourCount_79 ?_
        refine G_isub dX4_colourCount_80 ?_
        refine G_iload_n 1 rfl rfl dX4_colourCount_81 ?_
        refine G_iand dX4_colourCount_82 ?_
        refine G_istore_n (lv' := [(3, aI ((bAnd (v3 - 1) v1))), (0, aR (40)), (1, aI (v1)), (2, aI (v2))]) rfl rfl (by decide) dX4_colourCount_83 ?_
        refine G_goto (tgt := 35) dX4_colourCount_84 (by decide) ?_
        exact G_pick [1, 2, 3, 0] rfl (h hv1 hv2 (r32_of _) hO)
      · have h := h.2 c19
        refine G_aload_n 0 rfl rfl dX4_colourCount_45 ?_
        refine G_iload_n 3 rfl rfl dX4_colourCount_46 ?_
        obtain ⟨g20, c21, h⟩ := h
        refine G_callV (as := [_]) cf_X4_142 rfl rfl rfl (sp_X4_isRoadless (d - 1) (by omega) _ hO _ hv3 g20 c21) (by omega) rfl rfl (Nat.le_of_ble_eq_true rfl) dX4_colourCount_47 ?_
        rintro _ σ24 ⟨u25, rfl, z26⟩ o23 r22
        have h := h _ _ (r22 _ rfl) o23 z26
        refine G_if_eq (r22 _ rfl) dX4_colourCount_50 (tgt := 78) (by decide) (fun c27 => ?_) (fun c27 => ?_)
        · have h := h.1 c27
          refine G_iload_n 3 rfl rfl dX4_colourCount_78 ?_
          refine G_iconst dX4_colourCount_79 ?_
          refine G_isub dX4_colourCount_80 ?_
          refine G_iload_n 1 rfl rfl dX4_colourCount_81 ?_
          refine G_iand dX4_colourCount_82 ?_
          refine G_istore_n (lv' := [(3, aI ((bAnd (v3 - 1) v1))), (0, aR (40)), (1, aI (v1)), (2, aI (v2))]) rfl rfl (by decide) dX4_colourCount_83 ?_
          refine G_goto (tgt := 35) dX4_colourCount_84 (by decide) ?_
          exact G_pick [1, 2, 3, 0] rfl (h hv1 hv2 (r32_of _) o23)
        · have h := h.2 c27
          refine G_aload_n 0 rfl rfl dX4_colourCount_53 ?_
          refine G_get (k := 7) (kd := (3, 6)) (v := aR (46)) gf_X4_27 rfl rfl rfl rfl dX4_colourCount_54 ?_
          refine G_iload_n 1 rfl rfl dX4_colourCount_57 ?_
          refine G_aload_n 0 rfl rfl dX4_colourCount_58 ?_
          refine G_get (k := 7) (kd := (3, 6)) (v := aR (46)) gf_X4_27 rfl rfl rfl rfl dX4_colourCount_59 ?_
          refine G_iload_n 1 rfl rfl dX4_colourCount_62 ?_
          obtain ⟨c28, h⟩ := h
          refine G_iald (n := 256) rfl c28.1 c28.2 dX4_colourCount_63 ?_
          refine G_iconst dX4_colourCount_64 ?_
          refine G_aload_n 0 rfl rfl dX4_colourCount_65 ?_
          refine G_get (k := 7) (kd := (3, 6)) (v := aR (46)) gf_X4_27 rfl rfl rfl rfl dX4_colourCount_66 ?_
          refine G_iload_n 1 rfl rfl dX4_colourCount_69 ?_
          refine G_iload_n 3 rfl rfl dX4_colourCount_70 ?_
          refine G_ixor dX4_colourCount_71 ?_
          obtain ⟨c29, h⟩ := h
          refine G_iald (n := 256) rfl c29.1 c29.2 dX4_colourCount_72 ?_
          refine G_iadd dX4_colourCount_73 ?_
          obtain ⟨c30, h⟩ := h
          refine G_mmin rfl (OKm.i o23 46 v1 (isLg_row (show shp 46 = (1, 256, []) from rfl) _)) c30 (Nat.le_of_ble_eq_true rfl) sf_X4_80 dX4_colourCount_74 ?_
          obtain ⟨c31, h⟩ := h
          obtain ⟨σ32, e34⟩ : ∃ τ : Mem, τ = mset σ24 46 v1 (min (σ24 46 v1) (1 + (σ24 46 (bXor v1 v3)))) := ⟨_, rfl⟩
          have h := h σ32 e34
          have o33 : OKm σ32 := by rw [e34]; exact OKm.seti o23 _ _ _ (r32_min (OKm.i o23 46 v1 (isLg_row (show shp 46 = (1, 256, []) from rfl) _)) c30) (isLg_row (show shp 46 = (1, 256, []) from rfl) _)
          refine G_iast (n := 256) rfl c31.1 c31.2 dX4_colourCount_77 ?_
          rw [← e34]
          refine G_iload_n 3 rfl rfl dX4_colourCount_78 ?_
          refine G_iconst dX4_colourCount_79 ?_
          refine G_isub dX4_colourCount_80 ?_
          refine G_iload_n 1 rfl rfl dX4_colourCount_81 ?_
          refine G_iand dX4_colourCount_82 ?_
          refine G_istore_n (lv' := [(3, aI ((bAnd (v3 - 1) v1))), (0, aR (40)), (1, aI (v1)), (2, aI (v2))]) rfl rfl (by decide) dX4_colourCount_83 ?_
          refine G_goto (tgt := 35) dX4_colourCount_84 (by decide) ?_
          exact G_pick [1, 2, 3, 0] rfl (h hv1 hv2 (r32_of _) o33)

theorem sp_X4_colourCount (d : Nat) (hd : 2 ≤ d) (σ : Mem) (hO : OKm σ) (A : Mem) (tx : Nat → Txt) (hpre : vwC σ A tx) : Mt yX4_colourCount cX4_colourCount 4 (some .int) d [aR (40)] σ (QI (fun v σ' => v = colS A ∧ Fr [45, 46] σ σ')) := mt_X4_colourCount hd  hO (by
  unfold wp_X4_colourCount
  intro P13 P35 h13 h35
  have hV := hpre
  have hI := hV.2.2.1
  have rng := colF_r hI
  refine ⟨A, tx, hV, ?_⟩
  intro σ6 o6 ⟨q6, f6⟩ σ9 e9
  have nearOK : ∀ τ : Mem, Fr [46] σ6 τ → nearN A τ (A 10 0) := fun τ hf => by
    unfold nearN; rw [hf 45 (by simp)]; exact q6
  have H35 : ∀ (s : Nat), 0 < s → s < 256 → (∀ τ : Mem, (∀ x : Nat, x ≤ s → τ 46 (x : Int) = colF A x) → Fr [46] σ6 τ → R32 ((s : Int) + 1) ∧ P13 ((s : Int) + 1) τ) → ∀ (n p : Nat) (τ : Mem), p < n → subB p s = true → τ 46 (s : Int) = mcD A (colF A) s (s - p) → (∀ x : Nat, x < s → τ 46 (x : Int) = colF A x) → Fr [46] σ6 τ → P35 (s : Int) (bAnd (s : Int) (-(s : Int))) (p : Int) τ := by
    intro s hs0 hs hnext n
    induction n with
    | zero => intro p τ hp; omega
    | succ n ih =>
      intro p τ hp hsub hcur htab hF
      have hps := sub_le hsub
      obtain ⟨hl1, hl2⟩ := lowI hs (by omega)
      by_cases h0 : p = 0
      · subst h0
        refine h35 _ _ _ _ (fun _ _ _ _ => ⟨fun _ => hnext τ (fun x hx => ?_) hF, fun h => absurd h (by omega)⟩)
        by_cases e : x = s
        · subst e
          rw [hcur, Nat.sub_zero, colF_ok A x hs, if_neg (by omega)]
        · exact htab x (by omega)
      · have hnp : (p - 1) &&& s < p := by
          have := @Nat.and_le_left (p - 1) s
          omega
        have hnle : (p - 1) &&& s ≤ s := Nat.and_le_right
        have step : ∀ τ' : Mem, τ' 46 (s : Int) = mcD A (colF A) s (s - p + 1) → (∀ x : Nat, x < s → τ' 46 (x : Int) = colF A x) → Fr [46] σ6 τ' → P35 (s : Int) (bAnd (s : Int) (-(s : Int))) (bAnd ((p : Int) - 1) (s : Int)) τ' := fun τ' hc ht hf => by
          rw [sub1_and hs hps h0]
          refine ih _ τ' (by omega) (and_sub _ _) ?_ ht hf
          rw [hc]
          exact (mcD_skip (by omega) hsub h0 _ (by omega) (Nat.le_refl _)).symm
        have htb : tbt (p : Int) ((lowN 16 s : Nat) : Int) = p.testBit (lowN 16 s) := by unfold tbt; rw [Int.toNat_natCast, Int.toNat_natCast]
        have es := mcD_s (A := A) (F := colF A) hps h0 hsub
        refine h35 _ _ _ _ (fun _ _ _ _ => ⟨fun h => absurd h (by omega), fun _ => ⟨fun hz => ?_, fun hz => ⟨A, ⟨nearOK τ hF, hI, by omega⟩, ?_⟩⟩⟩)
        · rw [hl1, and_low (by omega) (by omega), htb] at hz
          refine step τ ?_ htab hF
          rw [es, if_neg (fun q => by rw [hz] at q; simp at q)]; exact hcur
        · have hz2 : p.testBit (lowN 16 s) = true := by
            cases hq : p.testBit (lowN 16 s) with
            | true => rfl
            | false =>
              exfalso
              apply hz
              rw [hl1, and_low (by omega) (by omega), htb]; exact hq
          intro u σ1 hu hO1 ⟨eu, e1⟩
          subst e1
          rw [Int.toNat_natCast] at eu
          cases hi : indS A p with
          | false =>
            rw [hi] at eu
            refine ⟨fun _ => step σ1 ?_ htab hF, fun h => absurd (by simpa using eu) h⟩
            rw [es, if_neg (fun q => by rw [hi] at q; simp at q)]; exact hcur
          | true =>
            rw [hi, if_pos rfl] at eu
            have hdl := dif_lt (s := s) (p := p) (by omega) hsub h0
            have hr := rng 256 (dif s p) (by omega) (by omega)
            rw [xor_dif hs hsub, htab _ hdl, hcur]
            refine ⟨fun h => absurd h (by omega), fun _ => ⟨by omega, by omega, by unfold R32; omega, by omega, fun σ32 e32 => step σ32 ?_ (fun x hx => ?_) (by rw [e32]; exact hF.set (by simp))⟩⟩
            · rw [e32, mset_hit rfl, es, if_pos ⟨hz2, hi⟩]
            · rw [e32, mset_miss (by omega)]; exact htab x hx
  have H13 : ∀ (n s : Nat) (τ : Mem), s + n = 256 → 0 < s → (∀ x : Nat, x < s → τ 46 (x : Int) = colF A x) → Fr [46] σ6 τ → P13 (s : Int) τ := by
    intro n
    induction n with
    | zero =>
      intro s τ hs hs0 ht hF
      have : s = 256 := by omega
      subst this
      refine h13 _ _ (fun _ _ => ⟨fun _ => ⟨ht 255 (by omega), (f6.wk (by simp)).tr (hF.wk (by simp))⟩, fun h => absurd h (by omega)⟩)
    | succ n ih =>
      intro s τ hs hs0 ht hF
      refine h13 _ _ (fun _ _ => ⟨fun h => absurd h (by omega), fun _ => ⟨by omega, fun σ14 e14 => ?_⟩⟩)
      refine H35 s hs0 (by omega) (fun τ' ht' hF' => ⟨by unfold R32; omega, ih (s + 1) τ' (by omega) (by omega) (fun x hx => ht' x (by omega)) hF'⟩) (s + 1) s σ14 (by omega) (sub_of (fun i hi => hi)) ?_ (fun x hx => ?_) (by rw [e14]; exact hF.set (by simp))
      · rw [e14, mset_hit rfl, Nat.sub_self]; rfl
      · rw [e14, mset_miss (by omega)]; exact ht x hx
  refine H13 255 1 σ9 (by omega) (by omega) (fun x hx => ?_) (by rw [e9]; exact (Fr.rf _ _).set (by simp))
  have : x = 0 := by omega
  subst this
  have e0 := colF_ok A 0 (by omega)
  rw [if_pos rfl] at e0
  rw [e9, e0]; exact mset_hit rfl)

def wp_X11_colours  (σ : Mem) (Q : Int → Mem → Prop) : Prop :=
  ∃ g1 : Mem, ∃ g2 : Nat → Txt, (vwC σ g1 g2) ∧
   ∀ (u7 : Int) (σ6 : Mem), R32 u7 → OKm σ6 → (u7 = colS g1 ∧ Fr [45, 46] σ σ6) →
   Q u7 σ6
theorem mt_X11_colours {d : Nat} (hd : 3 ≤ d)  {σ : Mem} {Q : Int → Mem → Prop}  (hO : OKm σ) (h : wp_X11_colours  σ Q) : Mt yX11_colours cX11_colours 1 (some .int) d [aR (0)] σ (QI Q) := by
  refine Mt.intro (by decide +kernel) (Nat.le_of_ble_eq_true rfl) [(0, aR (0))] rfl ?_
  unfold wp_X11_colours at h
  refine G_aload_n 0 rfl rfl dX11_colours_0 ?_
  refine G_get (k := 11) (kd := (2, 40)) (v := aR 40) gf_X11_85 rfl rfl rfl rfl dX11_colours_1 ?_
  obtain ⟨g1, g2, c3, h⟩ := h
  refine G_callV (as := []) cf_X11_315 rfl rfl rfl (sp_X4_colourCount (d - 1) (by omega) _ hO  g1 g2 c3) (by omega) rfl rfl (Nat.le_of_ble_eq_true rfl) dX11_colours_4 ?_
  rintro _ σ6 ⟨u7, rfl, z8⟩ o5 r4
  have h := h _ _ (r4 _ rfl) o5 z8
  exact G_iret rfl (r4 _ rfl) dX11_colours_7 ⟨_, rfl, h⟩ o5

theorem sp_X11_colours (d : Nat) (hd : 3 ≤ d) (σ : Mem) (hO : OKm σ) (A : Mem) (tx : Nat → Txt) (hpre : vwC σ A tx) : Mt yX11_colours cX11_colours 1 (some .int) d [aR (0)] σ (QI (fun v σ' => v = colS A ∧ Fr ScrC σ σ')) := mt_X11_colours hd  hO (by
  unfold wp_X11_colours
  refine ⟨A, tx, hpre, ?_⟩
  intro u σ1 hu hO1 ⟨eu, hF⟩
  exact ⟨eu, hF.wk (by simp)⟩)

theorem wt_ind {A : Mem} (hI : InvA A) {p : Nat} (hp : p < 256) : wtS A (bAnd 255 (bXor (p : Int) (-1))) = indS A p := by
  have hb := fun t => tb_not (s := 255) (u := (p : Int)) (t := t) (by omega) (by omega)
  have e255 : ∀ t : Int, 0 ≤ t → t ≤ 7 → tbt 255 t = true := fun t h0 h7 => by
    have : ∀ k : Nat, k < 8 → tbt 255 (k : Int) = true := by decide
    have := this t.toNat (by omega)
    rw [show ((t.toNat : Nat) : Int) = t by omega] at this; exact this
  have htp : ∀ t : Int, tbt (p : Int) t = p.testBit t.toNat := fun t => by unfold tbt; rw [Int.toNat_natCast]
  have key : ∀ n : Nat, (n : Int) ≤ A 10 0 → wtN A (bAnd 255 (bXor (p : Int) (-1))) n = inN A p n := by
    intro n
    induction n with
    | zero => intro _; rfl
    | succ n ih =>
      intro hn
      have hl := hI.2.1 (n : Int) (by omega) (by omega)
      unfold wtN inN
      rw [ih (by omega), (hb _).2, (hb _).2, e255 _ (by omega) (by omega), e255 _ (by omega) (by omega), htp, htp]
      cases netB A (n : Int) <;> cases p.testBit (A 11 (n : Int)).toNat <;> cases p.testBit (A 12 (n : Int)).toNat <;> rfl
  exact key _ (by have := hI.1; omega)

def wp_X12_colours  (σ : Mem) (Q : Int → Mem → Prop) : Prop :=
 ∀ P13 : Int → Int → Mem → Prop,
 ∀ P28 : Int → Int → Int → Mem → Prop,
 (∀ (v1 : Int) (v2 : Int) (σ : Mem), (R32 v1 → R32 v2 → OKm σ →
   ((v1 < v2) →
     (0 ≤ v1 ∧ v1 < 256) ∧
     Q (σ 87 v1) σ) ∧
    ((v2 ≤ v1) →
     (0 ≤ v2 ∧ v2 < 256) ∧
     ∀ σ7 : Mem, σ7 = mset σ 87 v2 8 →
     P28 v1 v2 v2 σ7)) → P13 v1 v2 σ) →
 (∀ (v1 : Int) (v2 : Int) (v3 : Int) (σ : Mem), (R32 v1 → R32 v2 → R32 v3 → OKm σ →
   ((v3 ≤ 0) →
     R32 (v2 + 1) ∧ P13 v1 (v2 + 1) σ) ∧
    ((0 < v3) →
     ∃ g12 : Mem, ∃ g13 : Nat → Txt, (vwM σ g12 g13 ∧ (0 ≤ (bAnd v1 (bXor v3 (-1))) ∧ (bAnd v1 (bXor v3 (-1))) < 65536)) ∧
     ∀ (u18 : Int) (σ17 : Mem), R32 u18 → OKm σ17 → (u18 = (if wtS g12 (bAnd v1 (bXor v3 (-1))) = true then 1 else 0) ∧ σ17 = σ) →
     ((u18 = 0) →
      P28 v1 v2 (bAnd (v3 - 1) v2) σ17) ∧
     ((u18 ≠ 0) →
      (0 ≤ (bAnd v2 (bXor v3 (-1))) ∧ (bAnd v2 (bXor v3 (-1))) < 256) ∧
      (0 ≤ v2 ∧ v2 < 256) ∧
      R32 ((σ17 87 (bAnd v2 (bXor v3 (-1)))) + 1) ∧
      (((σ17 87 v2) ≤ ((σ17 87 (bAnd v2 (bXor v3 (-1)))) + 1)) →
       P28 v1 v2 (bAnd (v3 - 1) v2) σ17) ∧
      ((((σ17 87 (bAnd v2 (bXor v3 (-1)))) + 1) < (σ17 87 v2)) →
       (0 ≤ (bAnd v2 (bXor v3 (-1))) ∧ (bAnd v2 (bXor v3 (-1))) < 256) ∧
       (0 ≤ v2 ∧ v2 < 256) ∧
       R32 ((σ17 87 (bAnd v2 (bXor v3 (-1)))) + 1) ∧
       ∀ σ28 : Mem, σ28 = mset σ17 87 v2 ((σ17 87 (bAnd v2 (bXor v3 (-1)))) + 1) →
       P28 v1 v2 (bAnd (v3 - 1) v2) σ28)))) → P28 v1 v2 v3 σ) →
  ∀ σ1 : Mem, σ1 = mset σ 87 0 0 →
   P13 255 1 σ1
theorem mt_X12_colours {d : Nat} (hd : 2 ≤ d)  {σ : Mem} {Q : Int → Mem → Prop}  (hO : OKm σ) (h : wp_X12_colours  σ Q) : Mt yX12_colours cX12_colours 4 (some .int) d [aR (74)] σ (QI Q) := by
  refine Mt.intro (by decide +kernel) (Nat.le_of_ble_eq_true rfl) [(0, aR (74))] rfl ?_
  unfold wp_X12_colours at h
  have h := h (fun (v1 : Int) (v2 : Int) (σ : Mem) => R32 v1 → R32 v2 → OKm σ → G yX12_colours cX12_colours 4 (some .int) d (QI Q) 13 [(0, aR (74)), (1, aI (v1)), (2, aI (v2))] [] σ)
    (fun (v1 : Int) (v2 : Int) (v3 : Int) (σ : Mem) => R32 v1 → R32 v2 → R32 v3 → OKm σ → G yX12_colours cX12_colours 4 (some .int) d (QI Q) 28 [(0, aR (74)), (1, aI (v1)), (2, aI (v2)), (3, aI (v3))] [] σ) ?_ ?_
  · refine G_aload_n 0 rfl rfl dX12_colours_0 ?_
    refine G_get (k := 29) (kd := (2, 87)) (v := aR 87) gf_X12_59 rfl rfl rfl rfl dX12_colours_1 ?_
    refine G_iconst dX12_colours_4 ?_
    refine G_iconst dX12_colours_5 ?_
    obtain ⟨σ1, e3⟩ : ∃ τ : Mem, τ = mset σ 87 0 0 := ⟨_, rfl⟩
    have h := h σ1 e3
    have o2 : OKm σ1 := by rw [e3]; exact OKm.seti hO _ _ _ (rL 0 rfl) (isLg_row (show shp 87 = (1, 256, []) from rfl) _)
    refine G_iast (n := 256) rfl (by decide) (by decide) dX12_colours_6 ?_
    rw [← e3]
    refine G_sipush (by decide) dX12_colours_7 ?_
    refine G_istore_n (lv' := [(1, aI (255)), (0, aR (74))]) rfl rfl (by decide) dX12_colours_10 ?_
    refine G_iconst dX12_colours_11 ?_
    refine G_istore_n (lv' := [(2, aI (1)), (1, aI (255)), (0, aR (74))]) rfl rfl (by decide) dX12_colours_12 ?_
    exact G_pick [2, 1, 0] rfl (h (rL 255 rfl) (rL 1 rfl) o2)
  · intro v1 v2 σ h hv1 hv2 hO
    have h := h hv1 hv2 hO
    refine G_iload_n 2 rfl rfl dX12_colours_13 ?_
    refine G_iload_n 1 rfl rfl dX12_colours_14 ?_
    refine G_icmp_gt hv2 hv1 dX12_colours_15 (tgt := 98) (by decide) (fun c4 => ?_) (fun c4 => ?_)
    · have h := h.1 c4
      refine G_aload_n 0 rfl rfl dX12_colours_98 ?_
      refine G_get (k := 29) (kd := (2, 87)) (v := aR 87) gf_X12_59 rfl rfl rfl rfl dX12_colours_99 ?_
      refine G_iload_n 1 rfl rfl dX12_colours_102 ?_
      obtain ⟨c5, h⟩ := h
      refine G_iald (n := 256) rfl c5.1 c5.2 dX12_colours_103 ?_
      exact G_iret rfl (OKm.i hO 87 v1 (isLg_row (show shp 87 = (1, 256, []) from rfl) _)) dX12_colours_104 ⟨_, rfl, h⟩ hO
    · have h := h.2 c4
      refine G_aload_n 0 rfl rfl dX12_colours_18 ?_
      refine G_get (k := 29) (kd := (2, 87)) (v := aR 87) gf_X12_59 rfl rfl rfl rfl dX12_colours_19 ?_
      refine G_iload_n 2 rfl rfl dX12_colours_22 ?_
      refine G_bipush (by decide) dX12_colours_23 ?_
      obtain ⟨c6, h⟩ := h
      obtain ⟨σ7, e9⟩ : ∃ τ : Mem, τ = mset σ 87 v2 8 := ⟨_, rfl⟩
      have h := h σ7 e9
      have o8 : OKm σ7 := by rw [e9]; exact OKm.seti hO _ _ _ (rL 8 rfl) (isLg_row (show shp 87 = (1, 256, []) from rfl) _)
      refine G_iast (n := 256) rfl c6.1 c6.2 dX12_colours_25 ?_
      rw [← e9]
      refine G_iload_n 2 rfl rfl dX12_colours_26 ?_
      refine G_istore_n (lv' := [(3, aI (v2)), (0, aR (74)), (1, aI (v1)), (2, aI (v2))]) rfl rfl (by decide) dX12_colours_27 ?_
      exact G_pick [1, 2, 3, 0] rfl (h hv1 hv2 hv2 o8)
  · intro v1 v2 v3 σ h hv1 hv2 hv3 hO
    have h := h hv1 hv2 hv3 hO
    refine G_iload_n 3 rfl rfl dX12_colours_28 ?_
    refine G_if_le hv3 dX12_colours_29 (tgt := 92) (by decide) (fun c10 => ?_) (fun c10 => ?_)
    · have h := h.1 c10
      refine G_iinc (lv' := [(2, aI ((v2 + 1))), (0, aR (74)), (1, aI (v1)), (3, aI (v3))]) (k := 2) rfl rfl (by decide) dX12_colours_92 ?_
      refine G_goto (tgt := 13) dX12_colours_95 (by decide) ?_
      obtain ⟨c11, h⟩ := h
      exact G_pick [1, 2, 0] rfl (h hv1 c11 hO)
    · have h := h.2 c10
      refine G_aload_n 0 rfl rfl dX12_colours_32 ?_
      refine G_iload_n 1 rfl rfl dX12_colours_33 ?_
      refine G_iload_n 3 rfl rfl dX12_colours_34 ?_
      refine G_iconst dX12_colours_35 ?_
      refine G_ixor dX12_colours_36 ?_
      refine G_iand dX12_colours_37 ?_
      obtain ⟨g12, g13, c14, h⟩ := h
      refine G_callV (as := [_]) cf_X12_449 rfl rfl rfl (sp_X12_isWatched (d - 1) (by omega) _ hO _ (r32_of _) g12 g13 c14) (by omega) rfl rfl (Nat.le_of_ble_eq_true rfl) dX12_colours_38 ?_
      rintro _ σ17 ⟨u18, rfl, z19⟩ o16 r15
      have h := h _ _ (r15 _ rfl) o16 z19
      refine G_if_eq (r15 _ rfl) dX12_colours_41 (tgt := 83) (by decide) (fun c20 => ?_) (fun c20 => ?_)
      · have h := h.1 c20
        refine G_iload_n 3 rfl rfl dX12_colours_83 ?_
        refine G_iconst dX12_colours_84 ?_
        refine G_isub dX12_colours_85 ?_
        refine G_iload_n 2 rfl rfl dX12_colours_86 ?_
        refine G_iand dX12_colours_87 ?_
        refine G_istore_n (lv' := [(3, aI ((bAnd (v3 - 1) v2))), (0, aR (74)), (1, aI (v1)), (2, aI (v2))]) rfl rfl (by decide) dX12_colours_88 ?_
        refine G_goto (tgt := 28) dX12_colours_89 (by decide) ?_
        exact G_pick [1, 2, 3, 0] rfl (h hv1 hv2 (r32_of _) o16)
      · have h := h.2 c20
        refine G_aload_n 0 rfl rfl dX12_colours_44 ?_
        refine G_get (k := 29) (kd := (2, 87)) (v := aR 87) gf_X12_59 rfl rfl rfl rfl dX12_colours_45 ?_
        refine G_iload_n 2 rfl rfl dX12_colours_48 ?_
        refine G_iload_n 3 rfl rfl dX12_colours_49 ?_
        refine G_iconst dX12_colours_50 ?_
        refine G_ixor dX12_colours_51 ?_
        refine G_iand dX12_colours_52 ?_
        obtain ⟨c21, h⟩ := h
        refine G_iald (n := 256) rfl c21.1 c21.2 dX12_colours_53 ?_
        refine G_iconst dX12_colours_54 ?_
        refine G_iadd dX12_colours_55 ?_
        refine G_aload_n 0 rfl rfl dX12_colours_56 ?_
        refine G_get (k := 29) (kd := (2, 87)) (v := aR 87) gf_X12_59 rfl rfl rfl rfl dX12_colours_57 ?_
        refine G_iload_n 2 rfl rfl dX12_colours_60 ?_
        obtain ⟨c22, h⟩ := h
        refine G_iald (n := 256) rfl c22.1 c22.2 dX12_colours_61 ?_
        obtain ⟨c23, h⟩ := h
        refine G_icmp_ge c23 (OKm.i o16 87 v2 (isLg_row (show shp 87 = (1, 256, []) from rfl) _)) dX12_colours_62 (tgt := 83) (by decide) (fun c24 => ?_) (fun c24 => ?_)
        · have h := h.1 c24
          refine G_iload_n 3 rfl rfl dX12_colours_83 ?_
          refine G_iconst dX12_colours_84 ?_
          refine G_isub dX12_colours_85 ?_
          refine G_iload_n 2 rfl rfl dX12_colours_86 ?_
          refine G_iand dX12_colours_87 ?_
          refine G_istore_n (lv' := [(3, aI ((bAnd (v3 - 1) v2))), (0, aR (74)), (1, aI (v1)), (2, aI (v2))]) rfl rfl (by decide) dX12_colours_88 ?_
          refine G_goto (tgt := 28) dX12_colours_89 (by decide) ?_
          exact G_pick [1, 2, 3, 0] rfl (h hv1 hv2 (r32_of _) o16)
        · have h := h.2 c24
          refine G_aload_n 0 rfl rfl dX12_colours_65 ?_
          refine G_get (k := 29) (kd := (2, 87)) (v := aR 87) gf_X12_59 rfl rfl rfl rfl dX12_colours_66 ?_
          refine G_iload_n 2 rfl rfl dX12_colours_69 ?_
          refine G_aload_n 0 rfl rfl dX12_colours_70 ?_
          refine G_get (k := 29) (kd := (2, 87)) (v := aR 87) gf_X12_59 rfl rfl rfl rfl dX12_colours_71 ?_
          refine G_iload_n 2 rfl rfl dX12_colours_74 ?_
          refine G_iload_n 3 rfl rfl dX12_colours_75 ?_
          refine G_iconst dX12_colours_76 ?_
          refine G_ixor dX12_colours_77 ?_
          refine G_iand dX12_colours_78 ?_
          obtain ⟨c25, h⟩ := h
          refine G_iald (n := 256) rfl c25.1 c25.2 dX12_colours_79 ?_
          refine G_iconst dX12_colours_80 ?_
          refine G_iadd dX12_colours_81 ?_
          obtain ⟨c26, h⟩ := h
          obtain ⟨c27, h⟩ := h
          obtain ⟨σ28, e30⟩ : ∃ τ : Mem, τ = mset σ17 87 v2 ((σ17 87 (bAnd v2 (bXor v3 (-1)))) + 1) := ⟨_, rfl⟩
          have h := h σ28 e30
          have o29 : OKm σ28 := by rw [e30]; exact OKm.seti o16 _ _ _ c27 (isLg_row (show shp 87 = (1, 256, []) from rfl) _)
          refine G_iast (n := 256) rfl c26.1 c26.2 dX12_colours_82 ?_
          rw [← e30]
          refine G_iload_n 3 rfl rfl dX12_colours_83 ?_
          refine G_iconst dX12_colours_84 ?_
          refine G_isub dX12_colours_85 ?_
          refine G_iload_n 2 rfl rfl dX12_colours_86 ?_
          refine G_iand dX12_colours_87 ?_
          refine G_istore_n (lv' := [(3, aI ((bAnd (v3 - 1) v2))), (0, aR (74)), (1, aI (v1)), (2, aI (v2))]) rfl rfl (by decide) dX12_colours_88 ?_
          refine G_goto (tgt := 28) dX12_colours_89 (by decide) ?_
          exact G_pick [1, 2, 3, 0] rfl (h hv1 hv2 (r32_of _) o29)

theorem sp_X12_colours (d : Nat) (hd : 2 ≤ d) (σ : Mem) (hO : OKm σ) (A : Mem) (tx : Nat → Txt) (hpre : vwM σ A tx) : Mt yX12_colours cX12_colours 4 (some .int) d [aR (74)] σ (QI (fun v σ' => v = colS A ∧ vwM σ' A tx ∧ Fr [87] σ σ')) := mt_X12_colours hd  hO (by
  unfold wp_X12_colours
  intro P13 P28 h13 h28
  have hV := hpre
  have hI := hV.2.2.1
  have rng := colF_r hI
  have hM := colF_M hI
  have key : ∀ τ : Mem, Fr [87] σ τ → vwM τ A tx := fun τ hf => hV.fr (hf.wk (by simp))
  intro σ1 e1
  have H28 : ∀ (s : Nat), 0 < s → s < 256 → (∀ τ : Mem, (∀ x : Nat, x ≤ s → τ 87 (x : Int) = colF A x) → Fr [87] σ τ → R32 ((s : Int) + 1) ∧ P13 255 ((s : Int) + 1) τ) → ∀ (n p : Nat) (τ : Mem), p < n → subB p s = true → τ 87 (s : Int) = mnD A (colF A) s (s - p) → (∀ x : Nat, x < s → τ 87 (x : Int) = colF A x) → Fr [87] σ τ → P28 255 (s : Int) (p : Int) τ := by
    intro s hs0 hs hnext n
    induction n with
    | zero => intro p τ hp; omega
    | succ n ih =>
      intro p τ hp hsub hcur htab hF
      have hps := sub_le hsub
      by_cases h0 : p = 0
      · subst h0
        refine h28 _ _ _ _ (fun _ _ _ _ => ⟨fun _ => hnext τ (fun x hx => ?_) hF, fun h => absurd h (by omega)⟩)
        by_cases e : x = s
        · subst e
          rw [hcur, Nat.sub_zero, hM x hs, if_neg (by omega)]
        · exact htab x (by omega)
      · have hnp : (p - 1) &&& s < p := by
          have := @Nat.and_le_left (p - 1) s
          omega
        have hnle : (p - 1) &&& s ≤ s := Nat.and_le_right
        have step : ∀ τ' : Mem, τ' 87 (s : Int) = mnD A (colF A) s (s - p + 1) → (∀ x : Nat, x < s → τ' 87 (x : Int) = colF A x) → Fr [87] σ τ' → P28 255 (s : Int) (bAnd ((p : Int) - 1) (s : Int)) τ' := fun τ' hc ht hf => by
          rw [sub1_and hs hps h0]
          refine ih _ τ' (by omega) (and_sub _ _) ?_ ht hf
          rw [hc]
          exact (mnD_skip (by omega) hsub h0 _ (by omega) (Nat.le_refl _)).symm
        have es := mnD_s (A := A) (F := colF A) hps h0 hsub
        have hb := tb_not (s := 255) (u := (p : Int)) (t := 0) (by omega) (by omega)
        refine h28 _ _ _ _ (fun _ _ _ _ => ⟨fun h => absurd h (by omega), fun _ => ⟨A, tx, ⟨key τ hF, by omega⟩, ?_⟩⟩)
        intro u σ2 hu hO2 ⟨eu, e2⟩
        subst e2
        rw [wt_ind hI (by omega)] at eu
        cases hi : indS A p with
        | false =>
          rw [hi] at eu
          refine ⟨fun _ => step σ2 ?_ htab hF, fun h => absurd (by simpa using eu) h⟩
          rw [es, if_neg (by rw [hi]; simp)]; exact hcur
        | true =>
          rw [hi, if_pos rfl] at eu
          have hdl := dif_lt (s := s) (p := p) (by omega) hsub h0
          have hr := rng 256 (dif s p) (by omega) (by omega)
          rw [not_dif hs (by omega), htab _ hdl, hcur]
          rw [if_pos hi] at es
          refine ⟨fun h => absurd h (by omega), fun _ => ⟨by omega, by omega, by unfold R32; omega, fun hle => step σ2 ?_ htab hF, fun hlt => ⟨by omega, by omega, by unfold R32; omega, fun σ28 e28 => step σ28 ?_ (fun x hx => ?_) (by rw [e28]; exact hF.set (by simp))⟩⟩⟩
          · rw [hcur, es]; omega
          · rw [e28, mset_hit rfl, es]; omega
          · rw [e28, mset_miss (by omega)]; exact htab x hx
  have H13 : ∀ (n s : Nat) (τ : Mem), s + n = 256 → 0 < s → (∀ x : Nat, x < s → τ 87 (x : Int) = colF A x) → Fr [87] σ τ → P13 255 (s : Int) τ := by
    intro n
    induction n with
    | zero =>
      intro s τ hs hs0 ht hF
      have : s = 256 := by omega
      subst this
      refine h13 _ _ _ (fun _ _ _ => ⟨fun _ => ⟨by omega, ht 255 (by omega), key τ hF, hF⟩, fun h => absurd h (by omega)⟩)
    | succ n ih =>
      intro s τ hs hs0 ht hF
      refine h13 _ _ _ (fun _ _ _ => ⟨fun h => absurd h (by omega), fun _ => ⟨by omega, fun σ14 e14 => ?_⟩⟩)
      refine H28 s hs0 (by omega) (fun τ' ht' hF' => ⟨by unfold R32; omega, ih (s + 1) τ' (by omega) (by omega) (fun x hx => ht' x (by omega)) hF'⟩) (s + 1) s σ14 (by omega) (sub_of (fun i hi => hi)) ?_ (fun x hx => ?_) (by rw [e14]; exact hF.set (by simp))
      · rw [e14, mset_hit rfl, Nat.sub_self]; rfl
      · rw [e14, mset_miss (by omega)]; exact ht x hx
  refine H13 255 1 σ1 (by omega) (by omega) (fun x hx => ?_) (by rw [e1]; exact (Fr.rf _ _).set (by simp))
  have : x = 0 := by omega
  subst this
  have e0 := colF_ok A 0 (by omega)
  rw [if_pos rfl] at e0
  rw [e1, e0]; exact mset_hit rfl)
