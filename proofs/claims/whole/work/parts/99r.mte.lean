def rtF (σ σ' : Mem) (ti : Int) : Prop := Fr [74, 77, 79] σ σ' ∧ (∀ j : Int, (j < 7 ∨ j = 15 ∨ 20 ≤ j) → σ' 74 j = σ 74 j) ∧ ∀ j : Int, (j < 729 * ti ∨ 729 * ti + 729 ≤ j) → σ' 77 j = σ 77 j
theorem rtF.cl {σ σ' σ'' : Mem} {ti : Int} (h1 : rtF σ σ' ti) (h2 : clF σ' σ'' ti) : rtF σ σ'' ti := ⟨h1.1.tr h2.1, fun j q => (h2.2.1 j (by omega)).trans (h1.2.1 j q), fun j q => (h2.2.2 j q).trans (h1.2.2 j q)⟩
def rtA (b : Int → Int) (N ti : Int) (σ σ' : Mem) (v : Int) (r : XR) : Prop := match r with
  | .inl e => v = e.1 ∧ 1 ≤ v ∧ σ' 74 8 = ps b N e.2 ∧ rtF σ σ' ti
  | .inr T => v = 0 ∧ textM σ' ti T ∧ rtF σ σ' ti
theorem rtA.E {b : Int → Int} {N ti : Int} {σ σ' : Mem} {v : Int} {r : XR} {e : Int × Nat} (hr : r = .inl e) (h1 : v = e.1) (h2 : 1 ≤ v) (h3 : σ' 74 8 = ps b N e.2) (h4 : rtF σ σ' ti) : rtA b N ti σ σ' v r := by subst hr; exact ⟨h1, h2, h3, h4⟩
theorem rtA.O {b : Int → Int} {N ti : Int} {σ σ' : Mem} {v : Int} {r : XR} {T : Txt} (hr : r = .inr T) (h1 : v = 0) (h2 : textM σ' ti T) (h4 : rtF σ σ' ti) : rtA b N ti σ σ' v r := by subst hr; exact ⟨h1, h2, h4⟩

def wp_X12_readText  (σ : Mem) (Q : Int → Mem → Prop) : Prop :=
 ∀ P43 : Mem → Prop,
 (∀  (σ : Mem), (OKm σ →
   (((σ 74 9) = 0) →
     Q 0 σ) ∧
    (((σ 74 9) ≠ 0) →
     ∃ g27 : Int → Int, ∃ g28 : Int, ∃ g29 : Int, ∃ g30 : Txt, ∃ g31 : Nat, (txS σ g27 g28 g29 g30 g31) ∧
     ∀ (u36 : Int) (σ35 : Mem), R32 u36 → OKm σ35 → (clA g27 g28 g29 g30 σ σ35 u36 (pCl (kd g27 g28) (nu g27 g28) g30 g31)) →
     ((u36 = 0) →
      P43 σ35) ∧
     ((u36 ≠ 0) →
      Q u36 σ35))) → P43  σ) →
  R32 (729 * (σ 75 2)) ∧
   ∀ σ1 : Mem, σ1 = mset σ 74 12 (729 * (σ 75 2)) →
   (0 ≤ (σ1 74 12) ∧ (σ1 74 12) < 2916) ∧
   ∀ σ6 : Mem, σ6 = mset σ1 77 (σ1 74 12) 0 →
   ∀ σ9 : Mem, σ9 = mset σ6 74 13 0 →
   ∀ σ12 : Mem, σ12 = mset σ9 74 19 0 →
   ∀ σ15 : Mem, σ15 = mset σ12 74 7 0 →
   ∃ g18 : Int → Int, ∃ g19 : Int, (isTp g18 g19 ∧ σ15 74 4 = g19 ∧ (0 ≤ σ15 74 7 ∧ σ15 74 7 ≤ g19) ∧ (∀ i : Int, 0 ≤ i → i < g19 → σ15 78 i = g18 i)) ∧
   ∀ σ23 : Mem, OKm σ23 → (σ23 74 8 = skN g18 g19 (σ15 74 7) ∧ σ23 74 7 = psM g18 g19 (skN g18 g19 (σ15 74 7)) ∧ σ23 74 9 = tokM g18 (skN g18 g19 (σ15 74 7)) ∧ (tokM g18 (skN g18 g19 (σ15 74 7)) = 1 → σ23 74 10 = nmM g18 g19 (skN g18 g19 (σ15 74 7))) ∧ (tokM g18 (skN g18 g19 (σ15 74 7)) = 2 → σ23 74 11 = mwM g18 g19 (skN g18 g19 (σ15 74 7))) ∧ (∀ j : Int, j ≠ 7 → j ≠ 8 → j ≠ 9 → j ≠ 10 → j ≠ 11 → σ23 74 j = σ15 74 j) ∧ Fr [74] σ15 σ23) →
   P43 σ23
theorem mt_X12_readText {d : Nat} (hd : 10 ≤ d)  {σ : Mem} {Q : Int → Mem → Prop}  (hO : OKm σ) (h : wp_X12_readText  σ Q) : Mt yX12_readText cX12_readText 2 (some .int) d [aR (74)] σ (QI Q) := by
  refine Mt.intro (by decide +kernel) (Nat.le_of_ble_eq_true rfl) [(0, aR (74))] rfl ?_
  unfold wp_X12_readText at h
  have h := h (fun  (σ : Mem) => OKm σ → G yX12_readText cX12_readText 2 (some .int) d (QI Q) 43 [(0, aR (74))] [] σ) ?_
  · refine G_aload_n 0 rfl rfl dX12_readText_0 ?_
    refine G_sipush (by decide) dX12_readText_1 ?_
    refine G_aload_n 0 rfl rfl dX12_readText_4 ?_
    refine G_get (k := 0) (kd := (2, 75)) (v := aR 75) gf_X12_7 rfl rfl rfl rfl dX12_readText_5 ?_
    refine G_iconst dX12_readText_8 ?_
    refine G_iald (n := 2119) rfl (by decide) (by decide) dX12_readText_9 ?_
    refine G_imul dX12_readText_10 ?_
    obtain ⟨c2, h⟩ := h
    obtain ⟨σ1, e4⟩ : ∃ τ : Mem, τ = mset σ 74 12 (729 * (σ 75 2)) := ⟨_, rfl⟩
    have h := h σ1 e4
    have o3 : OKm σ1 := by rw [e4]; exact OKm.seti hO _ _ _ c2 rfl
    refine G_put (k := 12) (ki := 12) (kd := (0, 0)) (x := _) pf_X12_151 rfl rfl rfl rfl (fa_i (mset_self _ _ _ _)) (fun _ => rfl) (fun _ => rfl) dX12_readText_11 ?_
    rw [← e4]
    refine G_aload_n 0 rfl rfl dX12_readText_14 ?_
    refine G_get (k := 2) (kd := (2, 77)) (v := aR 77) gf_X12_16 rfl rfl rfl rfl dX12_readText_15 ?_
    refine G_aload_n 0 rfl rfl dX12_readText_18 ?_
    refine G_get (k := 12) (kd := (0, 0)) (v := aI (σ1 74 12)) gf_X12_151 rfl rfl rfl rfl dX12_readText_19 ?_
    refine G_iconst dX12_readText_22 ?_
    obtain ⟨c5, h⟩ := h
    obtain ⟨σ6, e8⟩ : ∃ τ : Mem, τ = mset σ1 77 (σ1 74 12) 0 := ⟨_, rfl⟩
    have h := h σ6 e8
    have o7 : OKm σ6 := by rw [e8]; exact OKm.seti o3 _ _ _ (rL 0 rfl) (isLg_row (show shp 77 = (1, 2916, []) from rfl) _)
    refine G_iast (n := 2916) rfl c5.1 c5.2 dX12_readText_23 ?_
    rw [← e8]
    refine G_aload_n 0 rfl rfl dX12_readText_24 ?_
    refine G_iconst dX12_readText_25 ?_
    obtain ⟨σ9, e11⟩ : ∃ τ : Mem, τ = mset σ6 74 13 0 := ⟨_, rfl⟩
    have h := h σ9 e11
    have o10 : OKm σ9 := by rw [e11]; exact OKm.seti o7 _ _ _ (rL 0 rfl) rfl
    refine G_put (k := 13) (ki := 13) (kd := (0, 0)) (x := _) pf_X12_154 rfl rfl rfl rfl (fa_i (mset_self _ _ _ _)) (fun _ => rfl) (fun _ => rfl) dX12_readText_26 ?_
    rw [← e11]
    refine G_aload_n 0 rfl rfl dX12_readText_29 ?_
    refine G_iconst dX12_readText_30 ?_
    obtain ⟨σ12, e14⟩ : ∃ τ : Mem, τ = mset σ9 74 19 0 := ⟨_, rfl⟩
    have h := h σ12 e14
    have o13 : OKm σ12 := by rw [e14]; exact OKm.seti o10 _ _ _ (rL 0 rfl) rfl
    refine G_put (k := 19) (ki := 19) (kd := (0, 0)) (x := _) pf_X12_255 rfl rfl rfl rfl (fa_i (mset_self _ _ _ _)) (fun _ => rfl) (fun _ => rfl) dX12_readText_31 ?_
    rw [← e14]
    refine G_aload_n 0 rfl rfl dX12_readText_34 ?_
    refine G_iconst dX12_readText_35 ?_
    obtain ⟨σ15, e17⟩ : ∃ τ : Mem, τ = mset σ12 74 7 0 := ⟨_, rfl⟩
    have h := h σ15 e17
    have o16 : OKm σ15 := by rw [e17]; exact OKm.seti o13 _ _ _ (rL 0 rfl) rfl
    refine G_put (k := 7) (ki := 7) (kd := (0, 0)) (x := _) pf_X12_103 rfl rfl rfl rfl (fa_i (mset_self _ _ _ _)) (fun _ => rfl) (fun _ => rfl) dX12_readText_36 ?_
    rw [← e17]
    refine G_aload_n 0 rfl rfl dX12_readText_39 ?_
    obtain ⟨g18, g19, c20, h⟩ := h
    refine G_callV (as := []) cf_X12_180 rfl rfl rfl (sp_X12_nextToken (d - 1) (by omega) _ o16  g18 g19 c20) (by omega) rfl rfl (Nat.le_of_ble_eq_true rfl) dX12_readText_40 ?_
    rintro _ σ23 ⟨rfl, z25⟩ o22 r21
    have h := h _ o22 z25
    exact G_pick [0] rfl (h o22)
  · intro  σ h  hO
    have h := h  hO
    refine G_aload_n 0 rfl rfl dX12_readText_43 ?_
    refine G_get (k := 9) (kd := (0, 0)) (v := aI (σ 74 9)) gf_X12_113 rfl rfl rfl rfl dX12_readText_44 ?_
    refine G_if_eq (OKm.i hO 74 9 rfl) dX12_readText_47 (tgt := 64) (by decide) (fun c26 => ?_) (fun c26 => ?_)
    · have h := h.1 c26
      refine G_iconst dX12_readText_64 ?_
      exact G_iret rfl (rL 0 rfl) dX12_readText_65 ⟨_, rfl, h⟩ hO
    · have h := h.2 c26
      refine G_aload_n 0 rfl rfl dX12_readText_50 ?_
      obtain ⟨g27, g28, g29, g30, g31, c32, h⟩ := h
      refine G_callV (as := []) cf_X12_265 rfl rfl rfl (sp_X12_clause (d - 1) (by omega) _ hO  g27 g28 g29 g30 g31 c32) (by omega) rfl rfl (Nat.le_of_ble_eq_true rfl) dX12_readText_51 ?_
      rintro _ σ35 ⟨u36, rfl, z37⟩ o34 r33
      have h := h _ _ (r33 _ rfl) o34 z37
      refine G_istore_n (lv' := [(1, aI (u36)), (0, aR (74))]) rfl rfl (by decide) dX12_readText_54 ?_
      refine G_iload_n 0 rfl rfl dX12_readText_55 ?_
      refine G_if_eq (r33 _ rfl) dX12_readText_56 (tgt := 61) (by decide) (fun c38 => ?_) (fun c38 => ?_)
      · have h := h.1 c38
        refine G_goto (tgt := 43) dX12_readText_61 (by decide) ?_
        exact G_pick [1] rfl (h o34)
      · have h := h.2 c38
        refine G_iload_n 0 rfl rfl dX12_readText_59 ?_
        exact G_iret rfl (r33 _ rfl) dX12_readText_60 ⟨_, rfl, h⟩ o34

theorem sp_X12_readText (d : Nat) (hd : 10 ≤ d) (σ : Mem) (hO : OKm σ) (b : Int → Int) (N : Int) (ti : Int) (hpre : isTp b N ∧ σ 74 4 = N ∧ (∀ i : Int, 0 ≤ i → i < N → σ 78 i = b i) ∧ (0 ≤ ti ∧ ti ≤ 3) ∧ σ 75 2 = ti) : Mt yX12_readText cX12_readText 2 (some .int) d [aR (74)] σ (QI (fun v σ' => rtA b N ti σ σ' v (pTx (kd b N) (nu b N) 25 T0 0))) := mt_X12_readText hd  hO (by
  unfold wp_X12_readText
  generalize hR : pTx (kd b N) (nu b N) 25 T0 0 = R
  intro P43 h43
  obtain ⟨hB, h4, h78, hti, h2⟩ := hpre
  have H : ∀ (n : Nat) (T : Txt) (i : Nat) (τ : Mem), txS τ b N ti T i → n + T.2.2.length = 25 → rtF σ τ ti → R = pTx (kd b N) (nu b N) n T i → P43 τ := by
    intro n
    induction n with
    | zero => intro T i τ hS hn _ _; have := hS.2.2.2.2.1.2.1; omega
    | succ n ih =>
      intro T i τ hS hn hF he
      rw [pTx_s] at he
      have tz := (tk_sg hS.1).1
      refine h43 _ (fun _ => ⟨fun q => ?_, fun q => ⟨b, N, ti, T, i, hS, fun u ρ _ _ h => ?_⟩⟩)
      · exact rtA.O (by rw [he, if_pos (tz.mp q)]) rfl hS.2.2.2.2.1 hF
      · rw [if_neg (fun z => q (tz.mpr z))] at he
        cases hr : pCl (kd b N) (nu b N) T i with
        | inl e =>
          rw [hr] at h
          obtain ⟨a1, a2, a3, a4⟩ := h
          exact ⟨fun z => absurd z (by omega), fun _ => rtA.E (by rw [he, tN_er hr]) a1 a2 a3.2.2.2.1 (hF.cl a4)⟩
        | inr q =>
          obtain ⟨T', j⟩ := q
          rw [hr] at h
          obtain ⟨a1, a2, a3, a4⟩ := h
          have a4 : T'.2.2.length = T.2.2.length + 1 := a4
          exact ⟨fun _ => ih T' j ρ a2 (by omega) (hF.cl a3) (by rw [he, tN_ok hr]), fun z => absurd a1 z⟩
  rw [h2]
  refine ⟨by unfold R32; omega, fun σ1 e1 => ?_⟩
  have s1 : σ1 74 12 = 729 * ti := by rw [e1, mset_hit rfl]
  rw [s1]
  refine ⟨by omega, fun σ6 e6 σ9 e9 σ12 e12 σ15 e15 => ?_⟩
  have s7 : σ15 74 7 = 0 := by rw [e15, mset_hit rfl]
  have c : ∀ j : Int, j ≠ 7 → j ≠ 12 → j ≠ 13 → j ≠ 19 → σ15 74 j = σ 74 j := fun j q1 q2 q3 q4 => by rw [e15, mset_miss q1, e12, mset_miss q4, e9, mset_miss q3, e6, mset_off (by omega), e1, mset_miss q2]
  have c12 : σ15 74 12 = 729 * ti := by rw [e15, mset_miss (by omega), e12, mset_miss (by omega), e9, mset_miss (by omega), e6, mset_off (by omega)]; exact s1
  have c13 : σ15 74 13 = 0 := by rw [e15, mset_miss (by omega), e12, mset_miss (by omega), e9, mset_hit rfl]
  have c19 : σ15 74 19 = 0 := by rw [e15, mset_miss (by omega), e12, mset_hit rfl]
  have c77 : ∀ j : Int, j ≠ 729 * ti → σ15 77 j = σ 77 j := fun j q => by rw [e15, mset_off (by omega), e12, mset_off (by omega), e9, mset_off (by omega), e6, mset_miss q, e1, mset_off (by omega)]
  have d77 : σ15 77 (729 * ti) = 0 := by rw [e15, mset_off (by omega), e12, mset_off (by omega), e9, mset_off (by omega), e6, mset_hit rfl]
  have cF : Fr [74, 77, 79] σ σ15 := by rw [e15, e12, e9, e6, e1]; exact (((((Fr.rf _ _).set (by simp)).set (by simp)).set (by simp)).set (by simp)).set (by simp)
  have c78 : σ15 78 = σ 78 := cF 78 (by simp)
  have hN := hB.1
  refine ⟨b, N, ⟨hB, by rw [c 4 (by omega) (by omega) (by omega) (by omega)]; exact h4, by rw [s7]; omega, by rw [c78]; exact h78⟩, fun σ24 _ h => ?_⟩
  obtain ⟨g8, g7, g9, g10, g11, gj, gF⟩ := h
  rw [s7] at g8 g7 g9 g10 g11
  have d : ∀ j : Int, (j < 7 ∨ 11 < j) → σ24 74 j = σ15 74 j := fun j q => gj j (by omega) (by omega) (by omega) (by omega) (by omega)
  have g77 : σ24 77 = σ15 77 := gF 77 (by simp)
  have n78 : σ24 78 = σ 78 := by rw [gF 78 (by simp)]; exact c78
  refine H 25 T0 0 σ24 ⟨⟨hB, by rw [d 4 (by omega), c 4 (by omega) (by omega) (by omega) (by omega)]; exact h4, by rw [n78]; exact h78, g8, g7, g9, g10, g11⟩, ⟨hti, by rw [d 12 (by omega)]; exact c12⟩, by rw [d 13 (by omega), c13]; omega, by rw [d 19 (by omega), c19]; rfl, ?_, fun k c h => by simp at h⟩ rfl ⟨cF.tr (gF.wk (by simp)), fun j q => by rw [d j (by omega)]; exact c j (by omega) (by omega) (by omega) (by omega), fun j q => by rw [g77]; exact c77 j (by omega)⟩ hR.symm
  exact ⟨by rw [g77, d77]; rfl, by simp, fun k c h => (by simp at h), fun k c h => (by simp at h), ⟨fun f h => (by cases h), fun f h => (by cases h)⟩, fun k c h => (by simp at h)⟩)

def wp_X12_text  (σ : Mem) (Q : Int → Mem → Prop) : Prop :=
  (((σ 75 2) ≠ 4) →
    ∃ g2 : Int → Int, ∃ g3 : Int, ∃ g4 : Int, (isTp g2 g3 ∧ σ 74 4 = g3 ∧ (∀ i : Int, 0 ≤ i → i < g3 → σ 78 i = g2 i) ∧ (0 ≤ g4 ∧ g4 ≤ 3) ∧ σ 75 2 = g4) ∧
    ∀ (u9 : Int) (σ8 : Mem), R32 u9 → OKm σ8 → (rtA g2 g3 g4 σ σ8 u9 (pTx (kd g2 g3) (nu g2 g3) 25 T0 0)) →
    ∀ σ11 : Mem, σ11 = mset σ8 74 5 u9 →
    (((σ11 74 5) ≠ 0) →
     ∀ σ15 : Mem, σ15 = mset σ11 74 6 (σ11 74 8) →
     ∀ σ18 : Mem, σ18 = mset σ15 74 4 0 →
     (((σ18 74 5) = 0) →
      R32 ((σ18 75 2) + 1) ∧
      ∀ σ23 : Mem, σ23 = mset σ18 75 2 ((σ18 75 2) + 1) →
      R32 ((σ23 75 2) - 1) ∧
      Q ((σ23 75 2) - 1) σ23) ∧
     (((σ18 74 5) ≠ 0) →
      Q (-1) σ18)) ∧
    (((σ11 74 5) = 0) →
     ∀ σ27 : Mem, σ27 = mset σ11 74 6 (-1) →
     ∀ σ30 : Mem, σ30 = mset σ27 74 4 0 →
     (((σ30 74 5) = 0) →
      R32 ((σ30 75 2) + 1) ∧
      ∀ σ35 : Mem, σ35 = mset σ30 75 2 ((σ30 75 2) + 1) →
      R32 ((σ35 75 2) - 1) ∧
      Q ((σ35 75 2) - 1) σ35) ∧
     (((σ30 74 5) ≠ 0) →
      Q (-1) σ30))) ∧
   (((σ 75 2) = 4) →
    Q (-1) σ)
theorem mt_X12_text {d : Nat} (hd : 11 ≤ d)  {σ : Mem} {Q : Int → Mem → Prop}  (hO : OKm σ) (h : wp_X12_text  σ Q) : Mt yX12_text cX12_text 1 (some .int) d [aR (74)] σ (QI Q) := by
  refine Mt.intro (by decide +kernel) (Nat.le_of_ble_eq_true rfl) [(0, aR (74))] rfl ?_
  unfold wp_X12_text at h
  refine G_aload_n 0 rfl rfl dX12_text_0 ?_
  refine G_get (k := 0) (kd := (2, 75)) (v := aR 75) gf_X12_7 rfl rfl rfl rfl dX12_text_1 ?_
  refine G_iconst dX12_text_4 ?_
  refine G_iald (n := 2119) rfl (by decide) (by decide) dX12_text_5 ?_
  refine G_iconst dX12_text_6 ?_
  refine G_icmp_ne (OKm.i hO 75 2 (isLg_row (show shp 75 = (1, 2119, []) from rfl) _)) (rL 4 rfl) dX12_text_7 (tgt := 12) (by decide) (fun c1 => ?_) (fun c1 => ?_)
  · have h := h.1 c1
    refine G_aload_n 0 rfl rfl dX12_text_12 ?_
    refine G_aload_n 0 rfl rfl dX12_text_13 ?_
    obtain ⟨g2, g3, g4, c5, h⟩ := h
    refine G_callV (as := []) cf_X12_268 rfl rfl rfl (sp_X12_readText (d - 1) (by omega) _ hO  g2 g3 g4 c5) (by omega) rfl rfl (Nat.le_of_ble_eq_true rfl) dX12_text_14 ?_
    rintro _ σ8 ⟨u9, rfl, z10⟩ o7 r6
    have h := h _ _ (r6 _ rfl) o7 z10
    obtain ⟨σ11, e13⟩ : ∃ τ : Mem, τ = mset σ8 74 5 u9 := ⟨_, rfl⟩
    have h := h σ11 e13
    have o12 : OKm σ11 := by rw [e13]; exact OKm.seti o7 _ _ _ (r6 _ rfl) rfl
    refine G_put (k := 5) (ki := 5) (kd := (0, 0)) (x := _) pf_X12_22 rfl rfl rfl rfl (fa_i (mset_self _ _ _ _)) (fun _ => rfl) (fun _ => rfl) dX12_text_17 ?_
    rw [← e13]
    refine G_aload_n 0 rfl rfl dX12_text_20 ?_
    refine G_aload_n 0 rfl rfl dX12_text_21 ?_
    refine G_get (k := 5) (kd := (0, 0)) (v := aI (σ11 74 5)) gf_X12_22 rfl rfl rfl rfl dX12_text_22 ?_
    refine G_if_ne (OKm.i o12 74 5 rfl) dX12_text_25 (tgt := 32) (by decide) (fun c14 => ?_) (fun c14 => ?_)
    · have h := h.1 c14
      refine G_aload_n 0 rfl rfl dX12_text_32 ?_
      refine G_get (k := 8) (kd := (0, 0)) (v := aI (σ11 74 8)) gf_X12_110 rfl rfl rfl rfl dX12_text_33 ?_
      obtain ⟨σ15, e17⟩ : ∃ τ : Mem, τ = mset σ11 74 6 (σ11 74 8) := ⟨_, rfl⟩
      have h := h σ15 e17
      have o16 : OKm σ15 := by rw [e17]; exact OKm.seti o12 _ _ _ (OKm.i o12 74 8 rfl) rfl
      refine G_put (k := 6) (ki := 6) (kd := (0, 0)) (x := _) pf_X12_26 rfl rfl rfl rfl (fa_i (mset_self _ _ _ _)) (fun _ => rfl) (fun _ => rfl) dX12_text_36 ?_
      rw [← e17]
      refine G_aload_n 0 rfl rfl dX12_text_39 ?_
      refine G_iconst dX12_text_40 ?_
      obtain ⟨σ18, e20⟩ : ∃ τ : Mem, τ = mset σ15 74 4 0 := ⟨_, rfl⟩
      have h := h σ18 e20
      have o19 : OKm σ18 := by rw [e20]; exact OKm.seti o16 _ _ _ (rL 0 rfl) rfl
      refine G_put (k := 4) (ki := 4) (kd := (0, 0)) (x := _) pf_X12_97 rfl rfl rfl rfl (fa_i (mset_self _ _ _ _)) (fun _ => rfl) (fun _ => rfl) dX12_text_41 ?_
      rw [← e20]
      refine G_aload_n 0 rfl rfl dX12_text_44 ?_
      refine G_get (k := 5) (kd := (0, 0)) (v := aI (σ18 74 5)) gf_X12_22 rfl rfl rfl rfl dX12_text_45 ?_
      refine G_if_eq (OKm.i o19 74 5 rfl) dX12_text_48 (tgt := 53) (by decide) (fun c21 => ?_) (fun c21 => ?_)
      · have h := h.1 c21
        refine G_aload_n 0 rfl rfl dX12_text_53 ?_
        refine G_get (k := 0) (kd := (2, 75)) (v := aR 75) gf_X12_7 rfl rfl rfl rfl dX12_text_54 ?_
        refine G_iconst dX12_text_57 ?_
        refine G_dup2 rfl rfl dX12_text_58 ?_
        refine G_iald (n := 2119) rfl (by decide) (by decide) dX12_text_59 ?_
        refine G_iconst dX12_text_60 ?_
        refine G_iadd dX12_text_61 ?_
        obtain ⟨c22, h⟩ := h
        obtain ⟨σ23, e25⟩ : ∃ τ : Mem, τ = mset σ18 75 2 ((σ18 75 2) + 1) := ⟨_, rfl⟩
        have h := h σ23 e25
        have o24 : OKm σ23 := by rw [e25]; exact OKm.seti o19 _ _ _ c22 (isLg_row (show shp 75 = (1, 2119, []) from rfl) _)
        refine G_iast (n := 2119) rfl (by decide) (by decide) dX12_text_62 ?_
        rw [← e25]
        refine G_aload_n 0 rfl rfl dX12_text_63 ?_
        refine G_get (k := 0) (kd := (2, 75)) (v := aR 75) gf_X12_7 rfl rfl rfl rfl dX12_text_64 ?_
        refine G_iconst dX12_text_67 ?_
        refine G_iald (n := 2119) rfl (by decide) (by decide) dX12_text_68 ?_
        refine G_iconst dX12_text_69 ?_
        refine G_isub dX12_text_70 ?_
        obtain ⟨c26, h⟩ := h
        exact G_iret rfl c26 dX12_text_71 ⟨_, rfl, h⟩ o24
      · have h := h.2 c21
        refine G_iconst dX12_text_51 ?_
        exact G_iret rfl (rL (-1) rfl) dX12_text_52 ⟨_, rfl, h⟩ o19
    · have h := h.2 c14
      refine G_iconst dX12_text_28 ?_
      refine G_goto (tgt := 36) dX12_text_29 (by decide) ?_
      obtain ⟨σ27, e29⟩ : ∃ τ : Mem, τ = mset σ11 74 6 (-1) := ⟨_, rfl⟩
      have h := h σ27 e29
      have o28 : OKm σ27 := by rw [e29]; exact OKm.seti o12 _ _ _ (rL (-1) rfl) rfl
      refine G_put (k := 6) (ki := 6) (kd := (0, 0)) (x := _) pf_X12_26 rfl rfl rfl rfl (fa_i (mset_self _ _ _ _)) (fun _ => rfl) (fun _ => rfl) dX12_text_36 ?_
      rw [← e29]
      refine G_aload_n 0 rfl rfl dX12_text_39 ?_
      refine G_iconst dX12_text_40 ?_
      obtain ⟨σ30, e32⟩ : ∃ τ : Mem, τ = mset σ27 74 4 0 := ⟨_, rfl⟩
      have h := h σ30 e32
      have o31 : OKm σ30 := by rw [e32]; exact OKm.seti o28 _ _ _ (rL 0 rfl) rfl
      refine G_put (k := 4) (ki := 4) (kd := (0, 0)) (x := _) pf_X12_97 rfl rfl rfl rfl (fa_i (mset_self _ _ _ _)) (fun _ => rfl) (fun _ => rfl) dX12_text_41 ?_
      rw [← e32]
      refine G_aload_n 0 rfl rfl dX12_text_44 ?_
      refine G_get (k := 5) (kd := (0, 0)) (v := aI (σ30 74 5)) gf_X12_22 rfl rfl rfl rfl dX12_text_45 ?_
      refine G_if_eq (OKm.i o31 74 5 rfl) dX12_text_48 (tgt := 53) (by decide) (fun c33 => ?_) (fun c33 => ?_)
      · have h := h.1 c33
        refine G_aload_n 0 rfl rfl dX12_text_53 ?_
        refine G_get (k := 0) (kd := (2, 75)) (v := aR 75) gf_X12_7 rfl rfl rfl rfl dX12_text_54 ?_
        refine G_iconst dX12_text_57 ?_
        refine G_dup2 rfl rfl dX12_text_58 ?_
        refine G_iald (n := 2119) rfl (by decide) (by decide) dX12_text_59 ?_
        refine G_iconst dX12_text_60 ?_
        refine G_iadd dX12_text_61 ?_
        obtain ⟨c34, h⟩ := h
        obtain ⟨σ35, e37⟩ : ∃ τ : Mem, τ = mset σ30 75 2 ((σ30 75 2) + 1) := ⟨_, rfl⟩
        have h := h σ35 e37
        have o36 : OKm σ35 := by rw [e37]; exact OKm.seti o31 _ _ _ c34 (isLg_row (show shp 75 = (1, 2119, []) from rfl) _)
        refine G_iast (n := 2119) rfl (by decide) (by decide) dX12_text_62 ?_
        rw [← e37]
        refine G_aload_n 0 rfl rfl dX12_text_63 ?_
        refine G_get (k := 0) (kd := (2, 75)) (v := aR 75) gf_X12_7 rfl rfl rfl rfl dX12_text_64 ?_
        refine G_iconst dX12_text_67 ?_
        refine G_iald (n := 2119) rfl (by decide) (by decide) dX12_text_68 ?_
        refine G_iconst dX12_text_69 ?_
        refine G_isub dX12_text_70 ?_
        obtain ⟨c38, h⟩ := h
        exact G_iret rfl c38 dX12_text_71 ⟨_, rfl, h⟩ o36
      · have h := h.2 c33
        refine G_iconst dX12_text_51 ?_
        exact G_iret rfl (rL (-1) rfl) dX12_text_52 ⟨_, rfl, h⟩ o31
  · have h := h.2 c1
    refine G_iconst dX12_text_10 ?_
    exact G_iret rfl (rL (-1) rfl) dX12_text_11 ⟨_, rfl, h⟩ hO

theorem sp_X12_text (d : Nat) (hd : 11 ≤ d) (σ : Mem) (hO : OKm σ) (A : Mem) (L : List Mem) (IA : Mem) (IL : List Mem) (tx : Nat → Txt) (X : Mem) (hpre : fullM σ A L IA IL tx X ∧ okX X) : Mt yX12_text cX12_text 1 (some .int) d [aR (74)] σ (QI (fun v σ' => v = txtV A X ∧ fullM σ' (txtA A X) L IA IL (txtT A tx X) (txtX A X) ∧ frM σ σ' ∧ σ' 74 24 = σ 74 24)) := mt_X12_text hd  hO (by
  unfold wp_X12_text
  obtain ⟨hf, hX⟩ := hpre
  have hv := hf.1.1
  have hI := hv.2.2.1
  have h2 : σ 75 2 = A 10 2 := hv.1.1.2.2.1
  have hc := hI.1
  rw [h2]
  refine ⟨fun h4 => ⟨bX X, X 0 0, A 10 2, ⟨bX_tp hX, hf.2.2.1, fun i a1 a2 => by unfold bX; rw [if_pos ⟨a1, a2⟩]; exact hf.2.2.2.1 i a1 a2, by omega, rfl⟩, fun u8 σ7 _ _ h σ10 e10 => ?_⟩, fun h4 => ?_⟩
  · have hlt : A 10 2 < 4 := by omega
    have a5 : σ10 74 5 = u8 := by rw [e10, mset_hit rfl]
    rw [a5]
    have base : ∀ ρ : Mem, rtF σ σ7 (A 10 2) → (∀ q : Nat, q ≠ 74 → q ≠ 75 → ρ q = σ7 q) → (∀ j : Int, j ≠ 4 → j ≠ 5 → j ≠ 6 → ρ 74 j = σ7 74 j) → (∀ i : Nat, (i : Int) < A 10 2 → textM ρ (i : Int) (tx i)) ∧ nmOK ρ ∧ (ρ 74 23 = 1 ∧ 0 ≤ ρ 74 24) ∧ imgM ρ IA IL := fun ρ hF hq hj => by
      refine ⟨fun i hi => (hv.2.2.2.1 i hi).congr (by omega) (fun j q1 q2 => by rw [hq 77 (by omega) (by omega)]; exact hF.2.2 j (by omega)), ?_, ?_, hf.2.1.fr (by rw [hq 76 (by omega) (by omega)]; exact hF.1 76 (by simp))⟩
      · unfold nmOK; rw [hq 80 (by omega) (by omega), hF.1 80 (by simp)]; exact hv.2.2.2.2
      · rw [hj 23 (by omega) (by omega) (by omega), hj 24 (by omega) (by omega) (by omega), hF.2.1 23 (by omega), hF.2.1 24 (by omega)]; exact hf.1.2.2
    cases hr : rdT X with
    | inl e =>
      unfold rdT at hr
      rw [hr] at h
      obtain ⟨hu, hu1, h8, hF⟩ := h
      have he := txt_er (tx := tx) hlt (show rdT X = .inl e from hr)
      refine ⟨fun hn σ14 e14 σ17 e17 => ?_, fun h0 => absurd h0 (by omega)⟩
      have b5 : σ17 74 5 = u8 := by rw [e17, mset_miss (by omega), e14, mset_miss (by omega)]; exact a5
      rw [b5]
      refine ⟨fun h0 => absurd h0 hn, fun _ => ?_⟩
      rw [he.1, he.2.1, he.2.2.1, he.2.2.2]
      have hq : ∀ q : Nat, q ≠ 74 → σ17 q = σ7 q := fun q z => by rw [e17, mset_ne z, e14, mset_ne z, e10, mset_ne z]
      have hj : ∀ j : Int, j ≠ 4 → j ≠ 5 → j ≠ 6 → σ17 74 j = σ7 74 j := fun j z1 z2 z3 => by rw [e17, mset_miss z1, e14, mset_miss z3, e10, mset_miss z2]
      obtain ⟨b1, b2, b3, b4⟩ := base σ17 hF (fun q z _ => hq q z) hj
      have e75 : σ17 75 = σ 75 := by rw [hq 75 (by omega)]; exact hF.1 75 (by simp)
      refine ⟨rfl, ⟨⟨⟨by unfold toldM; rw [e75]; exact hv.1, by unfold nowM; rw [e75]; exact hv.2.1, hI, b1, b2⟩, hf.1.2.1.keep (fun j _ => by rw [e75]), b3⟩, b4, ?_, fun i a1 a2 => ?_, ?_, ?_⟩, fun q z => by rw [hq q (by omega)]; exact hF.1 q (by simp; omega), by rw [hj 24 (by omega) (by omega) (by omega)]; exact hF.2.1 24 (by omega)⟩
      · rw [e17, mset_hit rfl]; simp (disch := omega) only [mset_off, mset_hit]
      · simp (disch := omega) only [mset_off, mset_hit] at a2; omega
      · simp (disch := omega) only [mset_miss, mset_hit]; rw [b5]; exact hu
      · simp (disch := omega) only [mset_miss, mset_hit]
        rw [e17, mset_miss (by omega), e14, mset_hit rfl, e10, mset_miss (by omega)]; exact h8
    | inr T =>
      unfold rdT at hr
      rw [hr] at h
      obtain ⟨hu, hT, hF⟩ := h
      have he := txt_ok (tx := tx) hlt (show rdT X = .inr T from hr)
      refine ⟨fun hn => absurd hu hn, fun _ σ26 e26 σ29 e29 => ?_⟩
      have b5 : σ29 74 5 = u8 := by rw [e29, mset_miss (by omega), e26, mset_miss (by omega)]; exact a5
      rw [b5]
      refine ⟨fun _ => ?_, fun hn => absurd hu hn⟩
      have q75 : σ29 75 = σ 75 := by rw [e29, mset_ne (by omega), e26, mset_ne (by omega), e10, mset_ne (by omega)]; exact hF.1 75 (by simp)
      rw [q75, h2]
      refine ⟨by unfold R32; omega, fun σ34 e34 => ?_⟩
      have s2 : σ34 75 2 = A 10 2 + 1 := by rw [e34, mset_hit rfl]
      rw [s2]
      refine ⟨by unfold R32; omega, ?_⟩
      rw [he.1, he.2.1, he.2.2.1, he.2.2.2]
      have hq : ∀ q : Nat, q ≠ 74 → q ≠ 75 → σ34 q = σ7 q := fun q z z2 => by rw [e34, mset_ne z2, e29, mset_ne z, e26, mset_ne z, e10, mset_ne z]
      have hj : ∀ j : Int, j ≠ 4 → j ≠ 5 → j ≠ 6 → σ34 74 j = σ7 74 j := fun j z1 z2 z3 => by rw [e34, mset_off (by omega), e29, mset_miss z1, e26, mset_miss z3, e10, mset_miss z2]
      obtain ⟨b1, b2, b3, b4⟩ := base σ34 hF hq hj
      have e75 : ∀ j : Int, j ≠ 2 → σ34 75 j = σ 75 j := fun j z => by rw [e34, mset_miss z, q75]
      have hcn := hI.cnt
      unfold Cnt at hcn
      refine ⟨by omega, ⟨⟨⟨?_, ?_, hI.text hlt, fun i hi => ?_, b2⟩, hf.1.2.1.keep (fun j z => e75 j (by omega)), b3⟩, b4, ?_, fun i a1 a2 => ?_, ?_, ?_⟩, fun q z => by rw [hq q (by omega) (by omega)]; exact hF.1 q (by simp; omega), by rw [hj 24 (by omega) (by omega) (by omega)]; exact hF.2.1 24 (by omega)⟩
      · obtain ⟨t1, t2, t3, t4⟩ := hv.1
        unfold toldM
        refine ⟨?_, fun r x y => ?_, fun g x y => ?_, fun i x y => ?_⟩
        · rw [e75 0 (by omega), e75 1 (by omega), s2, e75 5 (by omega), e75 3 (by omega)]
          simp (disch := omega) only [mset_miss, mset_hit]
          exact ⟨t1.1, t1.2.1, trivial, t1.2.2.2⟩
        · simp (disch := omega) only [mset_miss, mset_off] at y ⊢
          rw [e75 _ (by omega), e75 _ (by omega), e75 _ (by omega), e75 _ (by omega)]; exact t2 r x y
        · simp (disch := omega) only [mset_miss, mset_off] at y ⊢
          rw [e75 _ (by omega), e75 _ (by omega)]; exact t3 g x y
        · simp (disch := omega) only [mset_miss, mset_off] at y ⊢
          rw [e75 _ (by omega), e75 _ (by omega), e75 _ (by omega)]; exact t4 i x y
      · exact nowM_told (nowM_75 hv.2.1 (by omega) (fun i z => e75 i (by omega))) (mset_miss (by omega)) (mset_miss (by omega)) (fun q z => mset_ne (by omega))
      · rw [mset_hit rfl] at hi
        show textM σ34 (i : Int) (if i = (A 10 2).toNat then T else tx i)
        by_cases q : i = (A 10 2).toNat
        · rw [if_pos q, show (i : Int) = A 10 2 by omega]
          exact hT.congr (by omega) (fun j _ _ => by rw [hq 77 (by omega) (by omega)])
        · rw [if_neg q]; exact b1 i (by omega)
      · rw [e34, mset_off (by omega), e29, mset_hit rfl]; simp (disch := omega) only [mset_off, mset_hit]
      · simp (disch := omega) only [mset_off, mset_hit] at a2; omega
      · simp (disch := omega) only [mset_miss, mset_hit]
        rw [e34, mset_off (by omega), b5]; exact hu
      · simp (disch := omega) only [mset_miss, mset_hit]
        rw [e34, mset_off (by omega), e29, mset_miss (by omega), e26, mset_hit rfl]
  · have he := txt_no (A := A) (tx := tx) (X := X) (by omega)
    rw [he.1, he.2.1, he.2.2.1, he.2.2.2]
    exact ⟨rfl, hf, fun q _ => rfl, rfl⟩)
