/-! A TEXT of the reference, clause by clause -/
def oncS (T : Txt) : Int := (if T.1.isSome = true then 1 else 0) + (if T.2.1.isSome = true then 2 else 0)
def lwE (σ : Mem) (ti : Int) (T : Txt) (a : Int) : Prop := ∀ (k : Nat) (c : Cl), T.2.2[k]? = some c → c.1 ≤ 1 → σ 77 (729 * ti + 1 + 5 * (k : Int) + 2) ≤ a
def txS (σ : Mem) (b : Int → Int) (N ti : Int) (T : Txt) (i : Nat) : Prop := tkM σ b N i ∧ ((0 ≤ ti ∧ ti ≤ 3) ∧ σ 74 12 = 729 * ti) ∧ (0 ≤ σ 74 13 ∧ σ 74 13 ≤ (i : Int)) ∧ σ 74 19 = oncS T ∧ textM σ ti T ∧ lwE σ ti T (σ 74 13)
def clF (σ σ' : Mem) (ti : Int) : Prop := Fr [74, 77, 79] σ σ' ∧ (∀ j : Int, (j < 7 ∨ j = 12 ∨ j = 15 ∨ 20 ≤ j) → σ' 74 j = σ 74 j) ∧ ∀ j : Int, (j < 729 * ti ∨ 729 * ti + 729 ≤ j) → σ' 77 j = σ 77 j
theorem clF.rf {σ : Mem} {ti : Int} : clF σ σ ti := ⟨Fr.rf _ _, fun _ _ => rfl, fun _ _ => rfl⟩
theorem clF.tr {σ σ' σ'' : Mem} {ti : Int} (h1 : clF σ σ' ti) (h2 : clF σ' σ'' ti) : clF σ σ'' ti := ⟨h1.1.tr h2.1, fun j q => (h2.2.1 j q).trans (h1.2.1 j q), fun j q => (h2.2.2 j q).trans (h1.2.2 j q)⟩
def clA (b : Int → Int) (N ti : Int) (T : Txt) (σ σ' : Mem) (v : Int) (r : TR) : Prop := match r with
  | .inl e => v = e.1 ∧ 1 ≤ v ∧ tkM σ' b N e.2 ∧ clF σ σ' ti
  | .inr q => v = 0 ∧ txS σ' b N ti q.1 q.2 ∧ clF σ σ' ti ∧ q.1.2.2.length = T.2.2.length + 1
theorem clA.E {b : Int → Int} {N ti : Int} {T : Txt} {σ σ' : Mem} {v : Int} {r : TR} {e : Int × Nat} (hr : r = .inl e) (h1 : v = e.1) (h2 : 1 ≤ v) (h3 : tkM σ' b N e.2) (h4 : clF σ σ' ti) : clA b N ti T σ σ' v r := by subst hr; exact ⟨h1, h2, h3, h4⟩
theorem clA.O {b : Int → Int} {N ti : Int} {T T' : Txt} {j : Nat} {σ σ' : Mem} {v : Int} {r : TR} (hr : r = .inr (T', j)) (h1 : v = 0) (h2 : txS σ' b N ti T' j) (h3 : clF σ σ' ti) (h4 : T'.2.2.length = T.2.2.length + 1) : clA b N ti T σ σ' v r := by subst hr; exact ⟨h1, h2, h3, h4⟩
theorem clS_r {k c : Int} (h : clS k = c) : (0 ≤ c → k ≠ 43 ∧ c ≤ 7) ∧ (0 ≤ c → c ≤ 1 → (c = 0 ∧ k = 9) ∨ (c = 1 ∧ k = 10)) := by
  unfold clS at h
  by_cases h1 : k = 9
  · rw [if_pos h1] at h; omega
  rw [if_neg h1] at h
  by_cases h2 : k = 10
  · rw [if_pos h2] at h; omega
  rw [if_neg h2] at h
  by_cases h3 : k = 11
  · rw [if_pos h3] at h; omega
  rw [if_neg h3] at h
  by_cases h4 : k = 13
  · rw [if_pos h4] at h; omega
  rw [if_neg h4] at h
  by_cases h5 : k = 14
  · rw [if_pos h5] at h; omega
  rw [if_neg h5] at h
  by_cases h6 : k = 16
  · rw [if_pos h6] at h; omega
  rw [if_neg h6] at h
  by_cases h7 : k = 17
  · rw [if_pos h7] at h; omega
  rw [if_neg h7] at h
  by_cases h8 : k = 0
  · rw [if_pos h8] at h; omega
  rw [if_neg h8] at h; omega
theorem once_t {T : Txt} {c : Int} (h : c = 0 ∨ c = 1) : ((oncS T).toNat.testBit c.toNat = true) ↔ ((c = 0 ∧ T.1.isSome = true) ∨ (c = 1 ∧ T.2.1.isSome = true)) := by
  obtain ⟨o1, o2, l⟩ := T
  rcases h with rfl | rfl <;> cases o1 <;> cases o2 <;> simp [oncS] <;> decide +kernel
theorem once_r (T : Txt) : 0 ≤ oncS T ∧ oncS T ≤ 3 := by unfold oncS; split <;> split <;> omega
theorem once_a {T : Txt} {c : Int} {f : Env → Int} (h : (c = 0 ∧ ¬ T.1.isSome = true) ∨ (c = 1 ∧ ¬ T.2.1.isSome = true)) : bOr (oncS T) (bShl 1 c) = oncS (addL T c f) := by
  obtain ⟨o1, o2, l⟩ := T
  rcases h with ⟨rfl, h⟩ | ⟨rfl, h⟩
  · cases o1 with
    | some g => exact absurd rfl h
    | none =>
      cases o2 with
      | none => show bOr 0 (bShl 1 0) = 1; decide +kernel
      | some g => show bOr 2 (bShl 1 0) = 3; decide +kernel
  · cases o2 with
    | some g => exact absurd rfl h
    | none =>
      cases o1 with
      | none => show bOr 0 (bShl 1 1) = 2; decide +kernel
      | some g => show bOr 1 (bShl 1 1) = 3; decide +kernel
theorem get_app {L : List Cl} {c d : Cl} {k : Nat} (h : (L ++ [c])[k]? = some d) : (k < L.length ∧ L[k]? = some d) ∨ (k = L.length ∧ d = c) := by
  have hl := (List.getElem?_eq_some_iff.mp h).1
  simp at hl
  by_cases q : k < L.length
  · rw [List.getElem?_append_left q] at h; exact .inl ⟨q, h⟩
  · have : k = L.length := by omega
    subst this
    simp at h; exact .inr ⟨rfl, h.symm⟩
/-- what stays of a text's cells when a clause is added: a, how much code there was -/
def stA (σ σ' : Mem) (ti : Int) (n : Nat) (a : Int) : Prop := ∀ j : Int, ((729 * ti + 1 ≤ j ∧ j < 729 * ti + 1 + 5 * (n : Int)) ∨ (729 * ti + 121 ≤ j ∧ j < 729 * ti + 121 + 2 * a)) → σ' 77 j = σ 77 j
theorem lawM.add {σ σ' : Mem} {ti s a : Int} {o : Option (Env → Int)} {cl : List Cl} {c : Cl} (h : lawM σ ti s o cl) (hs : s ≤ 1) (hc : c.1 ≠ s) (hk : stA σ σ' ti cl.length a) (he : ∀ (k : Nat) (d : Cl), cl[k]? = some d → d.1 ≤ 1 → σ 77 (729 * ti + 1 + 5 * (k : Int) + 2) ≤ a) : lawM σ' ti s o (cl ++ [c]) := by
  cases o with
  | none =>
    intro k d hd
    rcases get_app hd with q | q
    · exact h k d q.2
    · rw [q.2]; exact hc
  | some f =>
    obtain ⟨h1, k, d, h2, h3, h4, h5, h6, h7⟩ := h
    have hkl : k < cl.length := (List.getElem?_eq_some_iff.mp h2).1
    have ha := he k d h2 (by omega)
    have hab := h7.1
    have e1 : σ' 77 (729 * ti + 1 + 5 * (k : Int) + 1) = σ 77 (729 * ti + 1 + 5 * (k : Int) + 1) := hk _ (.inl (by omega))
    have e2 : σ' 77 (729 * ti + 1 + 5 * (k : Int) + 2) = σ 77 (729 * ti + 1 + 5 * (k : Int) + 2) := hk _ (.inl (by omega))
    refine ⟨h1, k, d, by rw [List.getElem?_append_left hkl]; exact h2, h3, fun k' d' q1 q2 => ?_, by rw [e1]; exact h5, by rw [e2]; exact h6, ?_⟩
    · rcases get_app q2 with z | z
      · exact h4 k' d' q1 z.2
      · omega
    · rw [e1, e2]
      exact h7.congr (fun j q1 q2 => ⟨hk (729 * ti + 121 + 2 * j) (.inr (by omega)), hk (729 * ti + 121 + 2 * j + 1) (.inr (by omega))⟩)
theorem textM.add {σ σ' : Mem} {ti a : Int} {T : Txt} {c : Cl} {o1 o2 : Option (Env → Int)} (h : textM σ ti T) (hl : T.2.2.length < 24) (hk : stA σ σ' ti T.2.2.length a) (h0 : σ' 77 (729 * ti) = (T.2.2.length : Int) + 1) (hx : σ' 77 (729 * ti + 1 + 5 * (T.2.2.length : Int)) = c.1) (hc : clQ σ' (729 * ti + 1 + 5 * (T.2.2.length : Int)) c) (hok : okT (o1, o2, T.2.2 ++ [c])) (l1 : lawM σ' ti 0 o1 (T.2.2 ++ [c])) (l2 : lawM σ' ti 1 o2 (T.2.2 ++ [c])) : textM σ' ti (o1, o2, T.2.2 ++ [c]) := by
  refine ⟨by rw [h0]; simp, by simp; omega, l1, l2, hok, fun k d hd => ?_⟩
  rcases get_app hd with q | q
  · have := h.2.2.2.2.2 k d q.2
    rw [hk _ (.inl (by omega)), hk _ (.inl (by omega)), hk _ (.inl (by omega)), hk _ (.inl (by omega)), hk _ (.inl (by omega))]
    exact this
  · obtain ⟨rfl, rfl⟩ := q
    exact ⟨hc.1, hx, hc.2⟩
theorem lwE.add {σ σ' : Mem} {ti a a' : Int} {T : Txt} {c : Cl} {o1 o2 : Option (Env → Int)} (h : lwE σ ti T a) (haa : a ≤ a') (hk : stA σ σ' ti T.2.2.length a) (hc : c.1 ≤ 1 → σ' 77 (729 * ti + 1 + 5 * (T.2.2.length : Int) + 2) ≤ a') : lwE σ' ti (o1, o2, T.2.2 ++ [c]) a' := by
  intro k d hd h1
  rcases get_app hd with q | q
  · rw [hk _ (.inl (by omega))]; have := h k d q.2 h1; omega
  · obtain ⟨rfl, rfl⟩ := q; exact hc h1

def wp_X12_clause  (σ : Mem) (Q : Int → Mem → Prop) : Prop :=
 ∀ P29 : Int → Mem → Prop,
 ∀ P65 : Int → Int → Mem → Prop,
 (∀ (v1 : Int) (σ : Mem), (R32 v1 → OKm σ →
   (0 ≤ (σ 74 12) ∧ (σ 74 12) < 2916) ∧
    (((σ 77 (σ 74 12)) ≠ 24) →
     ((1 < v1) →
      P65 v1 (σ 77 (σ 74 12)) σ) ∧
     ((v1 ≤ 1) →
      ∀ σ19 : Mem, σ19 = mset σ 74 19 (bOr (σ 74 19) (bShl 1 v1)) →
      P65 v1 (σ 77 (σ 74 12)) σ19)) ∧
    (((σ 77 (σ 74 12)) = 24) →
     Q 6 σ)) → P29 v1 σ) →
 (∀ (v1 : Int) (v2 : Int) (σ : Mem), (R32 v1 → R32 v2 → OKm σ →
   ∀ σ22 : Mem, σ22 = mset σ 74 14 v1 →
    ∃ g25 : Int → Int, ∃ g26 : Int, ∃ g27 : Nat, (tkM σ22 g25 g26 g27) ∧
    ∀ σ31 : Mem, OKm σ31 → (tkM σ31 g25 g26 (g27 + 1) ∧ (∀ j : Int, j ≠ 7 → j ≠ 8 → j ≠ 9 → j ≠ 10 → j ≠ 11 → σ31 74 j = σ22 74 j) ∧ Fr [74] σ22 σ31) →
    R32 (((σ31 74 12) + 1) + (5 * v2)) ∧
    ∀ y35 : Int, y35 = (((σ31 74 12) + 1) + (5 * v2)) →
    (0 ≤ y35 ∧ y35 < 2916) ∧
    ∀ σ37 : Mem, σ37 = mset σ31 77 y35 v1 →
    ∃ g40 : Int → Int, ∃ g41 : Int, ∃ g42 : Int, ∃ g43 : Int, ∃ g44 : Nat, (tkM σ37 g40 g41 g44 ∧ (0 ≤ g42 ∧ g42 ≤ 3) ∧ σ37 74 12 = 729 * g42 ∧ (0 ≤ σ37 74 13 ∧ σ37 74 13 ≤ (g44 : Int) ∧ g44 ≤ 300) ∧ (729 * g42 < y35 ∧ y35 + 4 ≤ 729 * g42 + 120) ∧ (0 ≤ v1 ∧ v1 ≤ 7) ∧ (v1 ≤ 1 → σ37 74 14 = (if g43 = 9 then 0 else 1))) ∧
    ∀ (u49 : Int) (σ48 : Mem), R32 u49 → OKm σ48 → ((2 ≤ v1 → deA g40 g41 σ37 σ48 u49 y35 (pDeed (kd g40 g41) (nu g40 g41) v1 g44)) ∧ (v1 ≤ 1 → lwA g40 g41 g42 σ37 σ48 u49 y35 (pS (kd g40 g41) (nu g40 g41) g43 8 g44))) →
    ((u49 = 0) →
     (0 ≤ (σ48 74 12) ∧ (σ48 74 12) < 2916) ∧
     (0 ≤ (σ48 74 12) ∧ (σ48 74 12) < 2916) ∧
     R32 ((σ48 77 (σ48 74 12)) + 1) ∧
     ∀ σ55 : Mem, σ55 = mset σ48 77 (σ48 74 12) ((σ48 77 (σ48 74 12)) + 1) →
     (((σ55 74 9) = 59) →
      ∃ g59 : Int → Int, ∃ g60 : Int, ∃ g61 : Nat, (tkM σ55 g59 g60 g61) ∧
      ∀ σ65 : Mem, OKm σ65 → (tkM σ65 g59 g60 (g61 + 1) ∧ (∀ j : Int, j ≠ 7 → j ≠ 8 → j ≠ 9 → j ≠ 10 → j ≠ 11 → σ65 74 j = σ55 74 j) ∧ Fr [74] σ55 σ65) →
      Q 0 σ65) ∧
     (((σ55 74 9) ≠ 59) →
      Q 1 σ55)) ∧
    ((u49 ≠ 0) →
     Q u49 σ48)) → P65 v1 v2 σ) →
  ∃ g1 : Int → Int, ∃ g2 : Int, ∃ g3 : Nat, (tkM σ g1 g2 g3) ∧
   ∀ (u8 : Int) (σ7 : Mem), R32 u8 → OKm σ7 → (u8 = clS (kd g1 g2 g3) ∧ σ7 = σ) →
   ((0 ≤ u8) →
    ((1 < u8) →
     P29 u8 σ7) ∧
    ((u8 ≤ 1) →
     ((0 ≤ (σ7 74 19) ∧ (σ7 74 19) < 2147483648) ∧ (0 ≤ u8 ∧ u8 < 31)) ∧
     ((¬ (((σ7 74 19)).toNat.testBit (u8).toNat = true)) →
      P29 u8 σ7) ∧
     ((((σ7 74 19)).toNat.testBit (u8).toNat = true) →
      Q 4 σ7))) ∧
   ((u8 < 0) →
    Q 1 σ7)
theorem mt_X12_clause {d : Nat} (hd : 9 ≤ d)  {σ : Mem} {Q : Int → Mem → Prop}  (hO : OKm σ) (h : wp_X12_clause  σ Q) : Mt yX12_clause cX12_clause 5 (some .int) d [aR (74)] σ (QI Q) := by
  refine Mt.intro (by decide +kernel) (Nat.le_of_ble_eq_true rfl) [(0, aR (74))] rfl ?_
  unfold wp_X12_clause at h
  have h := h (fun (v1 : Int) (σ : Mem) => R32 v1 → OKm σ → G yX12_clause cX12_clause 5 (some .int) d (QI Q) 29 [(0, aR (74)), (1, aI (v1))] [] σ)
    (fun (v1 : Int) (v2 : Int) (σ : Mem) => R32 v1 → R32 v2 → OKm σ → G yX12_clause cX12_clause 5 (some .int) d (QI Q) 65 [(0, aR (74)), (1, aI (v1)), (2, aI (v2))] [] σ) ?_ ?_
  · refine G_aload_n 0 rfl rfl dX12_clause_0 ?_
    obtain ⟨g1, g2, g3, c4, h⟩ := h
    refine G_callV (as := []) cf_X12_252 rfl rfl rfl (sp_X12_sortOf (d - 1) (by omega) _ hO  g1 g2 g3 c4) (by omega) rfl rfl (Nat.le_of_ble_eq_true rfl) dX12_clause_1 ?_
    rintro _ σ7 ⟨u8, rfl, z9⟩ o6 r5
    have h := h _ _ (r5 _ rfl) o6 z9
    refine G_istore_n (lv' := [(1, aI (u8)), (0, aR (74))]) rfl rfl (by decide) dX12_clause_4 ?_
    refine G_iload_n 0 rfl rfl dX12_clause_5 ?_
    refine G_if_ge (r5 _ rfl) dX12_clause_6 (tgt := 11) (by decide) (fun c10 => ?_) (fun c10 => ?_)
    · have h := h.1 c10
      refine G_iload_n 0 rfl rfl dX12_clause_11 ?_
      refine G_iconst dX12_clause_12 ?_
      refine G_icmp_gt (r5 _ rfl) (rL 1 rfl) dX12_clause_13 (tgt := 29) (by decide) (fun c11 => ?_) (fun c11 => ?_)
      · have h := h.1 c11
        exact G_pick [1, 0] rfl (h (r5 _ rfl) o6)
      · have h := h.2 c11
        refine G_aload_n 1 rfl rfl dX12_clause_16 ?_
        refine G_get (k := 19) (kd := (0, 0)) (v := aI (σ7 74 19)) gf_X12_255 rfl rfl rfl rfl dX12_clause_17 ?_
        refine G_iload_n 0 rfl rfl dX12_clause_20 ?_
        obtain ⟨c12, h⟩ := h
        refine G_callS (as := [_, _]) cf_X12_258 rfl (sp_X12_has (d - 1) (by omega) _ o6 _ (OKm.i o6 74 19 rfl) _ (r5 _ rfl) c12) (by omega) rfl rfl (Nat.le_of_ble_eq_true rfl) dX12_clause_21 ?_
        rintro _ _ ⟨_, rfl, rfl, rfl⟩ o14 r13
        refine G_if_eq (bI_R _) dX12_clause_24 (tgt := 29) (by decide) (fun c15 => ?_) (fun c15 => ?_)
        · have h := h.1 ((bI_0 _).mp c15)
          exact G_pick [1, 0] rfl (h (r5 _ rfl) o6)
        · have h := h.2 (bI_ne c15)
          refine G_iconst dX12_clause_27 ?_
          exact G_iret rfl (rL 4 rfl) dX12_clause_28 ⟨_, rfl, h⟩ o6
    · have h := h.2 c10
      refine G_iconst dX12_clause_9 ?_
      exact G_iret rfl (rL 1 rfl) dX12_clause_10 ⟨_, rfl, h⟩ o6
  · intro v1 σ h hv1 hO
    have h := h hv1 hO
    refine G_aload_n 0 rfl rfl dX12_clause_29 ?_
    refine G_get (k := 2) (kd := (2, 77)) (v := aR 77) gf_X12_16 rfl rfl rfl rfl dX12_clause_30 ?_
    refine G_aload_n 0 rfl rfl dX12_clause_33 ?_
    refine G_get (k := 12) (kd := (0, 0)) (v := aI (σ 74 12)) gf_X12_151 rfl rfl rfl rfl dX12_clause_34 ?_
    obtain ⟨c16, h⟩ := h
    refine G_iald (n := 2916) rfl c16.1 c16.2 dX12_clause_37 ?_
    refine G_istore_n (lv' := [(2, aI ((σ 77 (σ 74 12)))), (0, aR (74)), (1, aI (v1))]) rfl rfl (by decide) dX12_clause_38 ?_
    refine G_iload_n 0 rfl rfl dX12_clause_39 ?_
    refine G_bipush (by decide) dX12_clause_40 ?_
    refine G_icmp_ne (OKm.i hO 77 (σ 74 12) (isLg_row (show shp 77 = (1, 2916, []) from rfl) _)) (rL 24 rfl) dX12_clause_42 (tgt := 48) (by decide) (fun c17 => ?_) (fun c17 => ?_)
    · have h := h.1 c17
      refine G_iload_n 2 rfl rfl dX12_clause_48 ?_
      refine G_iconst dX12_clause_49 ?_
      refine G_icmp_gt hv1 (rL 1 rfl) dX12_clause_50 (tgt := 65) (by decide) (fun c18 => ?_) (fun c18 => ?_)
      · have h := h.1 c18
        exact G_pick [1, 2, 0] rfl (h hv1 (OKm.i hO 77 (σ 74 12) (isLg_row (show shp 77 = (1, 2916, []) from rfl) _)) hO)
      · have h := h.2 c18
        refine G_aload_n 1 rfl rfl dX12_clause_53 ?_
        refine G_dup rfl dX12_clause_54 ?_
        refine G_get (k := 19) (kd := (0, 0)) (v := aI (σ 74 19)) gf_X12_255 rfl rfl rfl rfl dX12_clause_55 ?_
        refine G_iconst dX12_clause_58 ?_
        refine G_iload_n 2 rfl rfl dX12_clause_59 ?_
        refine G_ishl dX12_clause_60 ?_
        refine G_ior dX12_clause_61 ?_
        obtain ⟨σ19, e21⟩ : ∃ τ : Mem, τ = mset σ 74 19 (bOr (σ 74 19) (bShl 1 v1)) := ⟨_, rfl⟩
        have h := h σ19 e21
        have o20 : OKm σ19 := by rw [e21]; exact OKm.seti hO _ _ _ (r32_of _) rfl
        refine G_put (k := 19) (ki := 19) (kd := (0, 0)) (x := _) pf_X12_255 rfl rfl rfl rfl (fa_i (mset_self _ _ _ _)) (fun _ => rfl) (fun _ => rfl) dX12_clause_62 ?_
        rw [← e21]
        exact G_pick [1, 2, 0] rfl (h hv1 (OKm.i hO 77 (σ 74 12) (isLg_row (show shp 77 = (1, 2916, []) from rfl) _)) o20)
    · have h := h.2 c17
      refine G_bipush (by decide) dX12_clause_45 ?_
      exact G_iret rfl (rL 6 rfl) dX12_clause_47 ⟨_, rfl, h⟩ hO
  · intro v1 v2 σ h hv1 hv2 hO
    have h := h hv1 hv2 hO
    refine G_aload_n 0 rfl rfl dX12_clause_65 ?_
    refine G_iload_n 1 rfl rfl dX12_clause_66 ?_
    obtain ⟨σ22, e24⟩ : ∃ τ : Mem, τ = mset σ 74 14 v1 := ⟨_, rfl⟩
    have h := h σ22 e24
    have o23 : OKm σ22 := by rw [e24]; exact OKm.seti hO _ _ _ hv1 rfl
    refine G_put (k := 14) (ki := 14) (kd := (0, 0)) (x := _) pf_X12_157 rfl rfl rfl rfl (fa_i (mset_self _ _ _ _)) (fun _ => rfl) (fun _ => rfl) dX12_clause_67 ?_
    rw [← e24]
    refine G_aload_n 0 rfl rfl dX12_clause_70 ?_
    obtain ⟨g25, g26, g27, c28, h⟩ := h
    refine G_callV (as := []) cf_X12_180 rfl rfl rfl (sp_X12_nextTokenK (d - 1) (by omega) _ o23  g25 g26 g27 c28) (by omega) rfl rfl (Nat.le_of_ble_eq_true rfl) dX12_clause_71 ?_
    rintro _ σ31 ⟨rfl, z33⟩ o30 r29
    have h := h _ o30 z33
    refine G_aload_n 0 rfl rfl dX12_clause_74 ?_
    refine G_get (k := 12) (kd := (0, 0)) (v := aI (σ31 74 12)) gf_X12_151 rfl rfl rfl rfl dX12_clause_75 ?_
    refine G_iconst dX12_clause_78 ?_
    refine G_iadd dX12_clause_79 ?_
    refine G_iconst dX12_clause_80 ?_
    refine G_iload_n 2 rfl rfl dX12_clause_81 ?_
    refine G_imul dX12_clause_82 ?_
    refine G_iadd dX12_clause_83 ?_
    obtain ⟨c34, h⟩ := h
    have h := h _ rfl
    refine G_istore_n (lv' := [(3, aI (((((σ31 74 12) + 1) + (5 * v2))))), (0, aR (74)), (1, aI (v1)), (2, aI (v2))]) rfl rfl (by decide) dX12_clause_84 ?_
    refine G_aload_n 1 rfl rfl dX12_clause_85 ?_
    refine G_get (k := 2) (kd := (2, 77)) (v := aR 77) gf_X12_16 rfl rfl rfl rfl dX12_clause_86 ?_
    refine G_iload_n 0 rfl rfl dX12_clause_89 ?_
    refine G_iload_n 2 rfl rfl dX12_clause_90 ?_
    obtain ⟨c36, h⟩ := h
    obtain ⟨σ37, e39⟩ : ∃ τ : Mem, τ = mset σ31 77 ((((σ31 74 12) + 1) + (5 * v2))) v1 := ⟨_, rfl⟩
    have h := h σ37 e39
    have o38 : OKm σ37 := by rw [e39]; exact OKm.seti o30 _ _ _ hv1 (isLg_row (show shp 77 = (1, 2916, []) from rfl) _)
    refine G_iast (n := 2916) rfl c36.1 c36.2 dX12_clause_91 ?_
    rw [← e39]
    refine G_aload_n 1 rfl rfl dX12_clause_92 ?_
    refine G_iload_n 2 rfl rfl dX12_clause_93 ?_
    refine G_iload_n 0 rfl rfl dX12_clause_94 ?_
    obtain ⟨g40, g41, g42, g43, g44, c45, h⟩ := h
    refine G_callV (as := [_, _]) cf_X12_262 rfl rfl rfl (sp_X12_body (d - 1) (by omega) _ o38 _ hv1 _ c34 g40 g41 g42 g43 g44 c45) (by omega) rfl rfl (Nat.le_of_ble_eq_true rfl) dX12_clause_95 ?_
    rintro _ σ48 ⟨u49, rfl, z50⟩ o47 r46
    have h := h _ _ (r46 _ rfl) o47 z50
    refine G_istore (lv' := [(4, aI (u49)), (3, aI (((((σ31 74 12) + 1) + (5 * v2))))), (0, aR (74)), (1, aI (v1)), (2, aI (v2))]) rfl (by decide) dX12_clause_98 ?_
    refine G_iload 0 rfl dX12_clause_100 ?_
    refine G_if_eq (r46 _ rfl) dX12_clause_102 (tgt := 108) (by decide) (fun c51 => ?_) (fun c51 => ?_)
    · have h := h.1 c51
      refine G_aload_n 2 rfl rfl dX12_clause_108 ?_
      refine G_get (k := 2) (kd := (2, 77)) (v := aR 77) gf_X12_16 rfl rfl rfl rfl dX12_clause_109 ?_
      refine G_aload_n 2 rfl rfl dX12_clause_112 ?_
      refine G_get (k := 12) (kd := (0, 0)) (v := aI (σ48 74 12)) gf_X12_151 rfl rfl rfl rfl dX12_clause_113 ?_
      refine G_dup2 rfl rfl dX12_clause_116 ?_
      obtain ⟨c52, h⟩ := h
      refine G_iald (n := 2916) rfl c52.1 c52.2 dX12_clause_117 ?_
      refine G_iconst dX12_clause_118 ?_
      refine G_iadd dX12_clause_119 ?_
      obtain ⟨c53, h⟩ := h
      obtain ⟨c54, h⟩ := h
      obtain ⟨σ55, e57⟩ : ∃ τ : Mem, τ = mset σ48 77 (σ48 74 12) ((σ48 77 (σ48 74 12)) + 1) := ⟨_, rfl⟩
      have h := h σ55 e57
      have o56 : OKm σ55 := by rw [e57]; exact OKm.seti o47 _ _ _ c54 (isLg_row (show shp 77 = (1, 2916, []) from rfl) _)
      refine G_iast (n := 2916) rfl c53.1 c53.2 dX12_clause_120 ?_
      rw [← e57]
      refine G_aload_n 2 rfl rfl dX12_clause_121 ?_
      refine G_get (k := 9) (kd := (0, 0)) (v := aI (σ55 74 9)) gf_X12_113 rfl rfl rfl rfl dX12_clause_122 ?_
      refine G_bipush (by decide) dX12_clause_125 ?_
      refine G_icmp_eq (OKm.i o56 74 9 rfl) (rL 59 rfl) dX12_clause_127 (tgt := 132) (by decide) (fun c58 => ?_) (fun c58 => ?_)
      · have h := h.1 c58
        refine G_aload_n 2 rfl rfl dX12_clause_132 ?_
        obtain ⟨g59, g60, g61, c62, h⟩ := h
        refine G_callV (as := []) cf_X12_180 rfl rfl rfl (sp_X12_nextTokenK (d - 1) (by omega) _ o56  g59 g60 g61 c62) (by omega) rfl rfl (Nat.le_of_ble_eq_true rfl) dX12_clause_133 ?_
        rintro _ σ65 ⟨rfl, z67⟩ o64 r63
        have h := h _ o64 z67
        refine G_iconst dX12_clause_136 ?_
        exact G_iret rfl (rL 0 rfl) dX12_clause_137 ⟨_, rfl, h⟩ o64
      · have h := h.2 c58
        refine G_iconst dX12_clause_130 ?_
        exact G_iret rfl (rL 1 rfl) dX12_clause_131 ⟨_, rfl, h⟩ o56
    · have h := h.2 c51
      refine G_iload 0 rfl dX12_clause_105 ?_
      exact G_iret rfl (r46 _ rfl) dX12_clause_107 ⟨_, rfl, h⟩ o47

theorem sp_X12_clause (d : Nat) (hd : 9 ≤ d) (σ : Mem) (hO : OKm σ) (b : Int → Int) (N : Int) (ti : Int) (T : Txt) (i : Nat) (hpre : txS σ b N ti T i) : Mt yX12_clause cX12_clause 5 (some .int) d [aR (74)] σ (QI (fun v σ' => clA b N ti T σ σ' v (pCl (kd b N) (nu b N) T i))) := mt_X12_clause hd  hO (by
  unfold wp_X12_clause
  intro P29 P65 h29 h65
  obtain ⟨ht, ⟨hti, h12⟩, h13, h19, hT, hE⟩ := hpre
  refine ⟨b, N, i, ht, fun u8 σ7 _ _ h => ?_⟩
  obtain ⟨eu, e7⟩ := h
  rw [e7, eu]
  have hp : pCl (kd b N) (nu b N) T i = if clS (kd b N i) < 0 then .inl (1, i) else if (clS (kd b N i) = 0 ∧ T.1.isSome = true) ∨ (clS (kd b N i) = 1 ∧ T.2.1.isSome = true) then .inl (4, i) else if 24 ≤ T.2.2.length then .inl (6, i) else if clS (kd b N i) ≤ 1 then tL (kd b N) T (clS (kd b N i)) (pS (kd b N) (nu b N) (kd b N i) 8 (i + 1)) else tD (kd b N) T (pDeed (kd b N) (nu b N) (clS (kd b N i)) (i + 1)) := rfl
  generalize hc : clS (kd b N i) = c at *
  have hcr := clS_r hc
  refine ⟨fun c0 => ?_, fun c0 => clA.E (by rw [hp, if_pos c0]) rfl (by omega) ht clF.rf⟩
  obtain ⟨hk43, hc7⟩ := hcr.1 c0
  have h300 := kd_300 ht hk43
  rw [if_neg (by omega)] at hp
  have hlen := hT.1
  have hl24 := hT.2.1
  have honc := once_r T
  generalize hn : T.2.2.length = n at *
  have H65 : ∀ τ : Mem, (τ = if c ≤ 1 then mset σ 74 19 (bOr (oncS T) (bShl 1 c)) else σ) → ¬ ((c = 0 ∧ T.1.isSome = true) ∨ (c = 1 ∧ T.2.1.isSome = true)) → ¬ 24 ≤ n → P65 c (n : Int) τ := by
    intro τ eτ hno h24
    rw [if_neg hno, if_neg h24] at hp
    have τj : ∀ j : Int, j ≠ 19 → τ 74 j = σ 74 j := fun j q => by rw [eτ]; split; exact mset_miss q; rfl
    have τq : ∀ q : Nat, q ≠ 74 → τ q = σ q := fun q h => by rw [eτ]; split; exact mset_ne h; rfl
    refine h65 _ _ _ (fun _ _ _ σ22 e22 => ?_)
    have j22 : ∀ j : Int, j ≠ 14 → j ≠ 19 → σ22 74 j = σ 74 j := fun j q1 q2 => by rw [e22, mset_miss q1]; exact τj j q2
    have q22 : ∀ q : Nat, q ≠ 74 → σ22 q = σ q := fun q h => by rw [e22, mset_ne h]; exact τq q h
    have t22 : tkM σ22 b N i := ht.congr (fun j q1 q2 => j22 j (by omega) (by omega)) (q22 78 (by omega))
    refine ⟨b, N, i, t22, fun σ31 _ h => ?_⟩
    obtain ⟨g1, g2, g3⟩ := h
    have j31 : ∀ j : Int, (j < 7 ∨ 11 < j) → j ≠ 14 → j ≠ 19 → σ31 74 j = σ 74 j := fun j q q1 q2 => by rw [g2 j (by omega) (by omega) (by omega) (by omega) (by omega)]; exact j22 j q1 q2
    have q31 : ∀ q : Nat, q ≠ 74 → σ31 q = σ q := fun q h => by rw [g3 q (by simpa using h)]; exact q22 q h
    rw [j31 12 (by omega) (by omega) (by omega), h12]
    refine ⟨by unfold R32; omega, fun y ey => ⟨by omega, fun σ37 e37 => ?_⟩⟩
    have j37 : ∀ j : Int, σ37 74 j = σ31 74 j := fun j => by rw [e37, mset_off (by omega)]
    have k37 : ∀ j : Int, j ≠ y → σ37 77 j = σ 77 j := fun j q => by rw [e37, mset_miss q, q31 77 (by omega)]
    have y37 : σ37 77 y = c := by rw [e37, mset_hit rfl]
    have q37 : ∀ q : Nat, q ≠ 74 → q ≠ 77 → σ37 q = σ q := fun q h1 h2 => by rw [e37, mset_ne h2]; exact q31 q h1
    have t37 : tkM σ37 b N (i + 1) := by rw [e37]; exact g1.set (by omega) (fun q => by omega)
    have s13 : σ37 74 13 = σ 74 13 := by rw [j37, j31 13 (by omega) (by omega) (by omega)]
    have s14 : σ37 74 14 = c := by rw [j37, g2 14 (by omega) (by omega) (by omega) (by omega) (by omega), e22, mset_hit rfl]
    have s19 : σ37 74 19 = if c ≤ 1 then bOr (oncS T) (bShl 1 c) else oncS T := by
      rw [j37, g2 19 (by omega) (by omega) (by omega) (by omega) (by omega), e22, mset_miss (by omega), eτ]
      split
      · rw [mset_hit rfl]
      · exact h19
    have f37 : clF σ σ37 ti := ⟨fun q hq => by simp at hq; exact q37 q (by omega) (by omega), fun j q => by rw [j37]; exact j31 j (by omega) (by omega) (by omega), fun j q => k37 j (by omega)⟩
    refine ⟨b, N, ti, kd b N i, i + 1, ⟨t37, hti, by rw [j37, j31 12 (by omega) (by omega) (by omega)]; exact h12, by rw [s13]; omega, by omega, by omega, fun c1 => ?_⟩, fun u σ48 _ _ h => ?_⟩
    · rw [s14]
      rcases hcr.2 c0 c1 with q | q
      · rw [if_pos q.2]; exact q.1
      · rw [if_neg (by omega)]; exact q.1
    have fin : ∀ (T' : Txt) (j : Nat), i + 1 ≤ j → tkM σ48 b N j → clF σ σ48 ti → σ48 77 (729 * ti) = (n : Int) → (0 ≤ σ48 74 13 ∧ σ48 74 13 ≤ (j : Int)) → σ48 74 19 = oncS T' → T'.2.2.length = n + 1 → (∀ ρ : Mem, (∀ q : Int, q ≠ 729 * ti → ρ 77 q = σ48 77 q) → ρ 77 (729 * ti) = (n : Int) + 1 → textM ρ ti T' ∧ lwE ρ ti T' (σ48 74 13)) → pCl (kd b N) (nu b N) T i = (if kd b N j = 38 then .inr (T', j + 1) else .inl (1, j)) → (0 ≤ (σ48 74 12) ∧ (σ48 74 12) < 2916) ∧ (0 ≤ (σ48 74 12) ∧ (σ48 74 12) < 2916) ∧ R32 ((σ48 77 (σ48 74 12)) + 1) ∧ ∀ σ55 : Mem, σ55 = mset σ48 77 (σ48 74 12) ((σ48 77 (σ48 74 12)) + 1) → (((σ55 74 9) = 59) → ∃ g59 : Int → Int, ∃ g60 : Int, ∃ g61 : Nat, (tkM σ55 g59 g60 g61) ∧ ∀ σ65 : Mem, OKm σ65 → (tkM σ65 g59 g60 (g61 + 1) ∧ (∀ j : Int, j ≠ 7 → j ≠ 8 → j ≠ 9 → j ≠ 10 → j ≠ 11 → σ65 74 j = σ55 74 j) ∧ Fr [74] σ55 σ65) → clA b N ti T σ σ65 0 (pCl (kd b N) (nu b N) T i)) ∧ (((σ55 74 9) ≠ 59) → clA b N ti T σ σ55 1 (pCl (kd b N) (nu b N) T i)) := by
      intro T' j hij t48 f48 e0 w13 o19 hl' hTS hpc
      have s12 : σ48 74 12 = 729 * ti := by rw [f48.2.1 12 (by omega)]; exact h12
      rw [s12, e0]
      refine ⟨by omega, by omega, by unfold R32; omega, fun σ55 e55 => ?_⟩
      have t55 : tkM σ55 b N j := by rw [e55]; exact t48.set (by omega) (fun q => by omega)
      have f55 : clF σ σ55 ti := f48.tr ⟨by rw [e55]; exact (Fr.rf _ _).set (by simp), fun j q => by rw [e55, mset_off (by omega)], fun j q => by rw [e55, mset_miss (by omega)]⟩
      have i59 := (tk_sg t55).2.1.2.2.2.2.2.2.2.2.2.2.2.2
      rw [i59] 
      refine ⟨fun k38 => ⟨b, N, j, t55, fun σ65 _ h => ?_⟩, fun k38 => clA.E (by rw [hpc, if_neg (fun z => k38 (i59.mpr z))]) rfl (by omega) t55 f55⟩
      obtain ⟨q1, q2, q3⟩ := h
      have j65 : ∀ q : Int, (q < 7 ∨ 11 < q) → σ65 74 q = σ48 74 q := fun q z => by rw [q2 q (by omega) (by omega) (by omega) (by omega) (by omega), e55, mset_off (by omega)]
      have f65 : clF σ σ65 ti := f55.tr ⟨q3.wk (by simp), fun j q => q2 j (by omega) (by omega) (by omega) (by omega) (by omega), fun j q => by rw [q3 77 (by simp)]⟩
      have hh := hTS σ65 (fun q z => by rw [q3 77 (by simp), e55, mset_miss z]) (by rw [q3 77 (by simp), e55, mset_hit rfl])
      refine clA.O (by rw [hpc, if_pos k38]) rfl ⟨q1, ⟨hti, by rw [j65 12 (by omega)]; exact s12⟩, by rw [j65 13 (by omega)]; omega, by rw [j65 19 (by omega)]; exact o19, hh.1, by rw [j65 13 (by omega)]; exact hh.2⟩ f65 (by rw [hl', hn])
    have y1 : y = 729 * ti + 1 + 5 * (n : Int) := by omega
    by_cases c1 : c ≤ 1
    · have hl := h.2 c1
      rw [if_pos c1] at hp s19
      have hkc := hcr.2 c0 c1
      have clFl : lwF σ37 σ48 ti y (σ37 74 13) → clF σ σ48 ti := fun hf => f37.tr ⟨hf.1, fun j q => hf.2.1 j (by omega), fun j q => hf.2.2 j (by omega) (by omega) (by omega)⟩
      cases hr : pS (kd b N) (nu b N) (kd b N i) 8 (i + 1) with
      | inl e =>
        rw [hr] at hl hp
        obtain ⟨a1, a2, a3, a4⟩ := hl
        exact ⟨fun q => absurd q (by omega), fun _ => clA.E hp a1 a2 a3 (clFl a4)⟩
      | inr q =>
        obtain ⟨f, j⟩ := q
        have hg := pS_g (lw := kd b N i) (nu_nn ht.1) 8 _ _ _ hr
        rw [hr] at hl hp
        obtain ⟨a1, a3, a4, a5, a6, a7, a8⟩ := hl
        rw [s13] at a4 a6 a7
        have hab := a7.1
        have k48 : ∀ q : Int, q ≠ y → q ≠ y + 1 → q ≠ y + 2 → (q < 729 * ti + 121 + 2 * σ 74 13 ∨ 729 * ti + 729 ≤ q) → σ48 77 q = σ 77 q := fun q z0 z1 z2 z3 => by rw [a4.2.2 q z1 z2 z3]; exact k37 q z0
        have e0 : σ48 77 (729 * ti) = (n : Int) := by rw [k48 _ (by omega) (by omega) (by omega) (by omega)]; exact hlen
        have st : ∀ ρ : Mem, (∀ q : Int, q ≠ 729 * ti → ρ 77 q = σ48 77 q) → stA σ ρ ti n (σ 74 13) := fun ρ z j hj => by rw [z j (by omega)]; exact k48 j (by omega) (by omega) (by omega) (by omega)
        have yc : σ48 77 y = c := by rw [a4.2.2 y (by omega) (by omega) (by omega)]; exact y37
        refine ⟨fun _ => fin (addL T c f) j (by have := hg.2; omega) a3 (clFl (by rw [s13]; exact a4)) e0 (by omega) ?_ ?_ ?_ hp, fun z => absurd a1 z⟩
        · rw [a4.2.1 19 (by omega), s19]
          exact once_a (by rcases hkc with z | z; exact .inl ⟨z.1, fun q => hno (.inl ⟨z.1, q⟩)⟩; exact .inr ⟨z.1, fun q => hno (.inr ⟨z.1, q⟩)⟩)
        · unfold addL; split <;> simp [hn]
        · intro ρ z z0
          have sρ := st ρ z
          rw [← hn] at sρ
          have x1 : ρ 77 (y + 1) = σ 74 13 := by rw [z _ (by omega)]; exact a6.1
          have x2 : ρ 77 (y + 2) = σ48 74 13 := by rw [z _ (by omega)]; exact a6.2
          have xc : ρ 77 y = c := by rw [z _ (by omega)]; exact yc
          have hF : FM (cdM ρ ti) (ovM ρ ti) (ρ 77 (y + 1)) (ρ 77 (y + 2)) f := by
            rw [x1, x2]; exact a7.congr (fun j q1 q2 => ⟨z _ (by omega), z _ (by omega)⟩)
          rw [y1] at hF x1 x2 xc
          have new : ∀ s : Int, c = s → (∀ (k : Nat) (d : Cl), T.2.2[k]? = some d → d.1 ≠ s) → lawM ρ ti s (some f) (T.2.2 ++ [(s, 0, 0, 0, 0)]) := fun s es hnone => by
            refine ⟨a8, n, (s, 0, 0, 0, 0), by rw [← hn]; simp, rfl, fun k' d' q1 q2 => ?_, by rw [x1]; omega, by rw [x2]; omega, hF⟩
            rcases get_app q2 with w | w
            · exact hnone k' d' w.2
            · omega
          have hz : ∀ s : Int, clQ ρ (729 * ti + 1 + 5 * (T.2.2.length : Int)) (s, 0, 0, 0, 0) ↔ clOK (s, 0, 0, 0, 0) ∧ (1 ≤ clN s → ρ 77 (729 * ti + 1 + 5 * (T.2.2.length : Int) + 1) = 0) ∧ (2 ≤ clN s → ρ 77 (729 * ti + 1 + 5 * (T.2.2.length : Int) + 2) = 0) ∧ (4 ≤ clN s → ρ 77 (729 * ti + 1 + 5 * (T.2.2.length : Int) + 3) = 0 ∧ ρ 77 (729 * ti + 1 + 5 * (T.2.2.length : Int) + 4) = 0) := fun s => Iff.rfl
          rw [← hn] at z0 x2 xc h24
          rcases hkc with ⟨w, wk⟩ | ⟨w, wk⟩
          · have hnone : T.1 = none := by
              cases hq : T.1 with
              | none => rfl
              | some g => exact absurd (.inl ⟨w, by rw [hq]; rfl⟩) hno
            have l0 := hT.2.2.1
            rw [hnone] at l0
            rw [wk] at hg
            have ea : addL T c f = (some f, T.2.1, T.2.2 ++ [(0, 0, 0, 0, 0)]) := by unfold addL; rw [if_pos w]
            rw [ea]
            exact ⟨hT.add (by omega) sρ z0 (by rw [xc]; exact w) ((hz 0).mpr ⟨.inl (.inl rfl), fun q => absurd q (by decide), fun q => absurd q (by decide), fun q => absurd q (by decide)⟩) (hg.1.okT1 hT.2.2.2.2.1) (new 0 w l0) (hT.2.2.2.1.add (by omega) (by decide) sρ hE), hE.add (by omega) sρ (fun _ => by rw [x2]; omega)⟩
          · have hnone : T.2.1 = none := by
              cases hq : T.2.1 with
              | none => rfl
              | some g => exact absurd (.inr ⟨w, by rw [hq]; rfl⟩) hno
            have l0 := hT.2.2.2.1
            rw [hnone] at l0
            rw [wk] at hg
            have ea : addL T c f = (T.1, some f, T.2.2 ++ [(1, 0, 0, 0, 0)]) := by unfold addL; rw [if_neg (by omega)]
            rw [ea]
            exact ⟨hT.add (by omega) sρ z0 (by rw [xc]; exact w) ((hz 1).mpr ⟨.inl (.inr rfl), fun q => absurd q (by decide), fun q => absurd q (by decide), fun q => absurd q (by decide)⟩) (hg.1.okT2 hT.2.2.2.2.1) (hT.2.2.1.add (by omega) (by decide) sρ hE) (new 1 w l0), hE.add (by omega) sρ (fun _ => by rw [x2]; omega)⟩
    · have hl := h.1 (by omega)
      rw [if_neg c1] at hp s19
      have clFl : fgF σ37 σ48 (y + 1) (y + 5) → clF σ σ48 ti := fun hf => f37.tr ⟨hf.1.wk (by simp), fun j q => hf.2.1 j (by omega), fun j q => hf.2.2 j (by omega)⟩
      cases hr : pDeed (kd b N) (nu b N) c (i + 1) with
      | inl e =>
        rw [hr] at hl hp
        obtain ⟨a1, a2, a3, a4⟩ := hl
        exact ⟨fun q => absurd q (by omega), fun _ => clA.E hp a1 a2 a3 (clFl a4)⟩
      | inr q =>
        obtain ⟨cl, j⟩ := q
        have hdr := pDeed_r (by omega) hr
        rw [hr] at hl hp
        obtain ⟨a1, a3, a4, a5⟩ := hl
        have k48 : ∀ q : Int, (q < y ∨ y + 5 ≤ q) → σ48 77 q = σ 77 q := fun q z => by rw [a4.2.2 q (by omega)]; exact k37 q (by omega)
        have e0 : σ48 77 (729 * ti) = (n : Int) := by rw [k48 _ (by omega)]; exact hlen
        have yc : σ48 77 y = c := by rw [a4.2.2 y (by omega)]; exact y37
        have c13 : σ48 74 13 = σ 74 13 := by rw [a4.2.1 13 (by omega)]; exact s13
        refine ⟨fun _ => fin (addD T cl) j (by have := hdr.2; omega) a3 (clFl a4) e0 (by have := hdr.2; omega) ?_ ?_ ?_ hp, fun z => absurd a1 z⟩
        · rw [a4.2.1 19 (by omega), s19]; rfl
        · show (T.2.2 ++ [cl]).length = n + 1; simp [hn]
        · intro ρ z z0
          have sρ : stA σ ρ ti n (σ 74 13) := fun j hj => by rw [z j (by omega)]; exact k48 j (by omega)
          have xc : ρ 77 y = c := by rw [z _ (by omega)]; exact yc
          have hcm : clQ ρ y cl := by
            unfold clQ at *
            rw [z _ (by omega), z _ (by omega), z _ (by omega), z _ (by omega)]; exact a5
          rw [y1] at xc hcm
          rw [← hn] at sρ z0 xc h24 hcm
          rw [c13]
          exact ⟨hT.add (by omega) sρ z0 (by rw [xc]; exact hdr.1.symm) hcm hT.2.2.2.2.1 (hT.2.2.1.add (by omega) (by omega) sρ hE) (hT.2.2.2.1.add (by omega) (by omega) sρ hE), hE.add (by omega) sρ (fun q => by omega)⟩
  have H29 : ¬ ((c = 0 ∧ T.1.isSome = true) ∨ (c = 1 ∧ T.2.1.isSome = true)) → P29 c σ := by
    intro hno
    refine h29 _ _ (fun _ _ => ?_)
    rw [h12, hlen, h19]
    refine ⟨by omega, fun h24 => ⟨fun c1 => H65 σ (by rw [if_neg (by omega)]) hno (by omega), fun c1 σ19 e19 => H65 σ19 (by rw [if_pos c1]; exact e19) hno (by omega)⟩, fun h24 => clA.E (by rw [hp, if_neg hno, if_pos (by omega)]) rfl (by omega) ht clF.rf⟩
  refine ⟨fun c1 => H29 (by omega), fun c1 => ?_⟩
  rw [h19, once_t (by omega)]
  exact ⟨by omega, fun hno => H29 hno, fun hyes => clA.E (by rw [hp, if_pos hyes]) rfl (by omega) ht clF.rf⟩)
