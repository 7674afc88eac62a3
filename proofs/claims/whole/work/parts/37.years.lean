def dgS (A : Mem) (x : Int) : Int := if 0 < A 10 1 then x % A 10 1 else -1
def drS (A : Mem) (x : Int) : Int := if 0 < A 10 0 then x / 6 % A 10 0 else -1
/-- one of YEARS' deeds -/
def doneS (A : Mem) (tx : Nat → Txt) (x : Int) : Mem :=
  if x % 6 ≤ 1 then (if canGoV A tx (dgS A x) (drS A x) = true then goneS A tx (dgS A x) (drS A x) else A)
  else if x % 6 = 2 then (if canLayS A (drS A x) = true then layS A (drS A x) else A)
  else if x % 6 = 3 then (if A 0 0 + (1 + x % 9) ≤ 999 then coilS A (1 + x % 9) else A)
  else if A 0 2 < 9999 then (passS A tx).1 else A
def deedS (A : Mem) (tx : Nat → Txt) : Mem := doneS (mset A 0 3 (nxt (A 0 3))) tx (A 0 3)
def deedN (tx : Nat → Txt) (A : Mem) : Nat → Mem
  | 0 => A
  | n + 1 => deedS (deedN tx A n) tx
theorem canGoV_neg {A : Mem} {tx : Nat → Txt} {g r : Int} (h : g < 0 ∨ r < 0) : canGoV A tx g r = false := by
  unfold canGoV; rw [decide_eq_false (fun q => by omega)]; rfl
theorem canLayS_neg {A : Mem} {r : Int} (h : r < 0) : canLayS A r = false := decide_eq_false (fun q => by omega)

def wp_X12_happens (x1 : Int) (σ : Mem) (Q : Mem → Prop) : Prop :=
  R32 (Int.tmod x1 6) ∧
   (((Int.tmod x1 6) ≤ 3) →
    R32 (Int.tmod x1 6) ∧
    (((Int.tmod x1 6) ≠ 3) →
     (((σ 75 0) ≠ 0) →
      R32 (Int.tdiv x1 6) ∧
      ((σ 75 0) ≠ 0) ∧
      R32 (Int.tmod (Int.tdiv x1 6) (σ 75 0)) ∧
      ∀ y9 : Int, y9 = (Int.tmod (Int.tdiv x1 6) (σ 75 0)) →
      R32 (Int.tmod x1 6) ∧
      (((Int.tmod x1 6) ≠ 2) →
       (((σ 75 1) ≤ 0) →
        Q σ) ∧
       ((0 < (σ 75 1)) →
        ((σ 75 1) ≠ 0) ∧
        R32 (Int.tmod x1 (σ 75 1)) ∧
        ∃ g15 : Mem, ∃ g16 : Nat → Txt, (vwM σ g15 g16) ∧
        ∀ (u21 : Int) (σ20 : Mem), R32 u21 → OKm σ20 → (u21 = (if canGoV g15 g16 (Int.tmod x1 (σ 75 1)) y9 = true then 1 else 0) ∧ vwM σ20 g15 g16 ∧ Fr F80 σ σ20) →
        ((u21 = 0) →
         Q σ20) ∧
        ((u21 ≠ 0) →
         ((σ20 75 1) ≠ 0) ∧
         R32 (Int.tmod x1 (σ20 75 1)) ∧
         ∃ g26 : Mem, ∃ g27 : Nat → Txt, (vwM σ20 g26 g27 ∧ (0 ≤ (Int.tmod x1 (σ20 75 1)) ∧ (Int.tmod x1 (σ20 75 1)) < g26 10 1) ∧ (0 ≤ y9 ∧ y9 < g26 10 0) ∧ canGo g26 g27 (Int.tmod x1 (σ20 75 1)) y9 = true ∧ (0 ≤ σ20 74 24 ∧ σ20 74 24 < 1000000000)) ∧
         ∀ (u32 : Int) (σ31 : Mem), R32 u32 → OKm σ31 → (u32 = acrS g26 y9 (g26 2 (Int.tmod x1 (σ20 75 1))) ∧ vwM σ31 (goneW (σ20 74 23) g26 g27 (Int.tmod x1 (σ20 75 1)) y9) g27 ∧ σ31 74 24 = σ20 74 24 + 1 ∧ keepM σ20 σ31) →
         Q σ31))) ∧
      (((Int.tmod x1 6) = 2) →
       ∃ g34 : Mem, ∃ g35 : Nat → Txt, (vwM σ g34 g35) ∧
       ∀ (u40 : Int) (σ39 : Mem), R32 u40 → OKm σ39 → (u40 = (if canLayS g34 y9 = true then 1 else 0) ∧ σ39 = σ) →
       ((u40 = 0) →
        Q σ39) ∧
       ((u40 ≠ 0) →
        ∃ g43 : Mem, ∃ g44 : Nat → Txt, (vwM σ39 g43 g44 ∧ canLayS g43 y9 = true) ∧
        ∀ σ48 : Mem, OKm σ48 → (vwM σ48 (layS g43 y9) g44 ∧ keepM σ39 σ48 ∧ σ48 74 = σ39 74) →
        Q σ48))) ∧
     (((σ 75 0) = 0) →
      Q σ)) ∧
    (((Int.tmod x1 6) = 3) →
     R32 (((σ 75 9) + 1) + (Int.tmod x1 9)) ∧
     ((999 < (((σ 75 9) + 1) + (Int.tmod x1 9))) →
      Q σ) ∧
     (((((σ 75 9) + 1) + (Int.tmod x1 9)) ≤ 999) →
      R32 ((σ 75 9) + (1 + (Int.tmod x1 9))) ∧
      ∀ σ54 : Mem, σ54 = mset σ 75 9 ((σ 75 9) + (1 + (Int.tmod x1 9))) →
      Q σ54))) ∧
   ((3 < (Int.tmod x1 6)) →
    ((9999 ≤ (σ 75 6)) →
     Q σ) ∧
    (((σ 75 6) < 9999) →
     ∃ g58 : Mem, ∃ g59 : Nat → Txt, (vwM σ g58 g59 ∧ g58 0 2 < 9999 ∧ (0 ≤ σ 74 24 ∧ σ 74 24 < 900000000)) ∧
     ∀ σ63 : Mem, OKm σ63 → (vwM σ63 (passW (σ 74 23) g58 g59).1 g59 ∧ σ63 74 24 = σ 74 24 + (passW (σ 74 23) g58 g59).2 ∧ keepM σ σ63) →
     Q σ63))
theorem mt_X12_happens {d : Nat} (hd : 9 ≤ d) {x1 : Int} {σ : Mem} {Q : Mem → Prop} (hx1 : R32 x1) (hO : OKm σ) (h : wp_X12_happens x1 σ Q) : Mt yX12_happens cX12_happens 3 none d [aR (74), aI (x1)] σ (QV Q) := by
  refine Mt.intro (by decide +kernel) (Nat.le_of_ble_eq_true rfl) [(0, aR (74)), (1, aI (x1))] rfl ?_
  unfold wp_X12_happens at h
  refine G_iload_n 1 rfl rfl dX12_happens_0 ?_
  refine G_bipush (by decide) dX12_happens_1 ?_
  refine G_irem hx1 (rL 6 rfl) (by decide) dX12_happens_3 ?_
  refine G_iconst dX12_happens_4 ?_
  obtain ⟨c1, h⟩ := h
  refine G_icmp_le c1 (rL 3 rfl) dX12_happens_5 (tgt := 26) (by decide) (fun c2 => ?_) (fun c2 => ?_)
  · have h := h.1 c2
    refine G_iload_n 1 rfl rfl dX12_happens_26 ?_
    refine G_bipush (by decide) dX12_happens_27 ?_
    refine G_irem hx1 (rL 6 rfl) (by decide) dX12_happens_29 ?_
    refine G_iconst dX12_happens_30 ?_
    obtain ⟨c3, h⟩ := h
    refine G_icmp_ne c3 (rL 3 rfl) dX12_happens_31 (tgt := 71) (by decide) (fun c4 => ?_) (fun c4 => ?_)
    · have h := h.1 c4
      refine G_aload_n 0 rfl rfl dX12_happens_71 ?_
      refine G_get (k := 0) (kd := (2, 75)) (v := aR 75) gf_X12_7 rfl rfl rfl rfl dX12_happens_72 ?_
      refine G_iconst dX12_happens_75 ?_
      refine G_iald (n := 2119) rfl (by decide) (by decide) dX12_happens_76 ?_
      refine G_if_ne (OKm.i hO 75 0 (isLg_row (show shp 75 = (1, 2119, []) from rfl) _)) dX12_happens_77 (tgt := 81) (by decide) (fun c5 => ?_) (fun c5 => ?_)
      · have h := h.1 c5
        refine G_iload_n 1 rfl rfl dX12_happens_81 ?_
        refine G_bipush (by decide) dX12_happens_82 ?_
        refine G_idiv hx1 (rL 6 rfl) (by decide) dX12_happens_84 ?_
        refine G_aload_n 0 rfl rfl dX12_happens_85 ?_
        refine G_get (k := 0) (kd := (2, 75)) (v := aR 75) gf_X12_7 rfl rfl rfl rfl dX12_happens_86 ?_
        refine G_iconst dX12_happens_89 ?_
        refine G_iald (n := 2119) rfl (by decide) (by decide) dX12_happens_90 ?_
        obtain ⟨c6, h⟩ := h
        obtain ⟨c7, h⟩ := h
        refine G_irem c6 (OKm.i hO 75 0 (isLg_row (show shp 75 = (1, 2119, []) from rfl) _)) c7 dX12_happens_91 ?_
        obtain ⟨c8, h⟩ := h
        have h := h _ rfl
        refine G_istore_n (lv' := [(2, aI (((Int.tmod (Int.tdiv x1 6) (σ 75 0))))), (0, aR (74)), (1, aI (x1))]) rfl rfl (by decide) dX12_happens_92 ?_
        refine G_iload_n 2 rfl rfl dX12_happens_93 ?_
        refine G_bipush (by decide) dX12_happens_94 ?_
        refine G_irem hx1 (rL 6 rfl) (by decide) dX12_happens_96 ?_
        refine G_iconst dX12_happens_97 ?_
        obtain ⟨c10, h⟩ := h
        refine G_icmp_ne c10 (rL 2 rfl) dX12_happens_98 (tgt := 117) (by decide) (fun c11 => ?_) (fun c11 => ?_)
        · have h := h.1 c11
          refine G_aload_n 1 rfl rfl dX12_happens_117 ?_
          refine G_get (k := 0) (kd := (2, 75)) (v := aR 75) gf_X12_7 rfl rfl rfl rfl dX12_happens_118 ?_
          refine G_iconst dX12_happens_121 ?_
          refine G_iald (n := 2119) rfl (by decide) (by decide) dX12_happens_122 ?_
          refine G_if_le (OKm.i hO 75 1 (isLg_row (show shp 75 = (1, 2119, []) from rfl) _)) dX12_happens_123 (tgt := 156) (by decide) (fun c12 => ?_) (fun c12 => ?_)
          · have h := h.1 c12
            exact G_vret rfl dX12_happens_156 ⟨rfl, h⟩ hO
          · have h := h.2 c12
            refine G_aload_n 1 rfl rfl dX12_happens_126 ?_
            refine G_iload_n 2 rfl rfl dX12_happens_127 ?_
            refine G_aload_n 1 rfl rfl dX12_happens_128 ?_
            refine G_get (k := 0) (kd := (2, 75)) (v := aR 75) gf_X12_7 rfl rfl rfl rfl dX12_happens_129 ?_
            refine G_iconst dX12_happens_132 ?_
            refine G_iald (n := 2119) rfl (by decide) (by decide) dX12_happens_133 ?_
            obtain ⟨c13, h⟩ := h
            refine G_irem hx1 (OKm.i hO 75 1 (isLg_row (show shp 75 = (1, 2119, []) from rfl) _)) c13 dX12_happens_134 ?_
            refine G_iload_n 0 rfl rfl dX12_happens_135 ?_
            obtain ⟨c14, h⟩ := h
            obtain ⟨g15, g16, c17, h⟩ := h
            refine G_callV (as := [_, _]) cf_X12_352 rfl rfl rfl (sp_X12_canGo (d - 1) (by omega) _ hO _ c14 _ c8 g15 g16 c17) (by omega) rfl rfl (Nat.le_of_ble_eq_true rfl) dX12_happens_136 ?_
            rintro _ σ20 ⟨u21, rfl, z22⟩ o19 r18
            have h := h _ _ (r18 _ rfl) o19 z22
            refine G_if_eq (r18 _ rfl) dX12_happens_139 (tgt := 156) (by decide) (fun c23 => ?_) (fun c23 => ?_)
            · have h := h.1 c23
              exact G_vret rfl dX12_happens_156 ⟨rfl, h⟩ o19
            · have h := h.2 c23
              refine G_aload_n 1 rfl rfl dX12_happens_142 ?_
              refine G_iload_n 2 rfl rfl dX12_happens_143 ?_
              refine G_aload_n 1 rfl rfl dX12_happens_144 ?_
              refine G_get (k := 0) (kd := (2, 75)) (v := aR 75) gf_X12_7 rfl rfl rfl rfl dX12_happens_145 ?_
              refine G_iconst dX12_happens_148 ?_
              refine G_iald (n := 2119) rfl (by decide) (by decide) dX12_happens_149 ?_
              obtain ⟨c24, h⟩ := h
              refine G_irem hx1 (OKm.i o19 75 1 (isLg_row (show shp 75 = (1, 2119, []) from rfl) _)) c24 dX12_happens_150 ?_
              refine G_iload_n 0 rfl rfl dX12_happens_151 ?_
              obtain ⟨c25, h⟩ := h
              obtain ⟨g26, g27, c28, h⟩ := h
              refine G_callV (as := [_, _]) cf_X12_367 rfl rfl rfl (sp_X12_goNow (d - 1) (by omega) _ o19 _ c25 _ c8 g26 g27 c28) (by omega) rfl rfl (Nat.le_of_ble_eq_true rfl) dX12_happens_152 ?_
              rintro _ σ31 ⟨u32, rfl, z33⟩ o30 r29
              have h := h _ _ (r29 _ rfl) o30 z33
              refine G_pop rfl dX12_happens_155 ?_
              exact G_vret rfl dX12_happens_156 ⟨rfl, h⟩ o30
        · have h := h.2 c11
          refine G_aload_n 1 rfl rfl dX12_happens_101 ?_
          refine G_iload_n 0 rfl rfl dX12_happens_102 ?_
          obtain ⟨g34, g35, c36, h⟩ := h
          refine G_callV (as := [_]) cf_X12_376 rfl rfl rfl (sp_X12_canRelay (d - 1) (by omega) _ hO _ c8 g34 g35 c36) (by omega) rfl rfl (Nat.le_of_ble_eq_true rfl) dX12_happens_103 ?_
          rintro _ σ39 ⟨u40, rfl, z41⟩ o38 r37
          have h := h _ _ (r37 _ rfl) o38 z41
          refine G_if_eq (r37 _ rfl) dX12_happens_106 (tgt := 156) (by decide) (fun c42 => ?_) (fun c42 => ?_)
          · have h := h.1 c42
            exact G_vret rfl dX12_happens_156 ⟨rfl, h⟩ o38
          · have h := h.2 c42
            refine G_aload_n 1 rfl rfl dX12_happens_109 ?_
            refine G_iload_n 0 rfl rfl dX12_happens_110 ?_
            obtain ⟨g43, g44, c45, h⟩ := h
            refine G_callV (as := [_]) cf_X12_379 rfl rfl rfl (sp_X12_relayNow (d - 1) (by omega) _ o38 _ c8 g43 g44 c45) (by omega) rfl rfl (Nat.le_of_ble_eq_true rfl) dX12_happens_111 ?_
            rintro _ σ48 ⟨rfl, z50⟩ o47 r46
            have h := h _ o47 z50
            refine G_goto (tgt := 156) dX12_happens_114 (by decide) ?_
            exact G_vret rfl dX12_happens_156 ⟨rfl, h⟩ o47
      · have h := h.2 c5
        exact G_vret rfl dX12_happens_80 ⟨rfl, h⟩ hO
    · have h := h.2 c4
      refine G_aload_n 0 rfl rfl dX12_happens_34 ?_
      refine G_get (k := 0) (kd := (2, 75)) (v := aR 75) gf_X12_7 rfl rfl rfl rfl dX12_happens_35 ?_
      refine G_bipush (by decide) dX12_happens_38 ?_
      refine G_iald (n := 2119) rfl (by decide) (by decide) dX12_happens_40 ?_
      refine G_iconst dX12_happens_41 ?_
      refine G_iadd dX12_happens_42 ?_
      refine G_iload_n 1 rfl rfl dX12_happens_43 ?_
      refine G_bipush (by decide) dX12_happens_44 ?_
      refine G_irem hx1 (rL 9 rfl) (by decide) dX12_happens_46 ?_
      refine G_iadd dX12_happens_47 ?_
      refine G_sipush (by decide) dX12_happens_48 ?_
      obtain ⟨c51, h⟩ := h
      refine G_icmp_gt c51 (rL 999 rfl) dX12_happens_51 (tgt := 70) (by decide) (fun c52 => ?_) (fun c52 => ?_)
      · have h := h.1 c52
        exact G_vret rfl dX12_happens_70 ⟨rfl, h⟩ hO
      · have h := h.2 c52
        refine G_aload_n 0 rfl rfl dX12_happens_54 ?_
        refine G_get (k := 0) (kd := (2, 75)) (v := aR 75) gf_X12_7 rfl rfl rfl rfl dX12_happens_55 ?_
        refine G_bipush (by decide) dX12_happens_58 ?_
        refine G_dup2 rfl rfl dX12_happens_60 ?_
        refine G_iald (n := 2119) rfl (by decide) (by decide) dX12_happens_61 ?_
        refine G_iconst dX12_happens_62 ?_
        refine G_iload_n 1 rfl rfl dX12_happens_63 ?_
        refine G_bipush (by decide) dX12_happens_64 ?_
        refine G_irem hx1 (rL 9 rfl) (by decide) dX12_happens_66 ?_
        refine G_iadd dX12_happens_67 ?_
        refine G_iadd dX12_happens_68 ?_
        obtain ⟨c53, h⟩ := h
        obtain ⟨σ54, e56⟩ : ∃ τ : Mem, τ = mset σ 75 9 ((σ 75 9) + (1 + (Int.tmod x1 9))) := ⟨_, rfl⟩
        have h := h σ54 e56
        have o55 : OKm σ54 := by rw [e56]; exact OKm.seti hO _ _ _ c53 (isLg_row (show shp 75 = (1, 2119, []) from rfl) _)
        refine G_iast (n := 2119) rfl (by decide) (by decide) dX12_happens_69 ?_
        rw [← e56]
        exact G_vret rfl dX12_happens_70 ⟨rfl, h⟩ o55
  · have h := h.2 c2
    refine G_aload_n 0 rfl rfl dX12_happens_8 ?_
    refine G_get (k := 0) (kd := (2, 75)) (v := aR 75) gf_X12_7 rfl rfl rfl rfl dX12_happens_9 ?_
    refine G_bipush (by decide) dX12_happens_12 ?_
    refine G_iald (n := 2119) rfl (by decide) (by decide) dX12_happens_14 ?_
    refine G_sipush (by decide) dX12_happens_15 ?_
    refine G_icmp_ge (OKm.i hO 75 6 (isLg_row (show shp 75 = (1, 2119, []) from rfl) _)) (rL 9999 rfl) dX12_happens_18 (tgt := 25) (by decide) (fun c57 => ?_) (fun c57 => ?_)
    · have h := h.1 c57
      exact G_vret rfl dX12_happens_25 ⟨rfl, h⟩ hO
    · have h := h.2 c57
      refine G_aload_n 0 rfl rfl dX12_happens_21 ?_
      obtain ⟨g58, g59, c60, h⟩ := h
      refine G_callV (as := []) cf_X12_382 rfl rfl rfl (sp_X12_pass (d - 1) (by omega) _ hO  g58 g59 c60) (by omega) rfl rfl (Nat.le_of_ble_eq_true rfl) dX12_happens_22 ?_
      rintro _ σ63 ⟨rfl, z65⟩ o62 r61
      have h := h _ o62 z65
      exact G_vret rfl dX12_happens_25 ⟨rfl, h⟩ o62

theorem sp_X12_happens (d : Nat) (hd : 9 ≤ d) (σ : Mem) (hO : OKm σ) (x1 : Int) (hx1 : R32 x1) (A : Mem) (tx : Nat → Txt) (hpre : vwM σ A tx ∧ σ 74 23 = 1 ∧ (0 ≤ x1 ∧ x1 ≤ 30726) ∧ (0 ≤ σ 74 24 ∧ σ 74 24 < 850000000)) : Mt yX12_happens cX12_happens 3 none d [aR (74), aI (x1)] σ (QV (fun σ' => vwM σ' (doneS A tx x1) tx ∧ keepM σ σ' ∧ σ 74 24 ≤ σ' 74 24 ∧ σ' 74 24 ≤ σ 74 24 + 6)) := mt_X12_happens hd hx1 hO (by
  unfold wp_X12_happens
  obtain ⟨hV, hw, hx, hgo⟩ := hpre
  have hI := hV.2.2.1
  have hc := hI.1
  have k3 := hI.2.2.2.1
  have e0 : σ 75 0 = A 10 0 := hV.1.1.1
  have e1 : σ 75 1 = A 10 1 := hV.1.1.2.1
  have e6 : σ 75 6 = A 0 2 := hV.2.1.1.1
  have e9 : σ 75 9 = A 0 0 := hV.2.1.1.2.2.2.1
  have m6 : Int.tmod x1 6 = x1 % 6 := tmodP hx.1
  have m9 : Int.tmod x1 9 = x1 % 9 := tmodP hx.1
  have d6 : Int.tdiv x1 6 = x1 / 6 := tdivP hx.1
  have r6 : 0 ≤ x1 % 6 ∧ x1 % 6 < 6 := mod_r (by omega)
  have r9 : 0 ≤ x1 % 9 ∧ x1 % 9 < 9 := mod_r (by omega)
  have rd : 0 ≤ x1 / 6 ∧ x1 / 6 ≤ 30726 := by omega
  have mr : Int.tmod (x1 / 6) (A 10 0) = x1 / 6 % A 10 0 := tmodP rd.1
  have mg : Int.tmod x1 (A 10 1) = x1 % A 10 1 := tmodP hx.1
  have hw0 : σ 74 23 ≠ 0 := by omega
  rw [m6, m9, d6, e0, e1, e6, e9, mr, mg]
  have same : doneS A tx x1 = A → vwM σ (doneS A tx x1) tx ∧ keepM σ σ ∧ σ 74 24 ≤ σ 74 24 ∧ σ 74 24 ≤ σ 74 24 + 6 := fun h => by rw [h]; exact ⟨hV, keepM.rf _, by omega, by omega⟩
  refine ⟨by unfold R32; omega, fun h3 => ⟨by unfold R32; omega, fun hn3 => ⟨fun hr0 => ?_, fun hr0 => ?_⟩, fun he3 => ?_⟩, fun h3 => ⟨fun h => ?_, fun h => ?_⟩⟩
  · have hpos : 0 < A 10 0 := by omega
    have rr : 0 ≤ x1 / 6 % A 10 0 ∧ x1 / 6 % A 10 0 < A 10 0 := mod_r hpos
    have edr : drS A x1 = x1 / 6 % A 10 0 := by unfold drS; rw [if_pos hpos]
    refine ⟨by unfold R32; omega, hr0, by unfold R32; omega, ?_⟩
    intro y9 e9y
    rw [e9y]
    refine ⟨by unfold R32; omega, fun hn2 => ⟨fun hg0 => ?_, fun hg0 => ?_⟩, fun he2 => ?_⟩
    · apply same
      unfold doneS
      rw [if_pos (by omega), canGoV_neg (Or.inl (by unfold dgS; rw [if_neg (by omega)]; omega))]; rfl
    · have rg : 0 ≤ x1 % A 10 1 ∧ x1 % A 10 1 < A 10 1 := mod_r hg0
      have edg : dgS A x1 = x1 % A 10 1 := by unfold dgS; rw [if_pos hg0]
      refine ⟨by omega, by unfold R32; omega, A, tx, hV, ?_⟩
      intro u21 σ20 hu21 hO20 ⟨eu21, hV20, hF20⟩
      have f1 : σ20 75 1 = A 10 1 := hV20.1.1.2.1
      cases hc2 : canGoV A tx (x1 % A 10 1) (x1 / 6 % A 10 0) with
      | false =>
        rw [hc2] at eu21
        have eu21 : u21 = 0 := by simpa using eu21
        refine ⟨fun _ => ?_, fun h => absurd eu21 h⟩
        have : doneS A tx x1 = A := by unfold doneS; rw [if_pos (by omega), edg, edr, hc2]; rfl
        rw [this]
        exact ⟨hV20, keepM.of80 hF20, by rw [hF20 74 (by simp)]; omega, by rw [hF20 74 (by simp)]; omega⟩
      | true =>
        rw [hc2, if_pos rfl] at eu21
        obtain ⟨cg, cr, c3⟩ := canGoV_spec hc2
        refine ⟨fun h => absurd h (by omega), fun _ => ?_⟩
        rw [f1, mg]
        have f24 : σ20 74 = σ 74 := hF20 74 (by simp)
        refine ⟨by omega, by unfold R32; omega, A, tx, ⟨hV20, cg, cr, c3, by rw [f24]; omega⟩, ?_⟩
        intro u32 σ31 hu32 hO31 ⟨eu32, hV31, hn31, hk31⟩
        have : doneS A tx x1 = goneS A tx (x1 % A 10 1) (x1 / 6 % A 10 0) := by unfold doneS; rw [if_pos (by omega), edg, edr, hc2, if_pos rfl]
        rw [this]
        rw [f24, goneW_1 hw0] at hV31
        rw [f24] at hn31
        exact ⟨hV31, (keepM.of80 hF20).tr hk31, by omega, by omega⟩
    · refine ⟨A, tx, hV, ?_⟩
      intro u40 σ39 hu40 hO39 ⟨eu40, e39⟩
      subst e39
      cases hc2 : canLayS A (x1 / 6 % A 10 0) with
      | false =>
        rw [hc2] at eu40
        have eu40 : u40 = 0 := by simpa using eu40
        refine ⟨fun _ => same ?_, fun h => absurd eu40 h⟩
        unfold doneS; rw [if_neg (by omega), if_pos he2, edr, hc2]; rfl
      | true =>
        rw [hc2, if_pos rfl] at eu40
        refine ⟨fun h => absurd h (by omega), fun _ => ⟨A, tx, ⟨hV, hc2⟩, ?_⟩⟩
        intro σ48 hO48 ⟨hV48, hk48, h74⟩
        have : doneS A tx x1 = layS A (x1 / 6 % A 10 0) := by unfold doneS; rw [if_neg (by omega), if_pos he2, edr, hc2, if_pos rfl]
        rw [this]
        exact ⟨hV48, hk48, by rw [h74]; omega, by rw [h74]; omega⟩
  · apply same
    have edr : drS A x1 < 0 := by unfold drS; rw [if_neg (by omega)]; omega
    unfold doneS
    rw [canGoV_neg (Or.inr edr), canLayS_neg edr, if_neg (show ¬ x1 % 6 = 3 by omega)]
    by_cases h1 : x1 % 6 ≤ 1
    · rw [if_pos h1]; rfl
    · rw [if_neg h1, if_pos (by omega)]; rfl
  · have edone : doneS A tx x1 = (if A 0 0 + (1 + x1 % 9) ≤ 999 then coilS A (1 + x1 % 9) else A) := by
      unfold doneS; rw [if_neg (by omega), if_neg (by omega), if_pos he3]
    refine ⟨by unfold R32; omega, fun h => same (by rw [edone, if_neg (by omega)]), fun h => ⟨by unfold R32; omega, ?_⟩⟩
    intro σ54 e54
    rw [edone, if_pos (by omega)]
    unfold coilS
    refine ⟨?_, by rw [e54]; exact (keepM.rf _).set75 (by omega), by rw [e54, mset_off (by omega)]; omega, by rw [e54, mset_off (by omega)]; omega⟩
    rw [e54]
    exact hV.core (Or.inr (Or.inr (Or.inr ⟨rfl, rfl⟩))) (hI.core (by omega) ⟨fun _ => by omega, fun h => by omega, fun h => by omega, fun h => by omega⟩)
  · apply same
    unfold doneS; rw [if_neg (by omega), if_neg (by omega), if_neg (by omega), if_neg (by omega)]
  · refine ⟨A, tx, ⟨hV, h, by omega⟩, ?_⟩
    intro σ63 hO63 ⟨hV63, hn63, hk63⟩
    rw [passW_1 hw0] at hV63 hn63
    have hpc := passS_cnt (tx := tx) hI
    have : doneS A tx x1 = (passS A tx).1 := by unfold doneS; rw [if_neg (by omega), if_neg (by omega), if_neg (by omega), if_pos h]
    rw [this]
    exact ⟨hV63, hk63, by omega, by omega⟩)

def wp_X12_day (x1 : Int) (σ : Mem) (Q : Int → Mem → Prop) : Prop :=
  ((¬ ((1 : Int) ≤ x1 ∧ x1 ≤ (60 : Int))) →
    Q (-1) σ) ∧
   (((1 : Int) ≤ x1 ∧ x1 ≤ (60 : Int)) →
    R32 ((σ 75 6) + x1) ∧
    ((9999 < ((σ 75 6) + x1)) →
     Q (-1) σ) ∧
    ((((σ 75 6) + x1) ≤ 9999) →
     ∃ g6 : Mem, ∃ g7 : List Mem, ∃ g8 : Nat → Txt, (vsM σ g6 g7 g8 ∧ (1 ≤ x1 ∧ x1 ≤ 60) ∧ σ 74 24 < 800000000) ∧
     ∀ (u13 : Int) (σ12 : Mem), R32 u13 → OKm σ12 → (u13 = (if g6 0 2 + x1 ≤ 9999 then 1 else 0) ∧ vsM σ12 (dayN g8 g6 g7 (min x1 (9999 - g6 0 2)).toNat).1 (dayN g8 g6 g7 (min x1 (9999 - g6 0 2)).toNat).2.1 g8 ∧ σ12 74 24 = (dayN g8 g6 g7 (min x1 (9999 - g6 0 2)).toNat).2.2 ∧ (∀ j : Int, j ≠ 24 → σ12 74 j = σ 74 j) ∧ Fr FGM σ σ12 ∧ σ12 74 24 ≤ 360) →
     ((u13 = 0) →
      Q (-1) σ12) ∧
     ((u13 ≠ 0) →
      Q (σ12 74 24) σ12)))
theorem mt_X12_day {d : Nat} (hd : 10 ≤ d) {x1 : Int} {σ : Mem} {Q : Int → Mem → Prop} (hx1 : R32 x1) (hO : OKm σ) (h : wp_X12_day x1 σ Q) : Mt yX12_day cX12_day 2 (some .int) d [aR (74), aI (x1)] σ (QI Q) := by
  refine Mt.intro (by decide +kernel) (Nat.le_of_ble_eq_true rfl) [(0, aR (74)), (1, aI (x1))] rfl ?_
  unfold wp_X12_day at h
  refine G_iload_n 1 rfl rfl dX12_day_0 ?_
  refine G_iconst dX12_day_1 ?_
  refine G_bipush (by decide) dX12_day_2 ?_
  refine G_callS (as := [_, _, _]) cf_X12_81 rfl (sp_X12_isIn (d - 1) (by omega) _ hO _ hx1 _ (rL 1 rfl) _ (rL 60 rfl)) (by omega) rfl rfl (Nat.le_of_ble_eq_true rfl) dX12_day_4 ?_
  rintro _ _ ⟨_, rfl, rfl, rfl⟩ o2 r1
  refine G_if_eq (bI_R _) dX12_day_7 (tgt := 40) (by decide) (fun c3 => ?_) (fun c3 => ?_)
  · have h := h.1 ((bI_0 _).mp c3)
    refine G_iconst dX12_day_40 ?_
    exact G_iret rfl (rL (-1) rfl) dX12_day_41 ⟨_, rfl, h⟩ hO
  · have h := h.2 (bI_ne c3)
    refine G_aload_n 0 rfl rfl dX12_day_10 ?_
    refine G_get (k := 0) (kd := (2, 75)) (v := aR 75) gf_X12_7 rfl rfl rfl rfl dX12_day_11 ?_
    refine G_bipush (by decide) dX12_day_14 ?_
    refine G_iald (n := 2119) rfl (by decide) (by decide) dX12_day_16 ?_
    refine G_iload_n 1 rfl rfl dX12_day_17 ?_
    refine G_iadd dX12_day_18 ?_
    refine G_sipush (by decide) dX12_day_19 ?_
    obtain ⟨c4, h⟩ := h
    refine G_icmp_gt c4 (rL 9999 rfl) dX12_day_22 (tgt := 40) (by decide) (fun c5 => ?_) (fun c5 => ?_)
    · have h := h.1 c5
      refine G_iconst dX12_day_40 ?_
      exact G_iret rfl (rL (-1) rfl) dX12_day_41 ⟨_, rfl, h⟩ hO
    · have h := h.2 c5
      refine G_aload_n 0 rfl rfl dX12_day_25 ?_
      refine G_iload_n 1 rfl rfl dX12_day_26 ?_
      obtain ⟨g6, g7, g8, c9, h⟩ := h
      refine G_callV (as := [_]) cf_X12_385 rfl rfl rfl (sp_X12_arePassed (d - 1) (by omega) _ hO _ hx1 g6 g7 g8 c9) (by omega) rfl rfl (Nat.le_of_ble_eq_true rfl) dX12_day_27 ?_
      rintro _ σ12 ⟨u13, rfl, z14⟩ o11 r10
      have h := h _ _ (r10 _ rfl) o11 z14
      refine G_if_eq (r10 _ rfl) dX12_day_30 (tgt := 40) (by decide) (fun c15 => ?_) (fun c15 => ?_)
      · have h := h.1 c15
        refine G_iconst dX12_day_40 ?_
        exact G_iret rfl (rL (-1) rfl) dX12_day_41 ⟨_, rfl, h⟩ o11
      · have h := h.2 c15
        refine G_aload_n 0 rfl rfl dX12_day_33 ?_
        refine G_get (k := 24) (kd := (0, 0)) (v := aI (σ12 74 24)) gf_X12_345 rfl rfl rfl rfl dX12_day_34 ?_
        refine G_goto (tgt := 41) dX12_day_37 (by decide) ?_
        exact G_iret rfl (OKm.i o11 74 24 rfl) dX12_day_41 ⟨_, rfl, h⟩ o11

theorem sp_X12_day (d : Nat) (hd : 10 ≤ d) (σ : Mem) (hO : OKm σ) (x1 : Int) (hx1 : R32 x1) (A : Mem) (L : List Mem) (tx : Nat → Txt) (hpre : vsM σ A L tx ∧ σ 74 24 < 800000000) : Mt yX12_day cX12_day 2 (some .int) d [aR (74), aI (x1)] σ (QI (fun v σ' => (((1 ≤ x1 ∧ x1 ≤ 60) ∧ A 0 2 + x1 ≤ 9999) → v = (dayN tx A L (x1).toNat).2.2 ∧ vsM σ' (dayN tx A L (x1).toNat).1 (dayN tx A L (x1).toNat).2.1 tx) ∧ (¬ ((1 ≤ x1 ∧ x1 ≤ 60) ∧ A 0 2 + x1 ≤ 9999) → v = -1 ∧ vsM σ' A L tx) ∧ stM σ σ' 360)) := mt_X12_day hd hx1 hO (by
  unfold wp_X12_day
  obtain ⟨hS, hgo⟩ := hpre
  have k3 := hS.1.2.2.1.2.2.2.1
  have e6 : σ 75 6 = A 0 2 := hS.1.2.1.1.1
  rw [e6]
  refine ⟨fun h => ⟨fun h2 => absurd h2.1 h, fun _ => ⟨rfl, hS⟩, (stM.rf _).wk (by omega)⟩, fun hx => ⟨by unfold R32; omega, fun h => ⟨fun h2 => by omega, fun _ => ⟨rfl, hS⟩, (stM.rf _).wk (by omega)⟩, fun h => ⟨A, L, tx, ⟨hS, hx, hgo⟩, ?_⟩⟩⟩
  intro u13 σ12 hu13 hO12 ⟨eu13, hS12, hn12, hj12, hF12, hb12⟩
  rw [if_pos (by omega)] at eu13
  have em : (min x1 (9999 - A 0 2)).toNat = x1.toNat := by omega
  rw [em] at hS12 hn12
  exact ⟨fun h => absurd h (by omega), fun _ => ⟨fun _ => ⟨hn12, hS12⟩, fun h2 => absurd ⟨hx, h⟩ h2, hj12, hF12, by have := hS.2.2.2; omega⟩⟩)

def sowS (A : Mem) (x : Int) : Mem := mset A 0 3 (x * 2 + 283)
def yearsOK (x n : Int) : Prop := (0 ≤ x ∧ x ≤ 9999) ∧ 1 ≤ n ∧ n ≤ 40

def wp_X12_years (x1 : Int) (x2 : Int) (σ : Mem) (Q : Int → Mem → Prop) : Prop :=
 ∀ P43 : Int → Int → Mem → Prop,
 (∀ (v2 : Int) (v3 : Int) (σ : Mem), (R32 v2 → R32 v3 → OKm σ →
   ((v2 ≤ v3) →
     Q (σ 75 6) σ) ∧
    ((v3 < v2) →
     (0 ≤ σ 75 7 ∧ σ 75 7 ≤ 30726) ∧
     ∀ σ23 : Mem, σ23 = (mset σ 75 7 (nxt (σ 75 7))) →
     ∃ g25 : Mem, ∃ g26 : Nat → Txt, (vwM σ23 g25 g26 ∧ σ23 74 23 = 1 ∧ (0 ≤ (σ 75 7) ∧ (σ 75 7) ≤ 30726) ∧ (0 ≤ σ23 74 24 ∧ σ23 74 24 < 850000000)) ∧
     ∀ σ30 : Mem, OKm σ30 → (vwM σ30 (doneS g25 g26 (σ 75 7)) g26 ∧ keepM σ23 σ30 ∧ σ23 74 24 ≤ σ30 74 24 ∧ σ30 74 24 ≤ σ23 74 24 + 6) →
     R32 (v3 + 1) ∧ P43 v2 (v3 + 1) σ30)) → P43 v2 v3 σ) →
  ((¬ ((0 : Int) ≤ x1 ∧ x1 ≤ (9999 : Int))) →
    Q (-1) σ) ∧
   (((0 : Int) ≤ x1 ∧ x1 ≤ (9999 : Int)) →
    (((1 : Int) ≤ x2 ∧ x2 ≤ (40 : Int)) →
     ∃ g7 : Mem, ∃ g8 : List Mem, (nowM σ 75 g7 ∧ σ 75 0 = g7 10 0 ∧ σ 75 1 = g7 10 1 ∧ Cnt g7 ∧ stepsM σ 75 g8) ∧
     ∀ σ12 : Mem, OKm σ12 → (stepsM σ12 75 (pushS g7 g8) ∧ (∀ i : Int, 0 ≤ i → i < 139 → i ≠ 4 → σ12 75 i = σ 75 i) ∧ (∀ i : Int, 2089 ≤ i → σ12 75 i = σ 75 i) ∧ Fr [75] σ σ12) →
     R32 ((x1 * 2) + 283) ∧
     ∀ σ16 : Mem, σ16 = mset σ12 75 7 ((x1 * 2) + 283) →
     P43 x2 0 σ16) ∧
    ((¬ ((1 : Int) ≤ x2 ∧ x2 ≤ (40 : Int))) →
     Q (-1) σ))
theorem mt_X12_years {d : Nat} (hd : 10 ≤ d) {x1 : Int} {x2 : Int} {σ : Mem} {Q : Int → Mem → Prop} (hx1 : R32 x1) (hx2 : R32 x2) (hO : OKm σ) (h : wp_X12_years x1 x2 σ Q) : Mt yX12_years cX12_years 5 (some .int) d [aR (74), aI (x1), aI (x2)] σ (QI Q) := by
  refine Mt.intro (by decide +kernel) (Nat.le_of_ble_eq_true rfl) [(0, aR (74)), (1, aI (x1)), (2, aI (x2))] rfl ?_
  unfold wp_X12_years at h
  have h := h (fun (v2 : Int) (v3 : Int) (σ : Mem) => R32 v2 → R32 v3 → OKm σ → G yX12_years cX12_years 5 (some .int) d (QI Q) 43 [(0, aR (74)), (2, aI (v2)), (3, aI (v3))] [] σ) ?_
  · refine G_iload_n 1 rfl rfl dX12_years_0 ?_
    refine G_iconst dX12_years_1 ?_
    refine G_sipush (by decide) dX12_years_2 ?_
    refine G_callS (as := [_, _, _]) cf_X12_81 rfl (sp_X12_isIn (d - 1) (by omega) _ hO _ hx1 _ (rL 0 rfl) _ (rL 9999 rfl)) (by omega) rfl rfl (Nat.le_of_ble_eq_true rfl) dX12_years_5 ?_
    rintro _ _ ⟨_, rfl, rfl, rfl⟩ o2 r1
    refine G_if_eq (bI_R _) dX12_years_8 (tgt := 21) (by decide) (fun c3 => ?_) (fun c3 => ?_)
    · have h := h.1 ((bI_0 _).mp c3)
      refine G_iconst dX12_years_21 ?_
      exact G_iret rfl (rL (-1) rfl) dX12_years_22 ⟨_, rfl, h⟩ hO
    · have h := h.2 (bI_ne c3)
      refine G_iload_n 2 rfl rfl dX12_years_11 ?_
      refine G_iconst dX12_years_12 ?_
      refine G_bipush (by decide) dX12_years_13 ?_
      refine G_callS (as := [_, _, _]) cf_X12_81 rfl (sp_X12_isIn (d - 1) (by omega) _ hO _ hx2 _ (rL 1 rfl) _ (rL 40 rfl)) (by omega) rfl rfl (Nat.le_of_ble_eq_true rfl) dX12_years_15 ?_
      rintro _ _ ⟨_, rfl, rfl, rfl⟩ o5 r4
      refine G_if_ne (bI_R _) dX12_years_18 (tgt := 23) (by decide) (fun c6 => ?_) (fun c6 => ?_)
      · have h := h.1 (bI_ne c6)
        refine G_aload_n 0 rfl rfl dX12_years_23 ?_
        obtain ⟨g7, g8, c9, h⟩ := h
        refine G_callV (as := []) cf_X12_373 rfl rfl rfl (sp_X12_keep (d - 1) (by omega) _ hO  g7 g8 c9) (by omega) rfl rfl (Nat.le_of_ble_eq_true rfl) dX12_years_24 ?_
        rintro _ σ12 ⟨rfl, z14⟩ o11 r10
        have h := h _ o11 z14
        refine G_aload_n 0 rfl rfl dX12_years_27 ?_
        refine G_get (k := 0) (kd := (2, 75)) (v := aR 75) gf_X12_7 rfl rfl rfl rfl dX12_years_28 ?_
        refine G_bipush (by decide) dX12_years_31 ?_
        refine G_iload_n 1 rfl rfl dX12_years_33 ?_
        refine G_iconst dX12_years_34 ?_
        refine G_imul dX12_years_35 ?_
        refine G_sipush (by decide) dX12_years_36 ?_
        refine G_iadd dX12_years_39 ?_
        obtain ⟨c15, h⟩ := h
        obtain ⟨σ16, e18⟩ : ∃ τ : Mem, τ = mset σ12 75 7 ((x1 * 2) + 283) := ⟨_, rfl⟩
        have h := h σ16 e18
        have o17 : OKm σ16 := by rw [e18]; exact OKm.seti o11 _ _ _ c15 (isLg_row (show shp 75 = (1, 2119, []) from rfl) _)
        refine G_iast (n := 2119) rfl (by decide) (by decide) dX12_years_40 ?_
        rw [← e18]
        refine G_iconst dX12_years_41 ?_
        refine G_istore_n (lv' := [(3, aI (0)), (0, aR (74)), (1, aI (x1)), (2, aI (x2))]) rfl rfl (by decide) dX12_years_42 ?_
        exact G_pick [1, 3, 0] rfl (h hx2 (rL 0 rfl) o17)
      · have h := h.2 ((bI_0 _).mp c6)
        refine G_iconst dX12_years_21 ?_
        exact G_iret rfl (rL (-1) rfl) dX12_years_22 ⟨_, rfl, h⟩ hO
  · intro v2 v3 σ h hv2 hv3 hO
    have h := h hv2 hv3 hO
    refine G_iload_n 2 rfl rfl dX12_years_43 ?_
    refine G_iload_n 1 rfl rfl dX12_years_44 ?_
    refine G_icmp_ge hv3 hv2 dX12_years_45 (tgt := 73) (by decide) (fun c19 => ?_) (fun c19 => ?_)
    · have h := h.1 c19
      refine G_aload_n 0 rfl rfl dX12_years_73 ?_
      refine G_get (k := 0) (kd := (2, 75)) (v := aR 75) gf_X12_7 rfl rfl rfl rfl dX12_years_74 ?_
      refine G_bipush (by decide) dX12_years_77 ?_
      refine G_iald (n := 2119) rfl (by decide) (by decide) dX12_years_79 ?_
      exact G_iret rfl (OKm.i hO 75 6 (isLg_row (show shp 75 = (1, 2119, []) from rfl) _)) dX12_years_80 ⟨_, rfl, h⟩ hO
    · have h := h.2 c19
      refine G_aload_n 0 rfl rfl dX12_years_48 ?_
      refine G_get (k := 0) (kd := (2, 75)) (v := aR 75) gf_X12_7 rfl rfl rfl rfl dX12_years_49 ?_
      refine G_bipush (by decide) dX12_years_52 ?_
      refine G_iald (n := 2119) rfl (by decide) (by decide) dX12_years_54 ?_
      refine G_istore (lv' := [(4, aI ((σ 75 7))), (0, aR (74)), (2, aI (v2)), (3, aI (v3))]) rfl (by decide) dX12_years_55 ?_
      refine G_aload_n 1 rfl rfl dX12_years_57 ?_
      obtain ⟨c20, h⟩ := h
      refine G_callV (as := []) cf_X12_318 rfl rfl rfl (sp_X12_anew (d - 1) (by omega) _ hO  c20) (by omega) rfl rfl (Nat.le_of_ble_eq_true rfl) dX12_years_58 ?_
      rintro _ σ23 ⟨rfl, e24⟩ o22 r21
      have h := h σ23 e24
      refine G_aload_n 1 rfl rfl dX12_years_61 ?_
      refine G_iload 0 rfl dX12_years_62 ?_
      obtain ⟨g25, g26, c27, h⟩ := h
      refine G_callV (as := [_]) cf_X12_406 rfl rfl rfl (sp_X12_happens (d - 1) (by omega) _ o22 _ (OKm.i hO 75 7 (isLg_row (show shp 75 = (1, 2119, []) from rfl) _)) g25 g26 c27) (by omega) rfl rfl (Nat.le_of_ble_eq_true rfl) dX12_years_64 ?_
      rintro _ σ30 ⟨rfl, z32⟩ o29 r28
      have h := h _ o29 z32
      refine G_iinc (lv' := [(3, aI ((v3 + 1))), (4, aI ((σ 75 7))), (0, aR (74)), (2, aI (v2))]) (k := 3) rfl rfl (by decide) dX12_years_67 ?_
      refine G_goto (tgt := 43) dX12_years_70 (by decide) ?_
      obtain ⟨c33, h⟩ := h
      exact G_pick [2, 3, 0] rfl (h hv2 c33 o29)

theorem sp_X12_years (d : Nat) (hd : 10 ≤ d) (σ : Mem) (hO : OKm σ) (x1 : Int) (hx1 : R32 x1) (x2 : Int) (hx2 : R32 x2) (A : Mem) (L : List Mem) (tx : Nat → Txt) (hpre : vsM σ A L tx ∧ σ 74 24 < 800000000) : Mt yX12_years cX12_years 5 (some .int) d [aR (74), aI (x1), aI (x2)] σ (QI (fun v σ' => (yearsOK x1 x2 → v = deedN tx (sowS A x1) (x2).toNat 0 2 ∧ vsM σ' (deedN tx (sowS A x1) (x2).toNat) (pushS A L) tx) ∧ (¬ yearsOK x1 x2 → v = -1 ∧ vsM σ' A L tx) ∧ stM σ σ' 240)) := mt_X12_years hd hx1 hx2 hO (by
  unfold wp_X12_years
  intro P43 h43
  obtain ⟨hS, hgo⟩ := hpre
  have hI := hS.1.2.2.1
  unfold yearsOK
  refine ⟨fun h => ⟨fun h2 => absurd h2.1 h, fun _ => ⟨rfl, hS⟩, (stM.rf _).wk (by omega)⟩, fun hx => ⟨fun hn => ⟨A, L, hS.pre, ?_⟩, fun h => ⟨fun h2 => absurd h2.2 h, fun _ => ⟨rfl, hS⟩, (stM.rf _).wk (by omega)⟩⟩⟩
  intro σ9 hO9 hk9
  obtain ⟨hS9, hs9⟩ := hS.kept hk9
  refine ⟨by unfold R32; omega, ?_⟩
  intro σ14 e14
  have hI14 : InvA (sowS A x1) := by unfold sowS; exact hI.core (by omega) ⟨fun h => by omega, fun h => by omega, fun h => by omega, fun _ => by omega⟩
  have hV14 : vwM σ14 (sowS A x1) tx := by
    rw [e14]; unfold sowS
    exact hS9.1.core (Or.inr (Or.inl ⟨rfl, rfl⟩)) hI14
  have hk14 : keepM σ9 σ14 := by rw [e14]; exact (keepM.rf _).set75 (by omega)
  have hS14 : vsM σ14 (sowS A x1) (pushS A L) tx := hS9.keepd hV14 hk14 (by rw [e14, mset_off (by omega)]; omega)
  have hs14 : stM σ σ14 0 := hs9.tr (stM.keep (n := 0) hk14 (by rw [e14, mset_off (by omega)]; omega))
  have H : ∀ (n k : Nat) (τ : Mem), k + n = x2.toNat → vsM τ (deedN tx (sowS A x1) k) (pushS A L) tx → stM σ τ (6 * k) → P43 x2 (k : Int) τ := by
    intro n
    induction n with
    | zero =>
      intro k τ hk hSt hs
      have hkk : x2.toNat = k := by omega
      refine h43 _ _ _ (fun _ _ _ => ⟨fun _ => ⟨fun _ => ?_, fun h => absurd ⟨hx, hn⟩ h, hs.wk (by omega)⟩, fun h => absurd h (by omega)⟩)
      rw [hkk]
      exact ⟨hSt.1.2.1.1.1, hSt⟩
    | succ n ih =>
      intro k τ hk hSt hs
      have kb := hSt.1.2.2.1.2.2.2.1
      have e7 : τ 75 7 = deedN tx (sowS A x1) k 0 3 := hSt.1.2.1.1.2.1
      refine h43 _ _ _ (fun _ _ _ => ⟨fun h => absurd h (by omega), fun _ => ?_⟩)
      rw [e7]
      refine ⟨by omega, ?_⟩
      intro σ25 e25
      have hV25 : vwM σ25 (mset (deedN tx (sowS A x1) k) 0 3 (nxt (deedN tx (sowS A x1) k 0 3))) tx := by
        rw [e25]
        exact hSt.1.core (Or.inr (Or.inl ⟨rfl, rfl⟩)) (hSt.1.2.2.1.core (by omega) ⟨fun h => by omega, fun h => by omega, fun h => by omega, fun _ => nxt_r _⟩)
      have hk25 : keepM τ σ25 := by rw [e25]; exact (keepM.rf _).set75 (by omega)
      have hn25 : σ25 74 = τ 74 := by rw [e25, mset_ne (by omega)]
      have hb := hs.2.2
      refine ⟨_, tx, ⟨hV25, by rw [hn25]; exact hSt.2.2.1, by omega, by rw [hn25]; have := hSt.2.2.2; omega⟩, ?_⟩
      intro σ29 hO29 ⟨hV29, hk29, hl29, hu29⟩
      rw [hn25] at hl29 hu29
      refine ⟨by unfold R32; omega, ?_⟩
      rw [show ((k : Int) + 1) = ((k + 1 : Nat) : Int) by omega]
      exact ih (k + 1) σ29 (by omega) (hSt.keepd hV29 (hk25.tr hk29) hl29) ((hs.tr (stM.keep (n := 6) (hk25.tr hk29) (by omega))).wk (by omega))
  exact H x2.toNat 0 σ14 (by omega) hS14 (hs14.wk (by omega)))

def wp_X0_drawDeed  (σ : Mem) (Q : Mem → Prop) : Prop :=
 ∀ P40 : Int → Int → Mem → Prop,
 ∀ P67 : Int → Int → Int → Mem → Prop,
 (∀ (v1 : Int) (s0 : Int) (σ : Mem), (R32 v1 → R32 s0 → OKm σ →
   (((σ 1 8) ≤ 0) →
     P67 v1 s0 (-1) σ) ∧
    ((0 < (σ 1 8)) →
     R32 (Int.tdiv v1 6) ∧
     ((σ 1 8) ≠ 0) ∧
     R32 (Int.tmod (Int.tdiv v1 6) (σ 1 8)) ∧ P67 v1 s0 (Int.tmod (Int.tdiv v1 6) (σ 1 8)) σ)) → P40 v1 s0 σ) →
 (∀ (v1 : Int) (v2 : Int) (s0 : Int) (σ : Mem), (R32 v1 → R32 v2 → R32 s0 → OKm σ →
   R32 (Int.tmod v1 6) ∧
    ((Int.tmod v1 6) = 0 →
     ∃ g17 : Mem, ∃ g18 : Nat → Txt, (vwC σ g17 g18) ∧
     ∀ (u23 : Int) (σ22 : Mem), R32 u23 → OKm σ22 → (u23 = (if canGoV g17 g18 v2 s0 then skS g17 g18 (g17 10 4) v2 s0 else -1) ∧ Fr [37] σ σ22) →
     ((u23 = (-1)) →
      Q σ22) ∧
     ((u23 ≠ (-1)) →
      (0 ≤ v2 ∧ v2 < 6) ∧
      (0 ≤ s0 ∧ s0 < 16) ∧
      ∃ g30 : Mem, (nowC σ22 g30 ∧ Cnt g30 ∧ (0 ≤ v2 ∧ v2 < g30 10 1) ∧ (0 ≤ s0 ∧ s0 < g30 10 0) ∧ (0 ≤ u23 ∧ u23 ≤ 99) ∧ (0 ≤ g30 0 2 ∧ g30 0 2 ≤ 9999) ∧ (0 ≤ g30 1 s0 ∧ g30 1 s0 ≤ 99) ∧ (0 ≤ g30 3 v2 ∧ g30 3 v2 ≤ 9999)) ∧
      ∀ σ34 : Mem, OKm σ34 → (nowC σ34 (walkS g30 v2 s0 (if σ22 2 s0 = (σ22 12 v2) then σ22 3 s0 else σ22 2 s0) u23) ∧ Fr [10, 11, 12, 13, 14] σ22 σ34) →
      Q σ34)) ∧
    ((Int.tmod v1 6) ≠ 0 →
     ((Int.tmod v1 6) = 1 →
      ∃ g38 : Mem, ∃ g39 : Nat → Txt, (vwC σ g38 g39) ∧
      ∀ (u44 : Int) (σ43 : Mem), R32 u44 → OKm σ43 → (u44 = (if canGoV g38 g39 v2 s0 then skS g38 g39 (g38 10 4) v2 s0 else -1) ∧ Fr [37] σ σ43) →
      ((u44 = (-1)) →
       Q σ43) ∧
      ((u44 ≠ (-1)) →
       (0 ≤ v2 ∧ v2 < 6) ∧
       (0 ≤ s0 ∧ s0 < 16) ∧
       ∃ g51 : Mem, (nowC σ43 g51 ∧ Cnt g51 ∧ (0 ≤ v2 ∧ v2 < g51 10 1) ∧ (0 ≤ s0 ∧ s0 < g51 10 0) ∧ (0 ≤ u44 ∧ u44 ≤ 99) ∧ (0 ≤ g51 0 2 ∧ g51 0 2 ≤ 9999) ∧ (0 ≤ g51 1 s0 ∧ g51 1 s0 ≤ 99) ∧ (0 ≤ g51 3 v2 ∧ g51 3 v2 ≤ 9999)) ∧
       ∀ σ55 : Mem, OKm σ55 → (nowC σ55 (walkS g51 v2 s0 (if σ43 2 s0 = (σ43 12 v2) then σ43 3 s0 else σ43 2 s0) u44) ∧ Fr [10, 11, 12, 13, 14] σ43 σ55) →
       Q σ55)) ∧
     ((Int.tmod v1 6) ≠ 1 →
      ((Int.tmod v1 6) = 2 →
       (σ 1 8 ≤ 16) ∧
       ((¬ ((0 ≤ s0 ∧ s0 < σ 1 8) ∧ σ 11 s0 < σ 5 s0 ∧ σ 4 s0 ≤ σ 10 5)) →
        Q σ) ∧
       (((0 ≤ s0 ∧ s0 < σ 1 8) ∧ σ 11 s0 < σ 5 s0 ∧ σ 4 s0 ≤ σ 10 5) →
        ((0 ≤ s0 ∧ s0 < 16) ∧ R32 (σ 10 5 - σ 4 s0)) ∧
        ∀ σ66 : Mem, σ66 = (mset (mset σ 11 s0 (σ 5 s0)) 10 5 (σ 10 5 - σ 4 s0)) →
        Q σ66)) ∧
      ((Int.tmod v1 6) ≠ 2 →
       ((Int.tmod v1 6) = 3 →
        R32 ((σ 10 5) + (1 + (Int.tmod v1 9))) ∧
        ((999 < ((σ 10 5) + (1 + (Int.tmod v1 9)))) →
         R32 ((σ 10 5) + 0) ∧
         ∀ σ71 : Mem, σ71 = mset σ 10 5 ((σ 10 5) + 0) →
         Q σ71) ∧
        ((((σ 10 5) + (1 + (Int.tmod v1 9))) ≤ 999) →
         R32 ((σ 10 5) + (1 + (Int.tmod v1 9))) ∧
         ∀ σ75 : Mem, σ75 = mset σ 10 5 ((σ 10 5) + (1 + (Int.tmod v1 9))) →
         Q σ75)) ∧
       ((Int.tmod v1 6) ≠ 3 →
        ((9999 ≤ (σ 10 7)) →
         Q σ) ∧
        (((σ 10 7) < 9999) →
         ∃ g80 : Mem, ∃ g81 : Nat → Txt, (vwC σ g80 g81 ∧ g80 0 2 < 9999) ∧
         ∀ (u86 : Int) (σ85 : Mem), R32 u86 → OKm σ85 → (u86 = (passS g80 g81).2 ∧ vwC σ85 (passS g80 g81).1 g81 ∧ Fr PDC σ σ85) →
         Q σ85)))))) → P67 v1 v2 s0 σ) →
  (0 ≤ σ 10 8 ∧ σ 10 8 ≤ 30726) ∧
   ∀ (u5 : Int) (σ4 : Mem), u5 = (if 0 < (1 : Int) then σ 10 8 % (1 : Int) else 0) → σ4 = (mset σ 10 8 (nxt (σ 10 8))) →
   (((σ4 1 9) ≤ 0) →
    P40 (σ 10 8) (-1) σ4) ∧
   ((0 < (σ4 1 9)) →
    ((σ4 1 9) ≠ 0) ∧
    R32 (Int.tmod (σ 10 8) (σ4 1 9)) ∧ P40 (σ 10 8) (Int.tmod (σ 10 8) (σ4 1 9)) σ4)
theorem mt_X0_drawDeed {d : Nat} (hd : 6 ≤ d)  {σ : Mem} {Q : Mem → Prop}  (hO : OKm σ) (h : wp_X0_drawDeed  σ Q) : Mt yX0_drawDeed cX0_drawDeed 6 none d [aR (38)] σ (QV Q) := by
  refine Mt.intro (by decide +kernel) (Nat.le_of_ble_eq_true rfl) [(0, aR (38))] rfl ?_
  unfold wp_X0_drawDeed at h
  have h := h (fun (v1 : Int) (s0 : Int) (σ : Mem) => R32 v1 → R32 s0 → OKm σ → G yX0_drawDeed cX0_drawDeed 6 none d (QV Q) 40 [(0, aR (38)), (1, aI (v1))] [aI (s0)] σ)
    (fun (v1 : Int) (v2 : Int) (s0 : Int) (σ : Mem) => R32 v1 → R32 v2 → R32 s0 → OKm σ → G yX0_drawDeed cX0_drawDeed 6 none d (QV Q) 67 [(0, aR (38)), (1, aI (v1)), (2, aI (v2))] [aI (s0)] σ) ?_ ?_
  · refine G_aload_n 0 rfl rfl dX0_drawDeed_0 ?_
    refine G_get (k := 1) (kd := (2, 10)) (v := aR 10) gf_X0_21 rfl rfl rfl rfl dX0_drawDeed_1 ?_
    refine G_get (k := 8) (kd := (0, 0)) (v := aI (σ 10 8)) gf_X0_145 rfl rfl rfl rfl dX0_drawDeed_4 ?_
    refine G_istore_n (lv' := [(1, aI ((σ 10 8))), (0, aR (38))]) rfl rfl (by decide) dX0_drawDeed_7 ?_
    refine G_aload_n 1 rfl rfl dX0_drawDeed_8 ?_
    refine G_get (k := 1) (kd := (2, 10)) (v := aR 10) gf_X0_21 rfl rfl rfl rfl dX0_drawDeed_9 ?_
    refine G_iconst dX0_drawDeed_12 ?_
    obtain ⟨c1, h⟩ := h
    refine G_callV (as := [_]) cf_X0_113 rfl rfl rfl (sp_X6_draw (d - 1) (by omega) _ hO _ (rL 1 rfl) c1) (by omega) rfl rfl (Nat.le_of_ble_eq_true rfl) dX0_drawDeed_13 ?_
    rintro _ σ4 ⟨u5, rfl, e7, e6⟩ o3 r2
    have h := h u5 σ4 e7 e6
    refine G_pop rfl dX0_drawDeed_16 ?_
    refine G_aload_n 1 rfl rfl dX0_drawDeed_17 ?_
    refine G_get (k := 0) (kd := (2, 1)) (v := aR 1) gf_X0_17 rfl rfl rfl rfl dX0_drawDeed_18 ?_
    refine G_get (k := 9) (kd := (0, 0)) (v := aI (σ4 1 9)) gf_X0_54 rfl rfl rfl rfl dX0_drawDeed_21 ?_
    refine G_if_le (OKm.i o3 1 9 rfl) dX0_drawDeed_24 (tgt := 39) (by decide) (fun c8 => ?_) (fun c8 => ?_)
    · have h := h.1 c8
      refine G_iconst dX0_drawDeed_39 ?_
      exact G_pick [1, 0] rfl (h (OKm.i hO 10 8 rfl) (rL (-1) rfl) o3)
    · have h := h.2 c8
      refine G_iload_n 0 rfl rfl dX0_drawDeed_27 ?_
      refine G_aload_n 1 rfl rfl dX0_drawDeed_28 ?_
      refine G_get (k := 0) (kd := (2, 1)) (v := aR 1) gf_X0_17 rfl rfl rfl rfl dX0_drawDeed_29 ?_
      refine G_get (k := 9) (kd := (0, 0)) (v := aI (σ4 1 9)) gf_X0_54 rfl rfl rfl rfl dX0_drawDeed_32 ?_
      obtain ⟨c9, h⟩ := h
      refine G_irem (OKm.i hO 10 8 rfl) (OKm.i o3 1 9 rfl) c9 dX0_drawDeed_35 ?_
      refine G_goto (tgt := 40) dX0_drawDeed_36 (by decide) ?_
      obtain ⟨c10, h⟩ := h
      exact G_pick [1, 0] rfl (h (OKm.i hO 10 8 rfl) c10 o3)
  · intro v1 s0 σ h hv1 hs0 hO
    have h := h hv1 hs0 hO
    refine G_istore_n (lv' := [(2, aI (s0)), (0, aR (38)), (1, aI (v1))]) rfl rfl (by decide) dX0_drawDeed_40 ?_
    refine G_aload_n 1 rfl rfl dX0_drawDeed_41 ?_
    refine G_get (k := 0) (kd := (2, 1)) (v := aR 1) gf_X0_17 rfl rfl rfl rfl dX0_drawDeed_42 ?_
    refine G_get (k := 8) (kd := (0, 0)) (v := aI (σ 1 8)) gf_X0_33 rfl rfl rfl rfl dX0_drawDeed_45 ?_
    refine G_if_le (OKm.i hO 1 8 rfl) dX0_drawDeed_48 (tgt := 66) (by decide) (fun c11 => ?_) (fun c11 => ?_)
    · have h := h.1 c11
      refine G_iconst dX0_drawDeed_66 ?_
      exact G_pick [1, 2, 0] rfl (h hv1 hs0 (rL (-1) rfl) hO)
    · have h := h.2 c11
      refine G_iload_n 2 rfl rfl dX0_drawDeed_51 ?_
      refine G_bipush (by decide) dX0_drawDeed_52 ?_
      refine G_idiv hv1 (rL 6 rfl) (by decide) dX0_drawDeed_54 ?_
      refine G_aload_n 1 rfl rfl dX0_drawDeed_55 ?_
      refine G_get (k := 0) (kd := (2, 1)) (v := aR 1) gf_X0_17 rfl rfl rfl rfl dX0_drawDeed_56 ?_
      refine G_get (k := 8) (kd := (0, 0)) (v := aI (σ 1 8)) gf_X0_33 rfl rfl rfl rfl dX0_drawDeed_59 ?_
      obtain ⟨c12, h⟩ := h
      obtain ⟨c13, h⟩ := h
      refine G_irem c12 (OKm.i hO 1 8 rfl) c13 dX0_drawDeed_62 ?_
      refine G_goto (tgt := 67) dX0_drawDeed_63 (by decide) ?_
      obtain ⟨c14, h⟩ := h
      exact G_pick [1, 2, 0] rfl (h hv1 hs0 c14 hO)
  · intro v1 v2 s0 σ h hv1 hv2 hs0 hO
    have h := h hv1 hv2 hs0 hO
    refine G_istore_n (lv' := [(3, aI (s0)), (0, aR (38)), (1, aI (v1)), (2, aI (v2))]) rfl rfl (by decide) dX0_drawDeed_67 ?_
    refine G_iload_n 2 rfl rfl dX0_drawDeed_68 ?_
    refine G_bipush (by decide) dX0_drawDeed_69 ?_
    refine G_irem hv1 (rL 6 rfl) (by decide) dX0_drawDeed_71 ?_
    obtain ⟨c15, h⟩ := h
    refine G_tsw (tgt := 104) 0 0 (by decide) (rL _ rfl) (by decide) rfl (by decide) c15 dX0_drawDeed_72 (fun n88 => ?_) (fun n88 => ?_)
    · have h := h.1 n88
      refine G_aload_n 1 rfl rfl dX0_drawDeed_104 ?_
      refine G_iload_n 3 rfl rfl dX0_drawDeed_105 ?_
      refine G_iload_n 0 rfl rfl dX0_drawDeed_106 ?_
      obtain ⟨g17, g18, c19, h⟩ := h
      refine G_callV (as := [_, _]) cf_X0_89 rfl rfl rfl (sp_X0_toll (d - 1) (by omega) _ hO _ hv2 _ hs0 g17 g18 c19) (by omega) rfl rfl (Nat.le_of_ble_eq_true rfl) dX0_drawDeed_107 ?_
      rintro _ σ22 ⟨u23, rfl, z24⟩ o21 r20
      have h := h _ _ (r20 _ rfl) o21 z24
      refine G_istore (lv' := [(4, aI (u23)), (3, aI (s0)), (0, aR (38)), (1, aI (v1)), (2, aI (v2))]) rfl (by decide) dX0_drawDeed_110 ?_
      refine G_iload 0 rfl dX0_drawDeed_112 ?_
      refine G_iconst dX0_drawDeed_114 ?_
      refine G_icmp_eq (r20 _ rfl) (rL (-1) rfl) dX0_drawDeed_115 (tgt := 228) (by decide) (fun c25 => ?_) (fun c25 => ?_)
      · have h := h.1 c25
        exact G_vret rfl dX0_drawDeed_228 ⟨rfl, h⟩ o21
      · have h := h.2 c25
        refine G_aload_n 2 rfl rfl dX0_drawDeed_118 ?_
        refine G_get (k := 1) (kd := (2, 10)) (v := aR 10) gf_X0_21 rfl rfl rfl rfl dX0_drawDeed_119 ?_
        refine G_iload_n 4 rfl rfl dX0_drawDeed_122 ?_
        refine G_iload_n 1 rfl rfl dX0_drawDeed_123 ?_
        refine G_aload_n 2 rfl rfl dX0_drawDeed_124 ?_
        refine G_get (k := 0) (kd := (2, 1)) (v := aR 1) gf_X0_17 rfl rfl rfl rfl dX0_drawDeed_125 ?_
        refine G_iload_n 1 rfl rfl dX0_drawDeed_128 ?_
        refine G_aload_n 2 rfl rfl dX0_drawDeed_129 ?_
        refine G_get (k := 1) (kd := (2, 10)) (v := aR 10) gf_X0_21 rfl rfl rfl rfl dX0_drawDeed_130 ?_
        refine G_get (k := 1) (kd := (3, 2)) (v := aR (12)) gf_X0_60 rfl rfl rfl rfl dX0_drawDeed_133 ?_
        refine G_iload_n 4 rfl rfl dX0_drawDeed_136 ?_
        obtain ⟨c26, h⟩ := h
        refine G_iald (n := 6) rfl c26.1 c26.2 dX0_drawDeed_137 ?_
        obtain ⟨c27, h⟩ := h
        refine G_callV (as := [_, _]) cf_X0_99 rfl rfl rfl (sp_X10_across (d - 1) (by omega) _ o21 _ hs0 _ (OKm.i o21 12 v2 (isLg_row (show shp 12 = (1, 6, []) from rfl) _)) c27) (by omega) rfl rfl (Nat.le_of_ble_eq_true rfl) dX0_drawDeed_138 ?_
        rintro _ _ ⟨_, rfl, rfl, rfl⟩ o29 r28
        refine G_iload 0 rfl dX0_drawDeed_141 ?_
        obtain ⟨g30, c31, h⟩ := h
        refine G_callV (as := [_, _, _, _]) cf_X0_102 rfl rfl rfl (sp_X6_walk (d - 1) (by omega) _ o21 _ hv2 _ hs0 _ (r28 _ rfl) _ (r20 _ rfl) g30 c31) (by omega) rfl rfl (Nat.le_of_ble_eq_true rfl) dX0_drawDeed_143 ?_
        rintro _ σ34 ⟨rfl, z36⟩ o33 r32
        have h := h _ o33 z36
        refine G_goto (tgt := 228) dX0_drawDeed_146 (by decide) ?_
        exact G_vret rfl dX0_drawDeed_228 ⟨rfl, h⟩ o33
    · have h := h.2 n88
      have n89 : (1 : Int) ≤ (Int.tmod v1 6) ∨ (Int.tmod v1 6) < 0 := tsw_next (by decide) (tsw_0 _ _) n88
      refine G_tsw (tgt := 104) 1 1 (by decide) (rL _ rfl) (by decide) rfl (by decide) c15 dX0_drawDeed_72 (fun n90 => ?_) (fun n90 => ?_)
      · have h := h.1 n90
        refine G_aload_n 1 rfl rfl dX0_drawDeed_104 ?_
        refine G_iload_n 3 rfl rfl dX0_drawDeed_105 ?_
        refine G_iload_n 0 rfl rfl dX0_drawDeed_106 ?_
        obtain ⟨g38, g39, c40, h⟩ := h
        refine G_callV (as := [_, _]) cf_X0_89 rfl rfl rfl (sp_X0_toll (d - 1) (by omega) _ hO _ hv2 _ hs0 g38 g39 c40) (by omega) rfl rfl (Nat.le_of_ble_eq_true rfl) dX0_drawDeed_107 ?_
        rintro _ σ43 ⟨u44, rfl, z45⟩ o42 r41
        have h := h _ _ (r41 _ rfl) o42 z45
        refine G_istore (lv' := [(4, aI (u44)), (3, aI (s0)), (0, aR (38)), (1, aI (v1)), (2, aI (v2))]) rfl (by decide) dX0_drawDeed_110 ?_
        refine G_iload 0 rfl dX0_drawDeed_112 ?_
        refine G_iconst dX0_drawDeed_114 ?_
        refine G_icmp_eq (r41 _ rfl) (rL (-1) rfl) dX0_drawDeed_115 (tgt := 228) (by decide) (fun c46 => ?_) (fun c46 => ?_)
        · have h := h.1 c46
          exact G_vret rfl dX0_drawDeed_228 ⟨rfl, h⟩ o42
        · have h := h.2 c46
          refine G_aload_n 2 rfl rfl dX0_drawDeed_118 ?_
          refine G_get (k := 1) (kd := (2, 10)) (v := aR 10) gf_X0_21 rfl rfl rfl rfl dX0_drawDeed_119 ?_
          refine G_iload_n 4 rfl rfl dX0_drawDeed_122 ?_
          refine G_iload_n 1 rfl rfl dX0_drawDeed_123 ?_
          refine G_aload_n 2 rfl rfl dX0_drawDeed_124 ?_
          refine G_get (k := 0) (kd := (2, 1)) (v := aR 1) gf_X0_17 rfl rfl rfl rfl dX0_drawDeed_125 ?_
          refine G_iload_n 1 rfl rfl dX0_drawDeed_128 ?_
          refine G_aload_n 2 rfl rfl dX0_drawDeed_129 ?_
          refine G_get (k := 1) (kd := (2, 10)) (v := aR 10) gf_X0_21 rfl rfl rfl rfl dX0_drawDeed_130 ?_
          refine G_get (k := 1) (kd := (3, 2)) (v := aR (12)) gf_X0_60 rfl rfl rfl rfl dX0_drawDeed_133 ?_
          refine G_iload_n 4 rfl rfl dX0_drawDeed_136 ?_
          obtain ⟨c47, h⟩ := h
          refine G_iald (n := 6) rfl c47.1 c47.2 dX0_drawDeed_137 ?_
          obtain ⟨c48, h⟩ := h
          refine G_callV (as := [_, _]) cf_X0_99 rfl rfl rfl (sp_X10_across (d - 1) (by omega) _ o42 _ hs0 _ (OKm.i o42 12 v2 (isLg_row (show shp 12 = (1, 6, []) from rfl) _)) c48) (by omega) rfl rfl (Nat.le_of_ble_eq_true rfl) dX0_drawDeed_138 ?_
          rintro _ _ ⟨_, rfl, rfl, rfl⟩ o50 r49
          refine G_iload 0 rfl dX0_drawDeed_141 ?_
          obtain ⟨g51, c52, h⟩ := h
          refine G_callV (as := [_, _, _, _]) cf_X0_102 rfl rfl rfl (sp_X6_walk (d - 1) (by omega) _ o42 _ hv2 _ hs0 _ (r49 _ rfl) _ (r41 _ rfl) g51 c52) (by omega) rfl rfl (Nat.le_of_ble_eq_true rfl) dX0_drawDeed_143 ?_
          rintro _ σ55 ⟨rfl, z57⟩ o54 r53
          have h := h _ o54 z57
          refine G_goto (tgt := 228) dX0_drawDeed_146 (by decide) ?_
          exact G_vret rfl dX0_drawDeed_228 ⟨rfl, h⟩ o54
      · have h := h.2 n90
        have n91 : (2 : Int) ≤ (Int.tmod v1 6) ∨ (Int.tmod v1 6) < 0 := tsw_next (by decide) n89 n90
        refine G_tsw (tgt := 149) 2 2 (by decide) (rL _ rfl) (by decide) rfl (by decide) c15 dX0_drawDeed_72 (fun n92 => ?_) (fun n92 => ?_)
        · have h := h.1 n92
          refine G_aload_n 1 rfl rfl dX0_drawDeed_149 ?_
          refine G_iload_n 0 rfl rfl dX0_drawDeed_150 ?_
          obtain ⟨c59, h⟩ := h
          refine G_callV (as := [_]) cf_X0_106 rfl rfl rfl (sp_X0_canLay (d - 1) (by omega) _ hO _ hs0 c59) (by omega) rfl rfl (Nat.le_of_ble_eq_true rfl) dX0_drawDeed_151 ?_
          rintro _ _ ⟨_, rfl, rfl, rfl⟩ o61 r60
          refine G_if_eq (bI_R _) dX0_drawDeed_154 (tgt := 228) (by decide) (fun c62 => ?_) (fun c62 => ?_)
          · have h := h.1 ((bI_0 _).mp c62)
            exact G_vret rfl dX0_drawDeed_228 ⟨rfl, h⟩ hO
          · have h := h.2 (bI_ne c62)
            refine G_aload_n 1 rfl rfl dX0_drawDeed_157 ?_
            refine G_iload_n 0 rfl rfl dX0_drawDeed_158 ?_
            obtain ⟨c63, h⟩ := h
            refine G_callV (as := [_]) cf_X0_109 rfl rfl rfl (sp_X0_lay (d - 1) (by omega) _ hO _ hs0 c63) (by omega) rfl rfl (Nat.le_of_ble_eq_true rfl) dX0_drawDeed_159 ?_
            rintro _ σ66 ⟨rfl, e67⟩ o65 r64
            have h := h σ66 e67
            refine G_goto (tgt := 228) dX0_drawDeed_162 (by decide) ?_
            exact G_vret rfl dX0_drawDeed_228 ⟨rfl, h⟩ o65
        · have h := h.2 n92
          have n93 : (3 : Int) ≤ (Int.tmod v1 6) ∨ (Int.tmod v1 6) < 0 := tsw_next (by decide) n91 n92
          refine G_tsw (tgt := 165) 3 3 (by decide) (rL _ rfl) (by decide) rfl (by decide) c15 dX0_drawDeed_72 (fun n94 => ?_) (fun n94 => ?_)
          · have h := h.1 n94
            refine G_iconst dX0_drawDeed_165 ?_
            refine G_iload_n 2 rfl rfl dX0_drawDeed_166 ?_
            refine G_bipush (by decide) dX0_drawDeed_167 ?_
            refine G_irem hv1 (rL 9 rfl) (by decide) dX0_drawDeed_169 ?_
            refine G_iadd dX0_drawDeed_170 ?_
            refine G_istore (lv' := [(5, aI ((1 + (Int.tmod v1 9)))), (3, aI (s0)), (0, aR (38)), (1, aI (v1)), (2, aI (v2))]) rfl (by decide) dX0_drawDeed_171 ?_
            refine G_aload_n 2 rfl rfl dX0_drawDeed_173 ?_
            refine G_get (k := 1) (kd := (2, 10)) (v := aR 10) gf_X0_21 rfl rfl rfl rfl dX0_drawDeed_174 ?_
            refine G_dup rfl dX0_drawDeed_177 ?_
            refine G_get (k := 5) (kd := (0, 0)) (v := aI (σ 10 5)) gf_X0_86 rfl rfl rfl rfl dX0_drawDeed_178 ?_
            refine G_aload_n 2 rfl rfl dX0_drawDeed_181 ?_
            refine G_get (k := 1) (kd := (2, 10)) (v := aR 10) gf_X0_21 rfl rfl rfl rfl dX0_drawDeed_182 ?_
            refine G_get (k := 5) (kd := (0, 0)) (v := aI (σ 10 5)) gf_X0_86 rfl rfl rfl rfl dX0_drawDeed_185 ?_
            refine G_iload 0 rfl dX0_drawDeed_188 ?_
            refine G_iadd dX0_drawDeed_190 ?_
            refine G_sipush (by decide) dX0_drawDeed_191 ?_
            obtain ⟨c69, h⟩ := h
            refine G_icmp_gt c69 (rL 999 rfl) dX0_drawDeed_194 (tgt := 202) (by decide) (fun c70 => ?_) (fun c70 => ?_)
            · have h := h.1 c70
              refine G_iconst dX0_drawDeed_202 ?_
              refine G_iadd dX0_drawDeed_203 ?_
              obtain ⟨c72, h⟩ := h
              obtain ⟨σ71, e74⟩ : ∃ τ : Mem, τ = mset σ 10 5 ((σ 10 5) + 0) := ⟨_, rfl⟩
              have h := h σ71 e74
              have o73 : OKm σ71 := by rw [e74]; exact OKm.seti hO _ _ _ c72 rfl
              refine G_put (k := 5) (ki := 5) (kd := (0, 0)) (x := _) pf_X0_86 rfl rfl rfl rfl (fa_i (mset_self _ _ _ _)) (fun _ => rfl) (fun _ => rfl) dX0_drawDeed_204 ?_
              rw [← e74]
              refine G_goto (tgt := 228) dX0_drawDeed_207 (by decide) ?_
              exact G_vret rfl dX0_drawDeed_228 ⟨rfl, h⟩ o73
            · have h := h.2 c70
              refine G_iload 0 rfl dX0_drawDeed_197 ?_
              refine G_goto (tgt := 203) dX0_drawDeed_199 (by decide) ?_
              refine G_iadd dX0_drawDeed_203 ?_
              obtain ⟨c76, h⟩ := h
              obtain ⟨σ75, e78⟩ : ∃ τ : Mem, τ = mset σ 10 5 ((σ 10 5) + (1 + (Int.tmod v1 9))) := ⟨_, rfl⟩
              have h := h σ75 e78
              have o77 : OKm σ75 := by rw [e78]; exact OKm.seti hO _ _ _ c76 rfl
              refine G_put (k := 5) (ki := 5) (kd := (0, 0)) (x := _) pf_X0_86 rfl rfl rfl rfl (fa_i (mset_self _ _ _ _)) (fun _ => rfl) (fun _ => rfl) dX0_drawDeed_204 ?_
              rw [← e78]
              refine G_goto (tgt := 228) dX0_drawDeed_207 (by decide) ?_
              exact G_vret rfl dX0_drawDeed_228 ⟨rfl, h⟩ o77
          · have h := h.2 n94
            have n95 : (4 : Int) ≤ (Int.tmod v1 6) ∨ (Int.tmod v1 6) < 0 := tsw_next (by decide) n93 n94
            refine G_tswd (tgt := 210) c15 (tsw_out n95) (by decide) dX0_drawDeed_72 ?_
            refine G_aload_n 1 rfl rfl dX0_drawDeed_210 ?_
            refine G_get (k := 1) (kd := (2, 10)) (v := aR 10) gf_X0_21 rfl rfl rfl rfl dX0_drawDeed_211 ?_
            refine G_get (k := 7) (kd := (0, 0)) (v := aI (σ 10 7)) gf_X0_139 rfl rfl rfl rfl dX0_drawDeed_214 ?_
            refine G_sipush (by decide) dX0_drawDeed_217 ?_
            refine G_icmp_ge (OKm.i hO 10 7 rfl) (rL 9999 rfl) dX0_drawDeed_220 (tgt := 228) (by decide) (fun c79 => ?_) (fun c79 => ?_)
            · have h := h.1 c79
              exact G_vret rfl dX0_drawDeed_228 ⟨rfl, h⟩ hO
            · have h := h.2 c79
              refine G_aload_n 1 rfl rfl dX0_drawDeed_223 ?_
              obtain ⟨g80, g81, c82, h⟩ := h
              refine G_callV (as := []) cf_X0_148 rfl rfl rfl (sp_X0_passDay (d - 1) (by omega) _ hO  g80 g81 c82) (by omega) rfl rfl (Nat.le_of_ble_eq_true rfl) dX0_drawDeed_224 ?_
              rintro _ σ85 ⟨u86, rfl, z87⟩ o84 r83
              have h := h _ _ (r83 _ rfl) o84 z87
              refine G_pop rfl dX0_drawDeed_227 ?_
              exact G_vret rfl dX0_drawDeed_228 ⟨rfl, h⟩ o84

theorem sp_X0_drawDeed (d : Nat) (hd : 6 ≤ d) (σ : Mem) (hO : OKm σ) (A : Mem) (tx : Nat → Txt) (hpre : vwC σ A tx) : Mt yX0_drawDeed cX0_drawDeed 6 none d [aR (38)] σ (QV (fun σ' => vwC σ' (deedS A tx) tx ∧ Fr PDC σ σ')) := mt_X0_drawDeed hd  hO (by
  unfold wp_X0_drawDeed
  intro P40 P67 h40 h67
  have hV0 := hpre
  have hI0 := hV0.2.2.1
  have k0 := hI0.2.2.2.1
  have e108 : σ 10 8 = A 0 3 := hV0.2.1.1.2.2.2.1
  have hx : 0 ≤ A 0 3 ∧ A 0 3 ≤ 30726 := by omega
  rw [e108]
  refine ⟨hx, ?_⟩
  intro u5 σ4 _ e4
  generalize hxx : A 0 3 = x at *
  have hI : InvA (mset A 0 3 (nxt x)) := hI0.core (by omega) ⟨fun h => by omega, fun h => by omega, fun h => by omega, fun _ => nxt_r _⟩
  have hV : vwC σ4 (mset A 0 3 (nxt x)) tx := by rw [e4]; exact hV0.core (Or.inr (Or.inr (Or.inr ⟨rfl, rfl⟩))) hI
  have hdeed : deedS A tx = doneS (mset A 0 3 (nxt x)) tx x := by unfold deedS; rw [hxx]
  have hF4 : Fr PDC σ σ4 := by rw [e4]; exact (Fr.rf _ _).set (by simp)
  rw [hdeed] at h67
  generalize mset A 0 3 (nxt x) = B at *
  have hc := hI.1
  have k3 := hI.2.2.2.1
  have e8 : σ4 1 8 = B 10 0 := hV.1.1.1
  have e9 : σ4 1 9 = B 10 1 := hV.1.1.2.1
  have m6 : Int.tmod x 6 = x % 6 := tmodP hx.1
  have m9 : Int.tmod x 9 = x % 9 := tmodP hx.1
  have d6 : Int.tdiv x 6 = x / 6 := tdivP hx.1
  have r6 : 0 ≤ x % 6 ∧ x % 6 < 6 := mod_r (by omega)
  have r9 : 0 ≤ x % 9 ∧ x % 9 < 9 := mod_r (by omega)
  have rd : 0 ≤ x / 6 ∧ x / 6 ≤ 30726 := by omega
  have mr : Int.tmod (x / 6) (B 10 0) = x / 6 % B 10 0 := tmodP rd.1
  have mg : Int.tmod x (B 10 1) = x % B 10 1 := tmodP hx.1
  have same : doneS B tx x = B → vwC σ4 (doneS B tx x) tx ∧ Fr PDC σ σ4 := fun h => by rw [h]; exact ⟨hV, hF4⟩
  have hgo : x % 6 ≤ 1 → ∃ g17 : Mem, ∃ g18 : Nat → Txt, (vwC σ4 g17 g18) ∧
       ∀ (u23 : Int) (σ22 : Mem), R32 u23 → OKm σ22 → (u23 = (if canGoV g17 g18 (dgS B x) (drS B x) then skS g17 g18 (g17 10 4) (dgS B x) (drS B x) else -1) ∧ Fr [37] σ4 σ22) →
       ((u23 = (-1)) →
        (vwC σ22 (doneS B tx x) tx ∧ Fr PDC σ σ22)) ∧
       ((u23 ≠ (-1)) →
        (0 ≤ (dgS B x) ∧ (dgS B x) < 6) ∧
        (0 ≤ (drS B x) ∧ (drS B x) < 16) ∧
        ∃ g30 : Mem, (nowC σ22 g30 ∧ Cnt g30 ∧ (0 ≤ (dgS B x) ∧ (dgS B x) < g30 10 1) ∧ (0 ≤ (drS B x) ∧ (drS B x) < g30 10 0) ∧ (0 ≤ u23 ∧ u23 ≤ 99) ∧ (0 ≤ g30 0 2 ∧ g30 0 2 ≤ 9999) ∧ (0 ≤ g30 1 (drS B x) ∧ g30 1 (drS B x) ≤ 99) ∧ (0 ≤ g30 3 (dgS B x) ∧ g30 3 (dgS B x) ≤ 9999)) ∧
        ∀ σ34 : Mem, OKm σ34 → (nowC σ34 (walkS g30 (dgS B x) (drS B x) (if σ22 2 (drS B x) = (σ22 12 (dgS B x)) then σ22 3 (drS B x) else σ22 2 (drS B x)) u23) ∧ Fr [10, 11, 12, 13, 14] σ22 σ34) →
        (vwC σ34 (doneS B tx x) tx ∧ Fr PDC σ σ34)) := by
    intro h1
    have edone : doneS B tx x = (if canGoV B tx (dgS B x) (drS B x) = true then goneS B tx (dgS B x) (drS B x) else B) := by unfold doneS; rw [if_pos h1]
    generalize dgS B x = g at *
    generalize drS B x = r at *
    refine ⟨B, tx, hV, ?_⟩
    intro u σ22 hu hO22 ⟨eu, hF22⟩
    have hV22 := hV.fr (fr37 hF22)
    have hF2 : Fr PDC σ σ22 := hF4.tr (hF22.wk (by simp))
    cases hc2 : canGoV B tx g r with
    | false =>
      rw [hc2] at eu edone
      have eu : u = -1 := by simpa using eu
      have edone : doneS B tx x = B := by rw [edone]; rfl
      exact ⟨fun _ => by rw [edone]; exact ⟨hV22, hF2⟩, fun h => absurd eu h⟩
    | true =>
      rw [hc2, if_pos rfl] at eu edone
      obtain ⟨hg, hr, c3⟩ := canGoV_spec hc2
      have hsk := skS_r (tx := tx) (t := B 10 4) (r := r) hI hg
      have k1 := hI.2.1 r hr.1 hr.2
      have k2 := hI.2.2.1 g hg.1 hg.2
      refine ⟨fun h => absurd h (by omega), fun _ => ⟨by omega, by omega, B, ⟨hV22.2.1, hI.cnt, hg, hr, by omega, by omega, by omega, by omega⟩, ?_⟩⟩
      intro σ34 hO34 ⟨hN, hF34⟩
      have f2 : σ22 2 r = B 11 r := (hV22.1.2.1 r hr.1 hr.2).1
      have f3 : σ22 3 r = B 12 r := (hV22.1.2.1 r hr.1 hr.2).2.1
      have f12 : σ22 12 g = B 2 g := (hV22.2.1.2.2.1 g hg.1 hg.2).1
      rw [f2, f3, f12, eu] at hN
      have hN : nowC σ34 (goneS B tx g r) := hN
      rw [edone]
      exact ⟨hV22.now hN (hI.gone hg hr c3) (fun q hq => walkS_told hq) (fun q hq => hF34 q (by simp; omega)), hF2.tr (hF34.wk (by simp))⟩
  have H67 : P67 x (dgS B x) (drS B x) σ4 := by
    refine h67 _ _ _ _ (fun _ _ _ _ => ?_)
    rw [m6, m9]
    refine ⟨by unfold R32; omega, fun h => hgo (by omega), fun h0 => ⟨fun h => hgo (by omega), fun h1 => ⟨fun h2 => ?_, fun h2 => ⟨fun h3 => ?_, fun h3 => ⟨fun h => ?_, fun h => ?_⟩⟩⟩⟩⟩
    · have edone : doneS B tx x = (if canLayS B (drS B x) = true then layS B (drS B x) else B) := by unfold doneS; rw [if_neg (by omega), if_pos h2]
      generalize drS B x = r at *
      have e5 : σ4 10 5 = B 0 0 := hV.2.1.1.1
      refine ⟨by omega, fun h => ?_, fun h => ?_⟩
      · have hc2 : canLayS B r = false := by
          refine decide_eq_false (fun q => h ?_)
          have t1 := hV.1.2.1 r q.1.1 q.1.2
          have n1 := hV.2.1.2.1 r q.1.1 q.1.2
          have s4 : σ4 4 r = B 13 r := t1.2.2.1
          have s5 : σ4 5 r = B 14 r := t1.2.2.2
          rw [n1, s5, s4, e5, e8]; exact q
        apply same
        rw [edone, hc2]; rfl
      · have hr : 0 ≤ r ∧ r < B 10 0 := by omega
        have t1 := hV.1.2.1 r hr.1 hr.2
        have n1 := hV.2.1.2.1 r hr.1 hr.2
        have k1 := hI.2.1 r hr.1 hr.2
        have s4 : σ4 4 r = B 13 r := t1.2.2.1
        have s5 : σ4 5 r = B 14 r := t1.2.2.2
        rw [n1, s5, s4, e5, e8] at h
        have hc2 : canLayS B r = true := decide_eq_true h
        rw [s5, s4, e5]
        refine ⟨⟨by omega, by unfold R32; omega⟩, ?_⟩
        intro σ66 e66
        rw [edone, hc2, if_pos rfl]
        refine ⟨?_, by rw [e66]; exact (hF4.set (by simp)).set (by simp)⟩
        have h1 : vwC (mset σ4 11 r (B 14 r)) (mset B 1 r (B 14 r)) tx := hV.now hV.2.1.thick (hI.thick (fun _ _ => by omega)) (fun q hq => mset_ne (by omega)) (fun q hq => mset_ne (by omega))
        rw [e66]; unfold layS
        exact h1.core (Or.inl ⟨rfl, rfl⟩) (h1.2.2.1.core (by omega) ⟨fun _ => by omega, fun h => by omega, fun h => by omega, fun h => by omega⟩)
    · have e5 : σ4 10 5 = B 0 0 := hV.2.1.1.1
      have edone : doneS B tx x = (if B 0 0 + (1 + x % 9) ≤ 999 then coilS B (1 + x % 9) else B) := by unfold doneS; rw [if_neg (by omega), if_neg (by omega), if_pos h3]
      rw [e5]
      refine ⟨by unfold R32; omega, fun h => ⟨by unfold R32; omega, ?_⟩, fun h => ⟨by unfold R32; omega, ?_⟩⟩
      · intro σ71 e71
        rw [edone, if_neg (by omega)]
        have : σ71 = σ4 := by
          rw [e71]; funext q j; rw [mset_at]; split
          · rename_i hh; rw [hh.1, hh.2, e5]; omega
          · rfl
        rw [this]; exact ⟨hV, hF4⟩
      · intro σ75 e75
        rw [edone, if_pos (by omega)]
        unfold coilS
        refine ⟨?_, by rw [e75]; exact hF4.set (by simp)⟩
        rw [e75]
        exact hV.core (Or.inl ⟨rfl, rfl⟩) (hI.core (by omega) ⟨fun _ => by omega, fun h => by omega, fun h => by omega, fun h => by omega⟩)
    · apply same
      have e7 : σ4 10 7 = B 0 2 := hV.2.1.1.2.2.1
      unfold doneS; rw [if_neg (by omega), if_neg (by omega), if_neg (by omega), if_neg (by omega)]
    · have e7 : σ4 10 7 = B 0 2 := hV.2.1.1.2.2.1
      refine ⟨B, tx, ⟨hV, by omega⟩, ?_⟩
      intro u86 σ85 hu hO85 ⟨eu, hV85, hF85⟩
      have : doneS B tx x = (passS B tx).1 := by unfold doneS; rw [if_neg (by omega), if_neg (by omega), if_neg (by omega), if_pos (by omega)]
      rw [this]
      exact ⟨hV85, hF4.tr hF85⟩
  have H40 : P40 x (dgS B x) σ4 := by
    refine h40 _ _ _ (fun _ _ _ => ?_)
    rw [e8, d6, mr]
    refine ⟨fun h => ?_, fun h => ?_⟩
    · have : drS B x = -1 := by unfold drS; rw [if_neg (by omega)]
      rw [this] at H67; exact H67
    · have : drS B x = x / 6 % B 10 0 := by unfold drS; rw [if_pos h]
      have rr : 0 ≤ x / 6 % B 10 0 ∧ x / 6 % B 10 0 < B 10 0 := mod_r h
      rw [this] at H67
      exact ⟨by unfold R32; omega, by omega, by unfold R32; omega, H67⟩
  rw [e9, mg]
  refine ⟨fun h => ?_, fun h => ?_⟩
  · have : dgS B x = -1 := by unfold dgS; rw [if_neg (by omega)]
    rw [this] at H40; exact H40
  · have : dgS B x = x % B 10 1 := by unfold dgS; rw [if_pos h]
    have rr : 0 ≤ x % B 10 1 ∧ x % B 10 1 < B 10 1 := mod_r h
    rw [this] at H40
    exact ⟨by omega, by unfold R32; omega, H40⟩)
