def smA (b : Int → Int) (N ti : Int) (σ σ' : Mem) (v : Int) (r : PR) : Prop := match r with
  | .inl e => v = e.1 ∧ 1 ≤ v ∧ tkM σ' b N e.2 ∧ frL σ σ' ti (σ 74 13)
  | .inr q => v = 0 ∧ tkM σ' b N q.2 ∧ frL σ σ' ti (σ 74 13) ∧ (σ' 74 13 ≤ (q.2 : Int) ∧ q.2 ≤ 300) ∧ FM (cdM σ' ti) (ovM σ' ti) (σ 74 13) (σ' 74 13) q.1 ∧ Bd q.1
theorem kd_hK {b : Int → Int} {N : Int} (hB : isTp b N) : ∀ j, 301 ≤ j → kd b N j = 43 := fun j hj => Classical.byContradiction (fun q => by have := (kd_lt hB q).1; omega)

def wp_X12_summed  (σ : Mem) (Q : Int → Mem → Prop) : Prop :=
 ∀ P15 : Mem → Prop,
 (∀  (σ : Mem), (OKm σ →
   (((σ 74 18) = 0) →
     ∃ g11 : Mem, ∃ g12 : Int → Int, ∃ g13 : Int, ∃ g14 : Int, ∃ g15 : Int, ∃ g16 : Int, ∃ g17 : List Int, ∃ g18 : Int, ∃ g19 : Nat, ∃ g20 : SK, (tkM σ g12 g13 g19 ∧ mC g11 g14 g15 g16 σ g17 g18 g19 g20 ∧ σ 74 18 = 0 ∧ g17.length ≤ 120) ∧
     ∀ (u25 : Int) (σ24 : Mem), R32 u25 → OKm σ24 → (stP g11 g12 g13 g14 g15 g16 σ24 u25 (fun Z Fl => begP (kd g12 g13) (nu g12 g13) g15 Z Fl g17 g18 g19 g20)) →
     ((u25 ≤ 0) →
      ((u25 ≠ 0) →
       ∃ g29 : List Int, (plC σ24 g29) ∧
       ∀ (u34 : Int) (σ33 : Mem), R32 u34 → OKm σ33 → (u34 = opP g29 ∧ σ33 = σ24) →
       ((u34 < 0) →
        ∃ g37 : Mem, ∃ g38 : Int → Int, ∃ g39 : Int, ∃ g40 : Int, ∃ g41 : Int, ∃ g42 : Int, ∃ g43 : List Int, ∃ g44 : Int, ∃ g45 : Nat, ∃ g46 : SK, (tkM σ33 g38 g39 g45 ∧ mC g37 g40 g41 g42 σ33 g43 g44 g45 g46 ∧ g43.length ≤ 160) ∧
        ∀ σ50 : Mem, OKm σ50 → (tkM σ50 g38 g39 g45 ∧ mC g37 g40 g41 g42 σ50 (stlS (1 : Int) g43 g44 g46).1 (stlS (1 : Int) g43 g44 g46).2.1 g45 (stlS (1 : Int) g43 g44 g46).2.2 ∧ σ50 74 18 = σ33 74 18) →
        Q 0 σ50) ∧
       ((0 ≤ u34) →
        Q 1 σ33)) ∧
      ((u25 = 0) →
       P15 σ24)) ∧
     ((0 < u25) →
      Q u25 σ24)) ∧
    (((σ 74 18) ≠ 0) →
     ∃ g53 : Mem, ∃ g54 : Int → Int, ∃ g55 : Int, ∃ g56 : Int, ∃ g57 : Int, ∃ g58 : Int, ∃ g59 : List Int, ∃ g60 : Int, ∃ g61 : Nat, ∃ g62 : SK, (tkM σ g54 g55 g61 ∧ mC g53 g56 g57 g58 σ g59 g60 g61 g62 ∧ g59.length ≤ 120) ∧
     ∀ (u67 : Int) (σ66 : Mem), R32 u67 → OKm σ66 → ((u67 = -1 ∧ btw (kd g54 g55 g61) g59 < 0 ∧ prt (kd g54 g55 g61) g59 < 0 ∧ σ66 = σ) ∨ ((0 ≤ btw (kd g54 g55 g61) g59 ∨ 0 ≤ prt (kd g54 g55 g61) g59) ∧ stP g53 g54 g55 g56 g57 g58 σ66 u67 (fun Z Fl => ∃ Dn, behP (kd g54 g55) Z Fl Dn g59 g60 g61 g62))) →
     ((u67 ≤ 0) →
      ((u67 ≠ 0) →
       ∃ g71 : List Int, (plC σ66 g71) ∧
       ∀ (u76 : Int) (σ75 : Mem), R32 u76 → OKm σ75 → (u76 = opP g71 ∧ σ75 = σ66) →
       ((u76 < 0) →
        ∃ g79 : Mem, ∃ g80 : Int → Int, ∃ g81 : Int, ∃ g82 : Int, ∃ g83 : Int, ∃ g84 : Int, ∃ g85 : List Int, ∃ g86 : Int, ∃ g87 : Nat, ∃ g88 : SK, (tkM σ75 g80 g81 g87 ∧ mC g79 g82 g83 g84 σ75 g85 g86 g87 g88 ∧ g85.length ≤ 160) ∧
        ∀ σ92 : Mem, OKm σ92 → (tkM σ92 g80 g81 g87 ∧ mC g79 g82 g83 g84 σ92 (stlS (1 : Int) g85 g86 g88).1 (stlS (1 : Int) g85 g86 g88).2.1 g87 (stlS (1 : Int) g85 g86 g88).2.2 ∧ σ92 74 18 = σ75 74 18) →
        Q 0 σ92) ∧
       ((0 ≤ u76) →
        Q 1 σ75)) ∧
      ((u67 = 0) →
       P15 σ66)) ∧
     ((0 < u67) →
      Q u67 σ66))) → P15  σ) →
  ∀ σ1 : Mem, σ1 = mset σ 74 16 0 →
   ∀ σ4 : Mem, σ4 = mset σ1 74 17 0 →
   ∀ σ7 : Mem, σ7 = mset σ4 74 18 0 →
   P15 σ7
theorem mt_X12_summed {d : Nat} (hd : 6 ≤ d)  {σ : Mem} {Q : Int → Mem → Prop}  (hO : OKm σ) (h : wp_X12_summed  σ Q) : Mt yX12_summed cX12_summed 2 (some .int) d [aR (74)] σ (QI Q) := by
  refine Mt.intro (by decide +kernel) (Nat.le_of_ble_eq_true rfl) [(0, aR (74))] rfl ?_
  unfold wp_X12_summed at h
  have h := h (fun  (σ : Mem) => OKm σ → G yX12_summed cX12_summed 2 (some .int) d (QI Q) 15 [(0, aR (74))] [] σ) ?_
  · refine G_aload_n 0 rfl rfl dX12_summed_0 ?_
    refine G_iconst dX12_summed_1 ?_
    obtain ⟨σ1, e3⟩ : ∃ τ : Mem, τ = mset σ 74 16 0 := ⟨_, rfl⟩
    have h := h σ1 e3
    have o2 : OKm σ1 := by rw [e3]; exact OKm.seti hO _ _ _ (rL 0 rfl) rfl
    refine G_put (k := 16) (ki := 16) (kd := (0, 0)) (x := _) pf_X12_160 rfl rfl rfl rfl (fa_i (mset_self _ _ _ _)) (fun _ => rfl) (fun _ => rfl) dX12_summed_2 ?_
    rw [← e3]
    refine G_aload_n 0 rfl rfl dX12_summed_5 ?_
    refine G_iconst dX12_summed_6 ?_
    obtain ⟨σ4, e6⟩ : ∃ τ : Mem, τ = mset σ1 74 17 0 := ⟨_, rfl⟩
    have h := h σ4 e6
    have o5 : OKm σ4 := by rw [e6]; exact OKm.seti o2 _ _ _ (rL 0 rfl) rfl
    refine G_put (k := 17) (ki := 17) (kd := (0, 0)) (x := _) pf_X12_170 rfl rfl rfl rfl (fa_i (mset_self _ _ _ _)) (fun _ => rfl) (fun _ => rfl) dX12_summed_7 ?_
    rw [← e6]
    refine G_aload_n 0 rfl rfl dX12_summed_10 ?_
    refine G_iconst dX12_summed_11 ?_
    obtain ⟨σ7, e9⟩ : ∃ τ : Mem, τ = mset σ4 74 18 0 := ⟨_, rfl⟩
    have h := h σ7 e9
    have o8 : OKm σ7 := by rw [e9]; exact OKm.seti o5 _ _ _ (r01 (by decide)) rfl
    refine G_put (k := 18) (ki := 18) (kd := (5, 0)) (x := _) pf_X12_210 rfl rfl rfl rfl (fa_z (mset_self _ _ _ _)) (fun _ => narrow_b (by decide)) (fun _ => fits_b (by decide)) dX12_summed_12 ?_
    rw [← e9]
    exact G_pick [0] rfl (h o8)
  · intro  σ h  hO
    have h := h  hO
    refine G_aload_n 0 rfl rfl dX12_summed_15 ?_
    refine G_get (k := 18) (kd := (5, 0)) (v := aI (σ 74 18)) gf_X12_210 rfl rfl rfl rfl dX12_summed_16 ?_
    refine G_if_eq (OKm.i hO 74 18 rfl) dX12_summed_19 (tgt := 29) (by decide) (fun c10 => ?_) (fun c10 => ?_)
    · have h := h.1 c10
      refine G_aload_n 0 rfl rfl dX12_summed_29 ?_
      obtain ⟨g11, g12, g13, g14, g15, g16, g17, g18, g19, g20, c21, h⟩ := h
      refine G_callV (as := []) cf_X12_228 rfl rfl rfl (sp_X12_beginOne (d - 1) (by omega) _ hO  g11 g12 g13 g14 g15 g16 g17 g18 g19 g20 c21) (by omega) rfl rfl (Nat.le_of_ble_eq_true rfl) dX12_summed_30 ?_
      rintro _ σ24 ⟨u25, rfl, z26⟩ o23 r22
      have h := h _ _ (r22 _ rfl) o23 z26
      refine G_istore_n (lv' := [(1, aI (u25)), (0, aR (74))]) rfl rfl (by decide) dX12_summed_33 ?_
      refine G_iload_n 0 rfl rfl dX12_summed_34 ?_
      refine G_if_le (r22 _ rfl) dX12_summed_35 (tgt := 40) (by decide) (fun c27 => ?_) (fun c27 => ?_)
      · have h := h.1 c27
        refine G_iload_n 0 rfl rfl dX12_summed_40 ?_
        refine G_if_ne (r22 _ rfl) dX12_summed_41 (tgt := 47) (by decide) (fun c28 => ?_) (fun c28 => ?_)
        · have h := h.1 c28
          refine G_aload_n 1 rfl rfl dX12_summed_47 ?_
          obtain ⟨g29, c30, h⟩ := h
          refine G_callV (as := []) cf_X12_177 rfl rfl rfl (sp_X12_openNow (d - 1) (by omega) _ o23  g29 c30) (by omega) rfl rfl (Nat.le_of_ble_eq_true rfl) dX12_summed_48 ?_
          rintro _ σ33 ⟨u34, rfl, z35⟩ o32 r31
          have h := h _ _ (r31 _ rfl) o32 z35
          refine G_if_lt (r31 _ rfl) dX12_summed_51 (tgt := 56) (by decide) (fun c36 => ?_) (fun c36 => ?_)
          · have h := h.1 c36
            refine G_aload_n 1 rfl rfl dX12_summed_56 ?_
            refine G_iconst dX12_summed_57 ?_
            obtain ⟨g37, g38, g39, g40, g41, g42, g43, g44, g45, g46, c47, h⟩ := h
            refine G_callV (as := [_]) cf_X12_207 rfl rfl rfl (sp_X12_settle (d - 1) (by omega) _ o32 _ (rL 1 rfl) g37 g38 g39 g40 g41 g42 g43 g44 g45 g46 c47) (by omega) rfl rfl (Nat.le_of_ble_eq_true rfl) dX12_summed_58 ?_
            rintro _ σ50 ⟨rfl, z52⟩ o49 r48
            have h := h _ o49 z52
            refine G_iconst dX12_summed_61 ?_
            exact G_iret rfl (rL 0 rfl) dX12_summed_62 ⟨_, rfl, h⟩ o49
          · have h := h.2 c36
            refine G_iconst dX12_summed_54 ?_
            exact G_iret rfl (rL 1 rfl) dX12_summed_55 ⟨_, rfl, h⟩ o32
        · have h := h.2 c28
          refine G_goto (tgt := 15) dX12_summed_44 (by decide) ?_
          exact G_pick [1] rfl (h o23)
      · have h := h.2 c27
        refine G_iload_n 0 rfl rfl dX12_summed_38 ?_
        exact G_iret rfl (r22 _ rfl) dX12_summed_39 ⟨_, rfl, h⟩ o23
    · have h := h.2 c10
      refine G_aload_n 0 rfl rfl dX12_summed_22 ?_
      obtain ⟨g53, g54, g55, g56, g57, g58, g59, g60, g61, g62, c63, h⟩ := h
      refine G_callV (as := []) cf_X12_225 rfl rfl rfl (sp_X12_behindOne (d - 1) (by omega) _ hO  g53 g54 g55 g56 g57 g58 g59 g60 g61 g62 c63) (by omega) rfl rfl (Nat.le_of_ble_eq_true rfl) dX12_summed_23 ?_
      rintro _ σ66 ⟨u67, rfl, z68⟩ o65 r64
      have h := h _ _ (r64 _ rfl) o65 z68
      refine G_goto (tgt := 33) dX12_summed_26 (by decide) ?_
      refine G_istore_n (lv' := [(1, aI (u67)), (0, aR (74))]) rfl rfl (by decide) dX12_summed_33 ?_
      refine G_iload_n 0 rfl rfl dX12_summed_34 ?_
      refine G_if_le (r64 _ rfl) dX12_summed_35 (tgt := 40) (by decide) (fun c69 => ?_) (fun c69 => ?_)
      · have h := h.1 c69
        refine G_iload_n 0 rfl rfl dX12_summed_40 ?_
        refine G_if_ne (r64 _ rfl) dX12_summed_41 (tgt := 47) (by decide) (fun c70 => ?_) (fun c70 => ?_)
        · have h := h.1 c70
          refine G_aload_n 1 rfl rfl dX12_summed_47 ?_
          obtain ⟨g71, c72, h⟩ := h
          refine G_callV (as := []) cf_X12_177 rfl rfl rfl (sp_X12_openNow (d - 1) (by omega) _ o65  g71 c72) (by omega) rfl rfl (Nat.le_of_ble_eq_true rfl) dX12_summed_48 ?_
          rintro _ σ75 ⟨u76, rfl, z77⟩ o74 r73
          have h := h _ _ (r73 _ rfl) o74 z77
          refine G_if_lt (r73 _ rfl) dX12_summed_51 (tgt := 56) (by decide) (fun c78 => ?_) (fun c78 => ?_)
          · have h := h.1 c78
            refine G_aload_n 1 rfl rfl dX12_summed_56 ?_
            refine G_iconst dX12_summed_57 ?_
            obtain ⟨g79, g80, g81, g82, g83, g84, g85, g86, g87, g88, c89, h⟩ := h
            refine G_callV (as := [_]) cf_X12_207 rfl rfl rfl (sp_X12_settle (d - 1) (by omega) _ o74 _ (rL 1 rfl) g79 g80 g81 g82 g83 g84 g85 g86 g87 g88 c89) (by omega) rfl rfl (Nat.le_of_ble_eq_true rfl) dX12_summed_58 ?_
            rintro _ σ92 ⟨rfl, z94⟩ o91 r90
            have h := h _ o91 z94
            refine G_iconst dX12_summed_61 ?_
            exact G_iret rfl (rL 0 rfl) dX12_summed_62 ⟨_, rfl, h⟩ o91
          · have h := h.2 c78
            refine G_iconst dX12_summed_54 ?_
            exact G_iret rfl (rL 1 rfl) dX12_summed_55 ⟨_, rfl, h⟩ o74
        · have h := h.2 c70
          refine G_goto (tgt := 15) dX12_summed_44 (by decide) ?_
          exact G_pick [1] rfl (h o65)
      · have h := h.2 c69
        refine G_iload_n 0 rfl rfl dX12_summed_38 ?_
        exact G_iret rfl (r64 _ rfl) dX12_summed_39 ⟨_, rfl, h⟩ o65

theorem sp_X12_summed (d : Nat) (hd : 6 ≤ d) (σ : Mem) (hO : OKm σ) (b : Int → Int) (N : Int) (ti : Int) (lw : Int) (i : Nat) (hpre : tkM σ b N i ∧ (0 ≤ ti ∧ ti ≤ 3) ∧ σ 74 12 = 729 * ti ∧ σ 74 14 = (if lw = 9 then 0 else 1) ∧ (0 ≤ σ 74 13 ∧ σ 74 13 ≤ (i : Int) ∧ i ≤ 300)) : Mt yX12_summed cX12_summed 2 (some .int) d [aR (74)] σ (QI (fun v σ' => smA b N ti σ σ' v (pS (kd b N) (nu b N) lw 8 i))) := mt_X12_summed hd  hO (by
  unfold wp_X12_summed
  intro P15 h15
  obtain ⟨ht, hti, h12, h14, h13⟩ := hpre
  generalize ha : σ 74 13 = a at *
  have CL : CLo (kd b N) (nu b N) lw (fun p o w j k => ∀ τ, tkM τ b N j → mC σ ti lw a τ p o j k → τ 74 18 = bI (w = true) → P15 τ) (fun c j => ∀ τ, 1 ≤ c → tkM τ b N j → frL σ τ ti a → smA b N ti σ τ c (pS (kd b N) (nu b N) lw 8 i)) (fun j k => ∀ τ, tkM τ b N j → (∃ p o, mC σ ti lw a τ p o j k) → smA b N ti σ τ 0 (pS (kd b N) (nu b N) lw 8 i)) := by
    refine ⟨fun p o j s hl hB τ ht hm h18 => ?_, fun p o j s hl hB τ ht hm h18 => ?_⟩
    · have h18 : τ 74 18 = 0 := by rw [h18]; rfl
      refine h15 τ (fun _ => ⟨fun _ => ⟨σ, b, N, ti, lw, a, p, o, j, s, ⟨ht, hm, h18, hl⟩, fun u ρ _ _ hst => ?_⟩, fun q => absurd h18 q⟩)
      rcases hst _ _ hB with ⟨hu, p', o', w', j', k', hZ, g1, g2, g3⟩ | ⟨hu, j', hF, g1, g2⟩
      · exact ⟨fun _ => ⟨fun q => absurd hu q, fun _ => hZ ρ g1 g2 g3⟩, fun q => absurd q (by omega)⟩
      · exact ⟨fun q => absurd q (by omega), fun _ => hF ρ hu g1 g2⟩
    · have h18 : τ 74 18 = 1 := by rw [h18]; rfl
      refine h15 τ (fun _ => ⟨fun q => absurd q (by omega), fun _ => ⟨σ, b, N, ti, lw, a, p, o, j, s, ⟨ht, hm, hl⟩, fun u ρ _ _ h => ?_⟩⟩)
      rcases h with ⟨hu, b1, b2, hr⟩ | ⟨_, hst⟩
      · rw [hr, hu]
        unfold behP at hB
        rw [if_neg (by omega), if_pos b2] at hB
        refine ⟨fun _ => ⟨fun _ => ⟨p, hm.plc (by omega), fun u2 ρ2 _ _ h2 => ?_⟩, fun q => absurd q (by decide)⟩, fun q => absurd q (by decide)⟩
        obtain ⟨e2, er⟩ := h2
        rw [er, e2]
        refine ⟨fun hn => ⟨σ, b, N, ti, lw, a, p, o, j, s, ⟨ht, hm, by omega⟩, fun σ92 _ h => ?_⟩, fun h0 => ?_⟩
        · rw [if_neg (by omega)] at hB; exact hB σ92 h.1 ⟨_, _, h.2.1⟩
        · rw [if_pos h0] at hB; exact hB τ (by omega) ht hm.frl
      · rcases hst _ _ ⟨_, hB⟩ with ⟨hu, p', o', w', j', k', hZ, g1, g2, g3⟩ | ⟨hu, j', hF, g1, g2⟩
        · exact ⟨fun _ => ⟨fun q => absurd hu q, fun _ => hZ ρ g1 g2 g3⟩, fun q => absurd q (by omega)⟩
        · exact ⟨fun q => absurd q (by omega), fun _ => hF ρ hu g1 g2⟩
  have R := mch_run (nu_nn ht.1) (kd_hK ht.1) CL i (fun c j he τ hc g1 g2 => by rw [he]; exact ⟨rfl, hc, g1, by rw [ha]; exact g2⟩) (fun f j he τ g1 h => by
    obtain ⟨p, o, g2⟩ := h
    have w := g2.w
    obtain ⟨y, hy, hf, hb⟩ := g2.2.2.2.2.2.2.2.1
    have hy : y = a := hy
    rw [he]; exact ⟨rfl, g1, by rw [ha]; exact g2.frl, by omega, by rw [ha, ← hy]; exact hf, hb⟩)
  intro σ1 e1 σ4 e4 σ7 e7
  have c : ∀ j : Int, j ≠ 16 → j ≠ 17 → j ≠ 18 → σ7 74 j = σ 74 j := fun j q1 q2 q3 => by rw [e7, mset_miss q3, e4, mset_miss q2, e1, mset_miss q1]
  have cF : Fr [74, 77, 79] σ σ7 := by rw [e7, e4, e1]; exact (((Fr.rf _ _).set (by simp)).set (by simp)).set (by simp)
  refine R σ7 (ht.congr (fun j q1 q2 => c j (by omega) (by omega) (by omega)) (cF 78 (by simp))) ⟨⟨hti.1, hti.2, by rw [c 12 (by omega) (by omega) (by omega)]; exact h12⟩, by rw [c 14 (by omega) (by omega) (by omega)]; exact h14, ?_, trivial, ?_, by simp, ⟨h13.1, by rw [c 13 (by omega) (by omega) (by omega), ha]; simp only [List.length_nil]; omega, h13.2.2⟩, ?_, cF, fun j q => c j (by omega) (by omega) (by omega), fun j _ => ?_⟩ (by rw [e7, mset_hit rfl]; rfl)
  · rw [e7, mset_miss (by omega), e4, mset_miss (by omega), e1, mset_hit rfl]; rfl
  · rw [e7, mset_miss (by omega), e4, mset_hit rfl]
  · show σ7 74 13 = a; rw [c 13 (by omega) (by omega) (by omega)]; exact ha
  · rw [e7, mset_off (by omega), e4, mset_off (by omega), e1, mset_off (by omega)])

/-! CLAUSES of the reference -/
def fgF (σ σ' : Mem) (lo hi : Int) : Prop := Fr [74, 77] σ σ' ∧ (∀ j : Int, (j < 7 ∨ 11 < j) → σ' 74 j = σ 74 j) ∧ ∀ j : Int, (j < lo ∨ hi ≤ j) → σ' 77 j = σ 77 j
theorem fgF.rf {σ : Mem} {lo hi : Int} : fgF σ σ lo hi := ⟨Fr.rf _ _, fun _ _ => rfl, fun _ _ => rfl⟩
theorem fgF.tr {σ σ' σ'' : Mem} {lo hi lo1 hi1 lo2 hi2 : Int} (h1 : fgF σ σ' lo1 hi1) (h2 : fgF σ' σ'' lo2 hi2) (a1 : lo ≤ lo1 ∧ hi1 ≤ hi) (a2 : lo ≤ lo2 ∧ hi2 ≤ hi) : fgF σ σ'' lo hi :=
  ⟨h1.1.tr h2.1, fun j q => (h2.2.1 j q).trans (h1.2.1 j q), fun j q => (h2.2.2 j (by omega)).trans (h1.2.2 j (by omega))⟩
theorem fgF.wd {σ σ' : Mem} {lo hi lo1 hi1 : Int} (h1 : fgF σ σ' lo1 hi1) (a1 : lo ≤ lo1 ∧ hi1 ≤ hi) : fgF σ σ' lo hi := ⟨h1.1, h1.2.1, fun j q => h1.2.2 j (by omega)⟩
theorem fgF.nx {σ σ' : Mem} {lo hi : Int} (hj : ∀ j : Int, j ≠ 7 → j ≠ 8 → j ≠ 9 → j ≠ 10 → j ≠ 11 → σ' 74 j = σ 74 j) (hF : Fr [74] σ σ') : fgF σ σ' lo hi :=
  ⟨hF.wk (by simp), fun j q => hj j (by omega) (by omega) (by omega) (by omega) (by omega), fun j _ => by rw [hF 77 (by simp)]⟩
def figA (b : Int → Int) (N : Int) (σ σ' : Mem) (v x : Int) (r : NR) : Prop := match r with
  | .inl e => v = e.1 ∧ 1 ≤ v ∧ tkM σ' b N e.2 ∧ fgF σ σ' x (x + 1)
  | .inr q => v = 0 ∧ tkM σ' b N q.2 ∧ fgF σ σ' x (x + 1) ∧ σ' 77 x = q.1
theorem figA.pre {b : Int → Int} {N : Int} {σ τ σ' : Mem} {v x : Int} {r : NR} (h : figA b N τ σ' v x r) (h1 : fgF σ τ x (x + 1)) : figA b N σ σ' v x r := by
  cases r with
  | inl e => exact ⟨h.1, h.2.1, h.2.2.1, h1.tr h.2.2.2 (by omega) (by omega)⟩
  | inr q => exact ⟨h.1, h.2.1, h1.tr h.2.2.1 (by omega) (by omega), h.2.2.2⟩
def wdQ (c q : Int) : Prop := ∀ (σ : Mem) (b : Int → Int) (N : Int) (i : Nat), tkM σ b N i → ((σ 74 9 = 2 ∧ σ 74 11 = c) ↔ kd b N i = q)

def wp_X12_figure (x1 : Int) (x2 : Int) (x3 : Int) (σ : Mem) (Q : Int → Mem → Prop) : Prop :=
  (((σ 74 9) = 1) →
    ((x2 ≤ (σ 74 10) ∧ (σ 74 10) ≤ x3) →
     (0 ≤ x1 ∧ x1 < 2916) ∧
     ∀ σ6 : Mem, σ6 = mset σ 77 x1 (σ 74 10) →
     ∃ g9 : Int → Int, ∃ g10 : Int, ∃ g11 : Nat, (tkM σ6 g9 g10 g11) ∧
     ∀ σ15 : Mem, OKm σ15 → (tkM σ15 g9 g10 (g11 + 1) ∧ (∀ j : Int, j ≠ 7 → j ≠ 8 → j ≠ 9 → j ≠ 10 → j ≠ 11 → σ15 74 j = σ6 74 j) ∧ Fr [74] σ6 σ15) →
     Q 0 σ15) ∧
    ((¬ (x2 ≤ (σ 74 10) ∧ (σ 74 10) ≤ x3)) →
     Q 2 σ)) ∧
   (((σ 74 9) ≠ 1) →
    Q 1 σ)
theorem mt_X12_figure {d : Nat} (hd : 2 ≤ d) {x1 : Int} {x2 : Int} {x3 : Int} {σ : Mem} {Q : Int → Mem → Prop} (hx1 : R32 x1) (hx2 : R32 x2) (hx3 : R32 x3) (hO : OKm σ) (h : wp_X12_figure x1 x2 x3 σ Q) : Mt yX12_figure cX12_figure 4 (some .int) d [aR (74), aI (x1), aI (x2), aI (x3)] σ (QI Q) := by
  refine Mt.intro (by decide +kernel) (Nat.le_of_ble_eq_true rfl) [(0, aR (74)), (1, aI (x1)), (2, aI (x2)), (3, aI (x3))] rfl ?_
  unfold wp_X12_figure at h
  refine G_aload_n 0 rfl rfl dX12_figure_0 ?_
  refine G_get (k := 9) (kd := (0, 0)) (v := aI (σ 74 9)) gf_X12_113 rfl rfl rfl rfl dX12_figure_1 ?_
  refine G_iconst dX12_figure_4 ?_
  refine G_icmp_eq (OKm.i hO 74 9 rfl) (rL 1 rfl) dX12_figure_5 (tgt := 10) (by decide) (fun c1 => ?_) (fun c1 => ?_)
  · have h := h.1 c1
    refine G_aload_n 0 rfl rfl dX12_figure_10 ?_
    refine G_get (k := 10) (kd := (0, 0)) (v := aI (σ 74 10)) gf_X12_119 rfl rfl rfl rfl dX12_figure_11 ?_
    refine G_iload_n 2 rfl rfl dX12_figure_14 ?_
    refine G_iload_n 3 rfl rfl dX12_figure_15 ?_
    refine G_callS (as := [_, _, _]) cf_X12_81 rfl (sp_X12_isIn (d - 1) (by omega) _ hO _ (OKm.i hO 74 10 rfl) _ hx2 _ hx3) (by omega) rfl rfl (Nat.le_of_ble_eq_true rfl) dX12_figure_16 ?_
    rintro _ _ ⟨_, rfl, rfl, rfl⟩ o3 r2
    refine G_if_ne (bI_R _) dX12_figure_19 (tgt := 24) (by decide) (fun c4 => ?_) (fun c4 => ?_)
    · have h := h.1 (bI_ne c4)
      refine G_aload_n 0 rfl rfl dX12_figure_24 ?_
      refine G_get (k := 2) (kd := (2, 77)) (v := aR 77) gf_X12_16 rfl rfl rfl rfl dX12_figure_25 ?_
      refine G_iload_n 1 rfl rfl dX12_figure_28 ?_
      refine G_aload_n 0 rfl rfl dX12_figure_29 ?_
      refine G_get (k := 10) (kd := (0, 0)) (v := aI (σ 74 10)) gf_X12_119 rfl rfl rfl rfl dX12_figure_30 ?_
      obtain ⟨c5, h⟩ := h
      obtain ⟨σ6, e8⟩ : ∃ τ : Mem, τ = mset σ 77 x1 (σ 74 10) := ⟨_, rfl⟩
      have h := h σ6 e8
      have o7 : OKm σ6 := by rw [e8]; exact OKm.seti hO _ _ _ (OKm.i hO 74 10 rfl) (isLg_row (show shp 77 = (1, 2916, []) from rfl) _)
      refine G_iast (n := 2916) rfl c5.1 c5.2 dX12_figure_33 ?_
      rw [← e8]
      refine G_aload_n 0 rfl rfl dX12_figure_34 ?_
      obtain ⟨g9, g10, g11, c12, h⟩ := h
      refine G_callV (as := []) cf_X12_180 rfl rfl rfl (sp_X12_nextTokenK (d - 1) (by omega) _ o7  g9 g10 g11 c12) (by omega) rfl rfl (Nat.le_of_ble_eq_true rfl) dX12_figure_35 ?_
      rintro _ σ15 ⟨rfl, z17⟩ o14 r13
      have h := h _ o14 z17
      refine G_iconst dX12_figure_38 ?_
      exact G_iret rfl (rL 0 rfl) dX12_figure_39 ⟨_, rfl, h⟩ o14
    · have h := h.2 ((bI_0 _).mp c4)
      refine G_iconst dX12_figure_22 ?_
      exact G_iret rfl (rL 2 rfl) dX12_figure_23 ⟨_, rfl, h⟩ hO
  · have h := h.2 c1
    refine G_iconst dX12_figure_8 ?_
    exact G_iret rfl (rL 1 rfl) dX12_figure_9 ⟨_, rfl, h⟩ hO

theorem sp_X12_figure (d : Nat) (hd : 2 ≤ d) (σ : Mem) (hO : OKm σ) (x1 : Int) (hx1 : R32 x1) (x2 : Int) (hx2 : R32 x2) (x3 : Int) (hx3 : R32 x3) (b : Int → Int) (N : Int) (i : Nat) (hpre : tkM σ b N i ∧ (0 ≤ x1 ∧ x1 < 2916) ∧ x3 ≤ 9999) : Mt yX12_figure cX12_figure 4 (some .int) d [aR (74), aI (x1), aI (x2), aI (x3)] σ (QI (fun v σ' => figA b N σ σ' v x1 (pN (kd b N) (nu b N) x2 x3 i))) := mt_X12_figure hd hx1 hx2 hx3 hO (by
  unfold wp_X12_figure
  obtain ⟨ht, hx, h3⟩ := hpre
  have t1 := tk_num ht
  by_cases c41 : kd b N i = 41
  · have h1 := t1.1.mpr c41
    have hn := t1.2 c41
    refine ⟨fun _ => ⟨fun hin => ⟨hx, fun σ6 e6 => ⟨b, N, i, by rw [e6]; exact ht.set (by omega) (fun q => by omega), fun σ15 _ h => ?_⟩⟩, fun hin => ?_⟩, fun q => absurd h1 q⟩
    · obtain ⟨g1, g2, g3⟩ := h
      have e : pN (kd b N) (nu b N) x2 x3 i = .inr (nu b N i, i + 1) := by unfold pN; rw [if_pos c41, if_pos (by omega)]
      rw [e]
      have f6 : fgF σ σ6 x1 (x1 + 1) := by
        rw [e6]
        exact ⟨(Fr.rf _ _).set (by simp), fun j _ => mset_off (by omega), fun j q => mset_miss (by omega)⟩
      refine ⟨rfl, g1, f6.tr (fgF.nx g2 g3) (by omega) (Int.le_refl x1 |> fun q => ⟨q, Int.le_refl _⟩), ?_⟩
      rw [g3 77 (by simp), e6, mset_hit rfl]; show σ 74 10 = nu b N i; omega
    · have e : pN (kd b N) (nu b N) x2 x3 i = .inl (2, i) := by unfold pN; rw [if_pos c41, if_neg (by omega)]
      rw [e]; exact ⟨rfl, by omega, ht, fgF.rf⟩
  · have e : pN (kd b N) (nu b N) x2 x3 i = .inl (1, i) := by unfold pN; rw [if_neg c41]
    rw [e]
    exact ⟨fun q => absurd (t1.1.mp q) c41, fun _ => ⟨rfl, by omega, ht, fgF.rf⟩⟩)

def wp_X12_worded (x1 : Int) (x2 : Int) (x3 : Int) (x4 : Int) (σ : Mem) (Q : Int → Mem → Prop) : Prop :=
  ((σ 74 9 = 2 ∧ σ 74 11 = x1) →
    ∃ g4 : Int → Int, ∃ g5 : Int, ∃ g6 : Nat, (tkM σ g4 g5 g6) ∧
    ∀ σ10 : Mem, OKm σ10 → (tkM σ10 g4 g5 (g6 + 1) ∧ (∀ j : Int, j ≠ 7 → j ≠ 8 → j ≠ 9 → j ≠ 10 → j ≠ 11 → σ10 74 j = σ 74 j) ∧ Fr [74] σ σ10) →
    ∃ g13 : Int → Int, ∃ g14 : Int, ∃ g15 : Nat, (tkM σ10 g13 g14 g15 ∧ (0 ≤ x2 ∧ x2 < 2916) ∧ x4 ≤ 9999) ∧
    ∀ (u20 : Int) (σ19 : Mem), R32 u20 → OKm σ19 → (figA g13 g14 σ10 σ19 u20 x2 (pN (kd g13 g14) (nu g13 g14) x3 x4 g15)) →
    Q u20 σ19) ∧
   ((¬ (σ 74 9 = 2 ∧ σ 74 11 = x1)) →
    Q 1 σ)
theorem mt_X12_worded {d : Nat} (hd : 3 ≤ d) {x1 : Int} {x2 : Int} {x3 : Int} {x4 : Int} {σ : Mem} {Q : Int → Mem → Prop} (hx1 : R64 x1) (hx2 : R32 x2) (hx3 : R32 x3) (hx4 : R32 x4) (hO : OKm σ) (h : wp_X12_worded x1 x2 x3 x4 σ Q) : Mt yX12_worded cX12_worded 6 (some .int) d [aR (74), aL (x1), aI (x2), aI (x3), aI (x4)] σ (QI Q) := by
  refine Mt.intro (by decide +kernel) (Nat.le_of_ble_eq_true rfl) [(0, aR (74)), (1, aL (x1)), (3, aI (x2)), (4, aI (x3)), (5, aI (x4))] rfl ?_
  unfold wp_X12_worded at h
  refine G_aload_n 0 rfl rfl dX12_worded_0 ?_
  refine G_lload_n 1 rfl rfl dX12_worded_1 ?_
  refine G_callV (as := [_]) cf_X12_199 rfl rfl rfl (sp_X12_isWord (d - 1) (by omega) _ hO _ hx1) (by omega) rfl rfl (Nat.le_of_ble_eq_true rfl) dX12_worded_2 ?_
  rintro _ _ ⟨_, rfl, rfl, rfl⟩ o2 r1
  refine G_if_ne (bI_R _) dX12_worded_5 (tgt := 10) (by decide) (fun c3 => ?_) (fun c3 => ?_)
  · have h := h.1 (bI_ne c3)
    refine G_aload_n 0 rfl rfl dX12_worded_10 ?_
    obtain ⟨g4, g5, g6, c7, h⟩ := h
    refine G_callV (as := []) cf_X12_180 rfl rfl rfl (sp_X12_nextTokenK (d - 1) (by omega) _ hO  g4 g5 g6 c7) (by omega) rfl rfl (Nat.le_of_ble_eq_true rfl) dX12_worded_11 ?_
    rintro _ σ10 ⟨rfl, z12⟩ o9 r8
    have h := h _ o9 z12
    refine G_aload_n 0 rfl rfl dX12_worded_14 ?_
    refine G_iload_n 2 rfl rfl dX12_worded_15 ?_
    refine G_iload 3 rfl dX12_worded_16 ?_
    refine G_iload 4 rfl dX12_worded_18 ?_
    obtain ⟨g13, g14, g15, c16, h⟩ := h
    refine G_callV (as := [_, _, _]) cf_X12_231 rfl rfl rfl (sp_X12_figure (d - 1) (by omega) _ o9 _ hx2 _ hx3 _ hx4 g13 g14 g15 c16) (by omega) rfl rfl (Nat.le_of_ble_eq_true rfl) dX12_worded_20 ?_
    rintro _ σ19 ⟨u20, rfl, z21⟩ o18 r17
    have h := h _ _ (r17 _ rfl) o18 z21
    exact G_iret rfl (r17 _ rfl) dX12_worded_23 ⟨_, rfl, h⟩ o18
  · have h := h.2 ((bI_0 _).mp c3)
    refine G_iconst dX12_worded_8 ?_
    exact G_iret rfl (rL 1 rfl) dX12_worded_9 ⟨_, rfl, h⟩ hO

theorem sp_X12_worded (d : Nat) (hd : 3 ≤ d) (σ : Mem) (hO : OKm σ) (x1 : Int) (hx1 : R64 x1) (x2 : Int) (hx2 : R32 x2) (x3 : Int) (hx3 : R32 x3) (x4 : Int) (hx4 : R32 x4) (b : Int → Int) (N : Int) (i : Nat) (kq : Int) (hpre : tkM σ b N i ∧ wdQ x1 kq ∧ (0 ≤ x2 ∧ x2 < 2916) ∧ x4 ≤ 9999) : Mt yX12_worded cX12_worded 6 (some .int) d [aR (74), aL (x1), aI (x2), aI (x3), aI (x4)] σ (QI (fun v σ' => figA b N σ σ' v x2 (pW (kd b N) (nu b N) kq x3 x4 i))) := mt_X12_worded hd hx1 hx2 hx3 hx4 hO (by
  unfold wp_X12_worded
  obtain ⟨ht, hq, hx, h3⟩ := hpre
  rw [hq σ b N i ht]
  refine ⟨fun hk => ⟨b, N, i, ht, fun σ10 _ h => ?_⟩, fun hk => ?_⟩
  · obtain ⟨g1, g2, g3⟩ := h
    have e : pW (kd b N) (nu b N) kq x3 x4 i = pN (kd b N) (nu b N) x3 x4 (i + 1) := by unfold pW; rw [if_pos hk]
    rw [e]
    exact ⟨b, N, i + 1, ⟨g1, hx, h3⟩, fun u ρ _ _ h => h.pre (fgF.nx g2 g3)⟩
  · have e : pW (kd b N) (nu b N) kq x3 x4 i = .inl (1, i) := by unfold pW; rw [if_neg hk]
    rw [e]; exact ⟨rfl, by omega, ht, fgF.rf⟩)

abbrev P2R : Type := (Int × Nat) ⊕ ((Int × Int) × Nat)
def pP2 (K M : Nat → Int) (top kq lo hi : Int) (i : Nat) : P2R := match pN K M 0 top i with
  | .inl e => .inl e
  | .inr q => match pW K M kq lo hi q.2 with
    | .inl e => .inl e
    | .inr r => .inr ((q.1, r.1), r.2)
def pA2 (b : Int → Int) (N : Int) (σ σ' : Mem) (v x : Int) (r : P2R) : Prop := match r with
  | .inl e => v = e.1 ∧ 1 ≤ v ∧ tkM σ' b N e.2 ∧ fgF σ σ' (x + 1) (x + 3)
  | .inr q => v = 0 ∧ tkM σ' b N q.2 ∧ fgF σ σ' (x + 1) (x + 3) ∧ σ' 77 (x + 1) = q.1.1 ∧ σ' 77 (x + 2) = q.1.2
