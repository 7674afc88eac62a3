theorem stl_len {m : Int} (p : List Int) (o : Int) (s : SK) : (stlS m p o s).1.length ≤ p.length := by
  obtain ⟨Q, h1, _⟩ := stl_app (m := m) p o s
  have := congrArg List.length h1
  simp at this
  omega
/-- behind one step: B is what the pure machine asks of the goal -/
def stP (z0 : Mem) (b : Int → Int) (N ti lw a : Int) (τ : Mem) (v : Int) (B : (List Int → Int → Bool → Nat → SK → Prop) → (Int → Nat → Prop) → Prop) : Prop :=
  ∀ Z Fl, B Z Fl → (v = 0 ∧ ∃ p o w i k, Z p o w i k ∧ tkM τ b N i ∧ mC z0 ti lw a τ p o i k ∧ τ 74 18 = bI (w = true)) ∨ (1 ≤ v ∧ ∃ i, Fl v i ∧ tkM τ b N i ∧ frL z0 τ ti a)
theorem stP.Z {z0 : Mem} {b : Int → Int} {N ti lw a : Int} {τ : Mem} {v : Int} {B : (List Int → Int → Bool → Nat → SK → Prop) → (Int → Nat → Prop) → Prop} {p : List Int} {o : Int} {w : Bool} {i : Nat} {k : SK} (hv : v = 0) (hB : ∀ Z Fl, B Z Fl → Z p o w i k) (h1 : tkM τ b N i) (h2 : mC z0 ti lw a τ p o i k) (h3 : τ 74 18 = bI (w = true)) : stP z0 b N ti lw a τ v B := fun Z Fl h => .inl ⟨hv, p, o, w, i, k, hB Z Fl h, h1, h2, h3⟩
theorem stP.F {z0 : Mem} {b : Int → Int} {N ti lw a : Int} {τ : Mem} {v : Int} {B : (List Int → Int → Bool → Nat → SK → Prop) → (Int → Nat → Prop) → Prop} {i : Nat} (hv : 1 ≤ v) (hB : ∀ Z Fl, B Z Fl → Fl v i) (h1 : tkM τ b N i) (h2 : frL z0 τ ti a) : stP z0 b N ti lw a τ v B := fun Z Fl h => .inr ⟨hv, i, hB Z Fl h, h1, h2⟩
theorem stP.mono {z0 : Mem} {b : Int → Int} {N ti lw a : Int} {τ : Mem} {v : Int} {B B' : (List Int → Int → Bool → Nat → SK → Prop) → (Int → Nat → Prop) → Prop} (h : stP z0 b N ti lw a τ v B) (hb : ∀ Z Fl, B' Z Fl → B Z Fl) : stP z0 b N ti lw a τ v B' := fun Z Fl hB => h Z Fl (hb Z Fl hB)
theorem mC.frl {z0 : Mem} {ti lw a : Int} {σ : Mem} {p : List Int} {o : Int} {n : Nat} {k : SK} (h : mC z0 ti lw a σ p o n k) : frL z0 σ ti a := h.2.2.2.2.2.2.2.2
/-- isWhole alone is set -/
theorem mC.set18 {z0 : Mem} {ti lw a : Int} {σ : Mem} {p : List Int} {o v : Int} {n : Nat} {k : SK} (h : mC z0 ti lw a σ p o n k) : mC z0 ti lw a (mset σ 74 18 v) p o n k :=
  h.keep (by rw [mset_miss (by omega)]; exact h.2.2.1) (h.2.2.2.1.congr (fun j _ _ => by rw [mset_off (by omega)])) (by rw [mset_miss (by omega)]; exact h.2.2.2.2.1) h.2.2.2.2.2.1 (by have := h.w; omega) (fun j q => mset_miss (by omega)) ((Fr.rf _ _).set (by simp))
theorem tkM.set {σ : Mem} {b : Int → Int} {N : Int} {i : Nat} {p : Nat} {j v : Int} (h : tkM σ b N i) (hp : p ≠ 78) (hj : p = 74 → j < 4 ∨ 11 < j) : tkM (mset σ p j v) b N i := by
  refine h.congr (fun j' q1 q2 => ?_) (mset_ne (by omega))
  by_cases e : p = 74
  · subst e; exact mset_miss (by have := hj rfl; omega)
  · exact mset_off (by omega)

def wp_X12_endOne  (σ : Mem) (Q : Int → Mem → Prop) : Prop :=
  ∃ g1 : Mem, ∃ g2 : Int → Int, ∃ g3 : Int, ∃ g4 : Int, ∃ g5 : Int, ∃ g6 : Int, ∃ g7 : List Int, ∃ g8 : Int, ∃ g9 : Nat, ∃ g10 : SK, (tkM σ g2 g3 g9 ∧ mC g1 g4 g5 g6 σ g7 g8 g9 g10 ∧ g7.length ≤ 160) ∧
   ∀ σ14 : Mem, OKm σ14 → (tkM σ14 g2 g3 g9 ∧ mC g1 g4 g5 g6 σ14 (stlS (7 : Int) g7 g8 g10).1 (stlS (7 : Int) g7 g8 g10).2.1 g9 (stlS (7 : Int) g7 g8 g10).2.2 ∧ σ14 74 18 = σ 74 18) →
   ∀ σ17 : Mem, σ17 = mset σ14 74 18 1 →
   (((σ17 74 16) = 0) →
    Q 0 σ17) ∧
   (((σ17 74 16) ≠ 0) →
    (0 ≤ ((σ17 74 16) - 1) ∧ ((σ17 74 16) - 1) < 160) ∧
    (((σ17 79 ((σ17 74 16) - 1)) = 41) →
     ((0 ≤ (111 : Int) ∧ (111 : Int) < 256) ∧ (0 ≤ (102 : Int) ∧ (102 : Int) < 256)) ∧
     ((σ17 74 9 = 2 ∧ σ17 74 11 = ((111 : Int) * 256 + (102 : Int))) →
      ∃ g29 : Int → Int, ∃ g30 : Int, ∃ g31 : Nat, (tkM σ17 g29 g30 g31) ∧
      ∀ σ35 : Mem, OKm σ35 → (tkM σ35 g29 g30 (g31 + 1) ∧ (∀ j : Int, j ≠ 7 → j ≠ 8 → j ≠ 9 → j ≠ 10 → j ≠ 11 → σ35 74 j = σ17 74 j) ∧ Fr [74] σ17 σ35) →
      (0 ≤ ((σ35 74 16) - 1) ∧ ((σ35 74 16) - 1) < 160) ∧
      ∀ σ39 : Mem, σ39 = mset σ35 79 ((σ35 74 16) - 1) 4 →
      ∀ σ42 : Mem, σ42 = mset σ39 74 18 0 →
      Q 0 σ42) ∧
     ((¬ (σ17 74 9 = 2 ∧ σ17 74 11 = ((111 : Int) * 256 + (102 : Int)))) →
      Q 1 σ17)) ∧
    (((σ17 79 ((σ17 74 16) - 1)) ≠ 41) →
     Q 0 σ17))
theorem mt_X12_endOne {d : Nat} (hd : 2 ≤ d)  {σ : Mem} {Q : Int → Mem → Prop}  (hO : OKm σ) (h : wp_X12_endOne  σ Q) : Mt yX12_endOne cX12_endOne 1 (some .int) d [aR (74)] σ (QI Q) := by
  refine Mt.intro (by decide +kernel) (Nat.le_of_ble_eq_true rfl) [(0, aR (74))] rfl ?_
  unfold wp_X12_endOne at h
  refine G_aload_n 0 rfl rfl dX12_endOne_0 ?_
  refine G_bipush (by decide) dX12_endOne_1 ?_
  obtain ⟨g1, g2, g3, g4, g5, g6, g7, g8, g9, g10, c11, h⟩ := h
  refine G_callV (as := [_]) cf_X12_207 rfl rfl rfl (sp_X12_settle (d - 1) (by omega) _ hO _ (rL 7 rfl) g1 g2 g3 g4 g5 g6 g7 g8 g9 g10 c11) (by omega) rfl rfl (Nat.le_of_ble_eq_true rfl) dX12_endOne_3 ?_
  rintro _ σ14 ⟨rfl, z16⟩ o13 r12
  have h := h _ o13 z16
  refine G_aload_n 0 rfl rfl dX12_endOne_6 ?_
  refine G_iconst dX12_endOne_7 ?_
  obtain ⟨σ17, e19⟩ : ∃ τ : Mem, τ = mset σ14 74 18 1 := ⟨_, rfl⟩
  have h := h σ17 e19
  have o18 : OKm σ17 := by rw [e19]; exact OKm.seti o13 _ _ _ (r01 (by decide)) rfl
  refine G_put (k := 18) (ki := 18) (kd := (5, 0)) (x := _) pf_X12_210 rfl rfl rfl rfl (fa_z (mset_self _ _ _ _)) (fun _ => narrow_b (by decide)) (fun _ => fits_b (by decide)) dX12_endOne_8 ?_
  rw [← e19]
  refine G_aload_n 0 rfl rfl dX12_endOne_11 ?_
  refine G_get (k := 16) (kd := (0, 0)) (v := aI (σ17 74 16)) gf_X12_160 rfl rfl rfl rfl dX12_endOne_12 ?_
  refine G_if_eq (OKm.i o18 74 16 rfl) dX12_endOne_15 (tgt := 34) (by decide) (fun c20 => ?_) (fun c20 => ?_)
  · have h := h.1 c20
    refine G_iconst dX12_endOne_34 ?_
    exact G_iret rfl (rL 0 rfl) dX12_endOne_35 ⟨_, rfl, h⟩ o18
  · have h := h.2 c20
    refine G_aload_n 0 rfl rfl dX12_endOne_18 ?_
    refine G_get (k := 15) (kd := (2, 79)) (v := aR 79) gf_X12_29 rfl rfl rfl rfl dX12_endOne_19 ?_
    refine G_aload_n 0 rfl rfl dX12_endOne_22 ?_
    refine G_get (k := 16) (kd := (0, 0)) (v := aI (σ17 74 16)) gf_X12_160 rfl rfl rfl rfl dX12_endOne_23 ?_
    refine G_iconst dX12_endOne_26 ?_
    refine G_isub dX12_endOne_27 ?_
    obtain ⟨c21, h⟩ := h
    refine G_iald (n := 160) rfl c21.1 c21.2 dX12_endOne_28 ?_
    refine G_bipush (by decide) dX12_endOne_29 ?_
    refine G_icmp_eq (OKm.i o18 79 ((σ17 74 16) - 1) (isLg_row (show shp 79 = (1, 160, []) from rfl) _)) (rL 41 rfl) dX12_endOne_31 (tgt := 36) (by decide) (fun c22 => ?_) (fun c22 => ?_)
    · have h := h.1 c22
      refine G_aload_n 0 rfl rfl dX12_endOne_36 ?_
      refine G_bipush (by decide) dX12_endOne_37 ?_
      refine G_bipush (by decide) dX12_endOne_39 ?_
      obtain ⟨c23, h⟩ := h
      refine G_callS (as := [_, _]) cf_X12_135 rfl (sp_X12_w2 (d - 1) (by omega) _ o18 _ (rL 111 rfl) _ (rL 102 rfl) c23) (by omega) rfl rfl (Nat.le_of_ble_eq_true rfl) dX12_endOne_41 ?_
      rintro _ _ ⟨_, rfl, rfl, rfl⟩ o25 r24
      refine G_callV (as := [_]) cf_X12_199 rfl rfl rfl (sp_X12_isWord (d - 1) (by omega) _ o18 _ (r24 _ rfl)) (by omega) rfl rfl (Nat.le_of_ble_eq_true rfl) dX12_endOne_44 ?_
      rintro _ _ ⟨_, rfl, rfl, rfl⟩ o27 r26
      refine G_if_ne (bI_R _) dX12_endOne_47 (tgt := 52) (by decide) (fun c28 => ?_) (fun c28 => ?_)
      · have h := h.1 (bI_ne c28)
        refine G_aload_n 0 rfl rfl dX12_endOne_52 ?_
        obtain ⟨g29, g30, g31, c32, h⟩ := h
        refine G_callV (as := []) cf_X12_180 rfl rfl rfl (sp_X12_nextTokenK (d - 1) (by omega) _ o18  g29 g30 g31 c32) (by omega) rfl rfl (Nat.le_of_ble_eq_true rfl) dX12_endOne_53 ?_
        rintro _ σ35 ⟨rfl, z37⟩ o34 r33
        have h := h _ o34 z37
        refine G_aload_n 0 rfl rfl dX12_endOne_56 ?_
        refine G_get (k := 15) (kd := (2, 79)) (v := aR 79) gf_X12_29 rfl rfl rfl rfl dX12_endOne_57 ?_
        refine G_aload_n 0 rfl rfl dX12_endOne_60 ?_
        refine G_get (k := 16) (kd := (0, 0)) (v := aI (σ35 74 16)) gf_X12_160 rfl rfl rfl rfl dX12_endOne_61 ?_
        refine G_iconst dX12_endOne_64 ?_
        refine G_isub dX12_endOne_65 ?_
        refine G_iconst dX12_endOne_66 ?_
        obtain ⟨c38, h⟩ := h
        obtain ⟨σ39, e41⟩ : ∃ τ : Mem, τ = mset σ35 79 ((σ35 74 16) - 1) 4 := ⟨_, rfl⟩
        have h := h σ39 e41
        have o40 : OKm σ39 := by rw [e41]; exact OKm.seti o34 _ _ _ (rL 4 rfl) (isLg_row (show shp 79 = (1, 160, []) from rfl) _)
        refine G_iast (n := 160) rfl c38.1 c38.2 dX12_endOne_67 ?_
        rw [← e41]
        refine G_aload_n 0 rfl rfl dX12_endOne_68 ?_
        refine G_iconst dX12_endOne_69 ?_
        obtain ⟨σ42, e44⟩ : ∃ τ : Mem, τ = mset σ39 74 18 0 := ⟨_, rfl⟩
        have h := h σ42 e44
        have o43 : OKm σ42 := by rw [e44]; exact OKm.seti o40 _ _ _ (r01 (by decide)) rfl
        refine G_put (k := 18) (ki := 18) (kd := (5, 0)) (x := _) pf_X12_210 rfl rfl rfl rfl (fa_z (mset_self _ _ _ _)) (fun _ => narrow_b (by decide)) (fun _ => fits_b (by decide)) dX12_endOne_70 ?_
        rw [← e44]
        refine G_iconst dX12_endOne_73 ?_
        exact G_iret rfl (rL 0 rfl) dX12_endOne_74 ⟨_, rfl, h⟩ o43
      · have h := h.2 ((bI_0 _).mp c28)
        refine G_iconst dX12_endOne_50 ?_
        exact G_iret rfl (rL 1 rfl) dX12_endOne_51 ⟨_, rfl, h⟩ o18
    · have h := h.2 c22
      refine G_iconst dX12_endOne_34 ?_
      exact G_iret rfl (rL 0 rfl) dX12_endOne_35 ⟨_, rfl, h⟩ o18

theorem sp_X12_endOne (d : Nat) (hd : 2 ≤ d) (σ : Mem) (hO : OKm σ) (z0 : Mem) (b : Int → Int) (N : Int) (ti : Int) (lw : Int) (a : Int) (p : List Int) (o : Int) (i : Nat) (k : SK) (hpre : tkM σ b N i ∧ mC z0 ti lw a σ p o i k ∧ p.length ≤ 160) : Mt yX12_endOne cX12_endOne 1 (some .int) d [aR (74)] σ (QI (fun v σ' => stP z0 b N ti lw a σ' v (fun Z Fl => eo (kd b N) Z Fl p o i k))) := mt_X12_endOne hd  hO (by
  unfold wp_X12_endOne
  obtain ⟨ht0, hm0, hl0⟩ := hpre
  refine ⟨z0, b, N, ti, lw, a, p, o, i, k, ⟨ht0, hm0, hl0⟩, fun σ14 _ h σ17 e17 => ?_⟩
  obtain ⟨ht, hm, -⟩ := h
  have hln := stl_len (m := 7) p o k
  generalize hS : stlS 7 p o k = S at hm hln
  obtain ⟨p', o', k'⟩ := S
  dsimp only at hm hln
  have ht17 : tkM σ17 b N i := by rw [e17]; exact ht.set (by omega) (fun _ => by omega)
  have hm17 : mC z0 ti lw a σ17 p' o' i k' := by rw [e17]; exact hm.set18
  have h18 : σ17 74 18 = 1 := by rw [e17, mset_hit rfl]
  have c16 : σ17 74 16 = (p'.length : Int) := hm17.2.2.1
  cases p' with
  | nil =>
    refine ⟨fun _ => stP.Z (p := []) (o := o') (w := true) (i := i) (k := k') rfl (fun Z Fl hB => ?_) ht17 hm17 (by rw [h18]; rfl), fun h => absurd c16 (by simpa using h)⟩
    unfold eo at hB; rw [hS] at hB; dsimp only at hB
    rw [if_neg (by simp)] at hB; exact hB
  | cons x r =>
    have c15 : σ17 74 16 - 1 = (r.length : Int) := by simp at c16; omega
    have hx : σ17 79 (r.length : Int) = x := hm17.2.2.2.1.1
    simp at hln c16
    rw [c15, hx, tkw_of ht17]
    refine ⟨fun h => absurd h (by omega), fun _ => ⟨by omega, fun h41 => ⟨by decide, fun hw => ?_, fun hw => ?_⟩, fun h41 => ?_⟩⟩
    · refine ⟨b, N, i, ht17, fun σ35 _ ⟨g1, g2, g3⟩ => ?_⟩
      have h3 := kd_300 ht17 (by omega)
      have hm35 := hm17.next (b := b) (N := N) (m := i + 1) (by omega) g2 g3
      have d15 : σ35 74 16 - 1 = (r.length : Int) := by have := hm35.2.2.1; simp at this; omega
      rw [d15]
      refine ⟨by omega, fun σ39 e39 σ42 e42 => ?_⟩
      refine stP.Z (p := 4 :: r) (o := o') (w := false) (i := i + 1) (k := k') rfl (fun Z Fl hB => ?_) ?_ ?_ (by rw [e42, mset_hit rfl]; rfl)
      · unfold eo at hB; rw [hS] at hB; dsimp only at hB
        rw [if_pos (by rw [h41]; rfl), if_pos hw] at hB; exact hB
      · rw [e42, e39]; exact (g1.set (by omega) (fun q => by omega)).set (by omega) (fun _ => by omega)
      · have w := hm35.w
        have ho := hm35.2.2.2.2.2.1
        rw [e42]
        refine mC.set18 (hm35.keep (by rw [e39, mset_off (by omega)]; have := hm35.2.2.1; simpa using this) ⟨by rw [e39, mset_hit rfl], hm35.2.2.2.1.2.congr (fun j q1 q2 => by rw [e39, mset_miss (by omega)])⟩ (by rw [e39, mset_off (by omega)]; exact hm35.2.2.2.2.1) (by simpa using ho) (by simp at w ⊢; omega) (fun j q => by rw [e39, mset_off (by omega)]) (by rw [e39]; exact (Fr.rf _ _).set (by simp)))
    · refine stP.F (i := i) (by omega) (fun Z Fl hB => ?_) ht17 hm17.frl
      unfold eo at hB; rw [hS] at hB; dsimp only at hB
      rw [if_pos (by rw [h41]; rfl), if_neg hw] at hB; exact hB
    · refine stP.Z (p := x :: r) (o := o') (w := true) (i := i) (k := k') rfl (fun Z Fl hB => ?_) ht17 hm17 (by rw [h18]; rfl)
      unfold eo at hB; rw [hS] at hB; dsimp only at hB
      rw [if_neg (by simpa using h41)] at hB; exact hB)

def wp_X12_betweenOf  (σ : Mem) (Q : Int → Mem → Prop) : Prop :=
  (((σ 74 9) ≠ 43) →
    (((σ 74 9) ≠ 45) →
     (((σ 74 9) ≠ 42) →
      (((σ 74 9) ≠ 47) →
       ∃ g5 : List Int, (plC σ g5) ∧
       ∀ (u10 : Int) (σ9 : Mem), R32 u10 → OKm σ9 → (u10 = opP g5 ∧ σ9 = σ) →
       ((u10 = 42) →
        ∃ g13 : List Int, (plC σ9 g13) ∧
        ∀ (u18 : Int) (σ17 : Mem), R32 u18 → OKm σ17 → ((u18 = 1 ∧ cmpd g13 = true ∨ u18 = 0 ∧ cmpd g13 = false) ∧ σ17 = σ9) →
        ((u18 ≠ 0) →
         ((0 ≤ (97 : Int) ∧ (97 : Int) < 256) ∧ (0 ≤ (110 : Int) ∧ (110 : Int) < 256) ∧ (0 ≤ (100 : Int) ∧ (100 : Int) < 256)) ∧
         ((¬ (σ17 74 9 = 2 ∧ σ17 74 11 = (((97 : Int) * 256 + (110 : Int)) * 256 + (100 : Int)))) →
          ((0 ≤ (111 : Int) ∧ (111 : Int) < 256) ∧ (0 ≤ (114 : Int) ∧ (114 : Int) < 256)) ∧
          ((¬ (σ17 74 9 = 2 ∧ σ17 74 11 = ((111 : Int) * 256 + (114 : Int)))) →
           Q (-1) σ17) ∧
          ((σ17 74 9 = 2 ∧ σ17 74 11 = ((111 : Int) * 256 + (114 : Int))) →
           Q 22 σ17)) ∧
         ((σ17 74 9 = 2 ∧ σ17 74 11 = (((97 : Int) * 256 + (110 : Int)) * 256 + (100 : Int))) →
          Q 21 σ17)) ∧
        ((u18 = 0) →
         Q (if σ17 74 9 = 60 then 10 else if σ17 74 9 = 4 then 11 else if σ17 74 9 = 62 then 12 else if σ17 74 9 = 5 then 13 else if σ17 74 9 = 61 then 14 else if σ17 74 9 = 35 then 15 else -1) σ17)) ∧
       ((u10 ≠ 42) →
        Q (-1) σ9)) ∧
      (((σ 74 9) = 47) →
       Q 9 σ)) ∧
     (((σ 74 9) = 42) →
      Q 8 σ)) ∧
    (((σ 74 9) = 45) →
     Q 7 σ)) ∧
   (((σ 74 9) = 43) →
    Q 6 σ)
theorem mt_X12_betweenOf {d : Nat} (hd : 2 ≤ d)  {σ : Mem} {Q : Int → Mem → Prop}  (hO : OKm σ) (h : wp_X12_betweenOf  σ Q) : Mt yX12_betweenOf cX12_betweenOf 1 (some .int) d [aR (74)] σ (QI Q) := by
  refine Mt.intro (by decide +kernel) (Nat.le_of_ble_eq_true rfl) [(0, aR (74))] rfl ?_
  unfold wp_X12_betweenOf at h
  refine G_aload_n 0 rfl rfl dX12_betweenOf_0 ?_
  refine G_get (k := 9) (kd := (0, 0)) (v := aI (σ 74 9)) gf_X12_113 rfl rfl rfl rfl dX12_betweenOf_1 ?_
  refine G_bipush (by decide) dX12_betweenOf_4 ?_
  refine G_icmp_ne (OKm.i hO 74 9 rfl) (rL 43 rfl) dX12_betweenOf_6 (tgt := 12) (by decide) (fun c1 => ?_) (fun c1 => ?_)
  · have h := h.1 c1
    refine G_aload_n 0 rfl rfl dX12_betweenOf_12 ?_
    refine G_get (k := 9) (kd := (0, 0)) (v := aI (σ 74 9)) gf_X12_113 rfl rfl rfl rfl dX12_betweenOf_13 ?_
    refine G_bipush (by decide) dX12_betweenOf_16 ?_
    refine G_icmp_ne (OKm.i hO 74 9 rfl) (rL 45 rfl) dX12_betweenOf_18 (tgt := 24) (by decide) (fun c2 => ?_) (fun c2 => ?_)
    · have h := h.1 c2
      refine G_aload_n 0 rfl rfl dX12_betweenOf_24 ?_
      refine G_get (k := 9) (kd := (0, 0)) (v := aI (σ 74 9)) gf_X12_113 rfl rfl rfl rfl dX12_betweenOf_25 ?_
      refine G_bipush (by decide) dX12_betweenOf_28 ?_
      refine G_icmp_ne (OKm.i hO 74 9 rfl) (rL 42 rfl) dX12_betweenOf_30 (tgt := 36) (by decide) (fun c3 => ?_) (fun c3 => ?_)
      · have h := h.1 c3
        refine G_aload_n 0 rfl rfl dX12_betweenOf_36 ?_
        refine G_get (k := 9) (kd := (0, 0)) (v := aI (σ 74 9)) gf_X12_113 rfl rfl rfl rfl dX12_betweenOf_37 ?_
        refine G_bipush (by decide) dX12_betweenOf_40 ?_
        refine G_icmp_ne (OKm.i hO 74 9 rfl) (rL 47 rfl) dX12_betweenOf_42 (tgt := 48) (by decide) (fun c4 => ?_) (fun c4 => ?_)
        · have h := h.1 c4
          refine G_aload_n 0 rfl rfl dX12_betweenOf_48 ?_
          obtain ⟨g5, c6, h⟩ := h
          refine G_callV (as := []) cf_X12_177 rfl rfl rfl (sp_X12_openNow (d - 1) (by omega) _ hO  g5 c6) (by omega) rfl rfl (Nat.le_of_ble_eq_true rfl) dX12_betweenOf_49 ?_
          rintro _ σ9 ⟨u10, rfl, z11⟩ o8 r7
          have h := h _ _ (r7 _ rfl) o8 z11
          refine G_bipush (by decide) dX12_betweenOf_52 ?_
          refine G_icmp_eq (r7 _ rfl) (rL 42 rfl) dX12_betweenOf_54 (tgt := 59) (by decide) (fun c12 => ?_) (fun c12 => ?_)
          · have h := h.1 c12
            refine G_aload_n 0 rfl rfl dX12_betweenOf_59 ?_
            obtain ⟨g13, c14, h⟩ := h
            refine G_callV (as := []) cf_X12_213 rfl rfl rfl (sp_X12_isCompared (d - 1) (by omega) _ o8  g13 c14) (by omega) rfl rfl (Nat.le_of_ble_eq_true rfl) dX12_betweenOf_60 ?_
            rintro _ σ17 ⟨u18, rfl, z19⟩ o16 r15
            have h := h _ _ (r15 _ rfl) o16 z19
            refine G_if_ne (r15 _ rfl) dX12_betweenOf_63 (tgt := 71) (by decide) (fun c20 => ?_) (fun c20 => ?_)
            · have h := h.1 c20
              refine G_aload_n 0 rfl rfl dX12_betweenOf_71 ?_
              refine G_bipush (by decide) dX12_betweenOf_72 ?_
              refine G_bipush (by decide) dX12_betweenOf_74 ?_
              refine G_bipush (by decide) dX12_betweenOf_76 ?_
              obtain ⟨c21, h⟩ := h
              refine G_callS (as := [_, _, _]) cf_X12_139 rfl (sp_X12_w3 (d - 1) (by omega) _ o16 _ (rL 97 rfl) _ (rL 110 rfl) _ (rL 100 rfl) c21) (by omega) rfl rfl (Nat.le_of_ble_eq_true rfl) dX12_betweenOf_78 ?_
              rintro _ _ ⟨_, rfl, rfl, rfl⟩ o23 r22
              refine G_callV (as := [_]) cf_X12_199 rfl rfl rfl (sp_X12_isWord (d - 1) (by omega) _ o16 _ (r22 _ rfl)) (by omega) rfl rfl (Nat.le_of_ble_eq_true rfl) dX12_betweenOf_81 ?_
              rintro _ _ ⟨_, rfl, rfl, rfl⟩ o25 r24
              refine G_if_eq (bI_R _) dX12_betweenOf_84 (tgt := 92) (by decide) (fun c26 => ?_) (fun c26 => ?_)
              · have h := h.1 ((bI_0 _).mp c26)
                refine G_aload_n 0 rfl rfl dX12_betweenOf_92 ?_
                refine G_bipush (by decide) dX12_betweenOf_93 ?_
                refine G_bipush (by decide) dX12_betweenOf_95 ?_
                obtain ⟨c27, h⟩ := h
                refine G_callS (as := [_, _]) cf_X12_135 rfl (sp_X12_w2 (d - 1) (by omega) _ o16 _ (rL 111 rfl) _ (rL 114 rfl) c27) (by omega) rfl rfl (Nat.le_of_ble_eq_true rfl) dX12_betweenOf_97 ?_
                rintro _ _ ⟨_, rfl, rfl, rfl⟩ o29 r28
                refine G_callV (as := [_]) cf_X12_199 rfl rfl rfl (sp_X12_isWord (d - 1) (by omega) _ o16 _ (r28 _ rfl)) (by omega) rfl rfl (Nat.le_of_ble_eq_true rfl) dX12_betweenOf_100 ?_
                rintro _ _ ⟨_, rfl, rfl, rfl⟩ o31 r30
                refine G_if_eq (bI_R _) dX12_betweenOf_103 (tgt := 111) (by decide) (fun c32 => ?_) (fun c32 => ?_)
                · have h := h.1 ((bI_0 _).mp c32)
                  refine G_iconst dX12_betweenOf_111 ?_
                  exact G_iret rfl (rL (-1) rfl) dX12_betweenOf_112 ⟨_, rfl, h⟩ o16
                · have h := h.2 (bI_ne c32)
                  refine G_bipush (by decide) dX12_betweenOf_106 ?_
                  refine G_goto (tgt := 112) dX12_betweenOf_108 (by decide) ?_
                  exact G_iret rfl (rL 22 rfl) dX12_betweenOf_112 ⟨_, rfl, h⟩ o16
              · have h := h.2 (bI_ne c26)
                refine G_bipush (by decide) dX12_betweenOf_87 ?_
                refine G_goto (tgt := 112) dX12_betweenOf_89 (by decide) ?_
                exact G_iret rfl (rL 21 rfl) dX12_betweenOf_112 ⟨_, rfl, h⟩ o16
            · have h := h.2 c20
              refine G_aload_n 0 rfl rfl dX12_betweenOf_66 ?_
              refine G_callV (as := []) cf_X12_216 rfl rfl rfl (sp_X12_compareOf (d - 1) (by omega) _ o16 ) (by omega) rfl rfl (Nat.le_of_ble_eq_true rfl) dX12_betweenOf_67 ?_
              rintro _ _ ⟨_, rfl, rfl, rfl⟩ o34 r33
              exact G_iret rfl (r33 _ rfl) dX12_betweenOf_70 ⟨_, rfl, h⟩ o16
          · have h := h.2 c12
            refine G_iconst dX12_betweenOf_57 ?_
            exact G_iret rfl (rL (-1) rfl) dX12_betweenOf_58 ⟨_, rfl, h⟩ o8
        · have h := h.2 c4
          refine G_bipush (by decide) dX12_betweenOf_45 ?_
          exact G_iret rfl (rL 9 rfl) dX12_betweenOf_47 ⟨_, rfl, h⟩ hO
      · have h := h.2 c3
        refine G_bipush (by decide) dX12_betweenOf_33 ?_
        exact G_iret rfl (rL 8 rfl) dX12_betweenOf_35 ⟨_, rfl, h⟩ hO
    · have h := h.2 c2
      refine G_bipush (by decide) dX12_betweenOf_21 ?_
      exact G_iret rfl (rL 7 rfl) dX12_betweenOf_23 ⟨_, rfl, h⟩ hO
  · have h := h.2 c1
    refine G_bipush (by decide) dX12_betweenOf_9 ?_
    exact G_iret rfl (rL 6 rfl) dX12_betweenOf_11 ⟨_, rfl, h⟩ hO

theorem sp_X12_betweenOf (d : Nat) (hd : 2 ≤ d) (σ : Mem) (hO : OKm σ) (b : Int → Int) (N : Int) (p : List Int) (i : Nat) (hpre : tkM σ b N i ∧ plC σ p) : Mt yX12_betweenOf cX12_betweenOf 1 (some .int) d [aR (74)] σ (QI (fun v σ' => v = btw (kd b N i) p ∧ σ' = σ)) := mt_X12_betweenOf hd  hO (by
  unfold wp_X12_betweenOf
  obtain ⟨ht, hp⟩ := hpre
  obtain ⟨-, ⟨i4, i5, i60, i62, i61, i35, i43, i45, i42, i47, i40, i41, i59⟩, -⟩ := tk_sg ht
  refine ⟨fun a1 => ⟨fun a2 => ⟨fun a3 => ⟨fun a4 => ⟨p, hp, fun u σ9 _ _ h => ?_⟩, fun a4 => ⟨by rw [i47.mp a4]; rfl, rfl⟩⟩, fun a3 => ⟨by rw [i42.mp a3]; rfl, rfl⟩⟩, fun a2 => ⟨by rw [i45.mp a2]; rfl, rfl⟩⟩, fun a1 => ⟨by rw [i43.mp a1]; rfl, rfl⟩⟩
  obtain ⟨eu, e9⟩ := h
  rw [e9, eu]
  have n : nAr (kd b N i) := ⟨fun q => a1 (i43.mpr q), fun q => a2 (i45.mpr q), fun q => a3 (i42.mpr q), fun q => a4 (i47.mpr q)⟩
  refine ⟨fun h42 => ⟨p, hp, fun u2 σ17 _ _ h2 => ?_⟩, fun h42 => ⟨by rw [btw_n n, if_pos h42], rfl⟩⟩
  obtain ⟨hc, e17⟩ := h2
  rw [e17]
  have hb : btw (kd b N i) p = if cmpd p = false then cmO (kd b N i) else if kd b N i = 26 then 21 else if kd b N i = 25 then 22 else -1 := by rw [btw_n n, if_neg (fun q => q h42)]
  refine ⟨fun u0 => ?_, fun u0 => ⟨?_, rfl⟩⟩
  · have hct : ¬ cmpd p = false := by
      rcases hc with q | q
      · rw [q.2]; decide
      · exact absurd q.1 u0
    rw [tkw_and ht, tkw_or ht, hb, if_neg hct]
    refine ⟨by decide, fun n26 => ⟨by decide, fun n25 => ⟨by rw [if_neg n26, if_neg n25], rfl⟩, fun n25 => ⟨by rw [if_neg n26, if_pos n25], rfl⟩⟩, fun n26 => ⟨by rw [if_pos n26], rfl⟩⟩
  · have hcf : cmpd p = false := by
      rcases hc with q | q
      · exact absurd q.1 (by omega)
      · exact q.2
    rw [hb, if_pos hcf]
    unfold cmO
    simp only [i60, i4, i62, i5, i61, i35])

def wp_X12_partOf (x1 : Int) (σ : Mem) (Q : Int → Mem → Prop) : Prop :=
  (x1 = 40 →
    (((σ 74 9) ≠ 41) →
     Q (-1) σ) ∧
    (((σ 74 9) = 41) →
     Q 0 σ)) ∧
   (x1 ≠ 40 →
    (x1 = 42 →
     ((0 ≤ (116 : Int) ∧ (116 : Int) < 256) ∧ (0 ≤ (104 : Int) ∧ (104 : Int) < 256) ∧ (0 ≤ (101 : Int) ∧ (101 : Int) < 256) ∧ (0 ≤ (110 : Int) ∧ (110 : Int) < 256)) ∧
     ((¬ (σ 74 9 = 2 ∧ σ 74 11 = ((((116 : Int) * 256 + (104 : Int)) * 256 + (101 : Int)) * 256 + (110 : Int)))) →
      Q (-1) σ) ∧
     ((σ 74 9 = 2 ∧ σ 74 11 = ((((116 : Int) * 256 + (104 : Int)) * 256 + (101 : Int)) * 256 + (110 : Int))) →
      ∃ g10 : List Int, (plC σ g10) ∧
      ∀ (u15 : Int) (σ14 : Mem), R32 u15 → OKm σ14 → ((u15 = 1 ∧ cmpd g10 = true ∨ u15 = 0 ∧ cmpd g10 = false) ∧ σ14 = σ) →
      ((u15 = 0) →
       Q (-1) σ14) ∧
      ((u15 ≠ 0) →
       Q 43 σ14))) ∧
    (x1 ≠ 42 →
     (x1 = 43 →
      ((0 ≤ (101 : Int) ∧ (101 : Int) < 256) ∧ (0 ≤ (108 : Int) ∧ (108 : Int) < 256) ∧ (0 ≤ (115 : Int) ∧ (115 : Int) < 256) ∧ (0 ≤ (101 : Int) ∧ (101 : Int) < 256)) ∧
      ((¬ (σ 74 9 = 2 ∧ σ 74 11 = ((((101 : Int) * 256 + (108 : Int)) * 256 + (115 : Int)) * 256 + (101 : Int)))) →
       Q (-1) σ) ∧
      ((σ 74 9 = 2 ∧ σ 74 11 = ((((101 : Int) * 256 + (108 : Int)) * 256 + (115 : Int)) * 256 + (101 : Int))) →
       Q 44 σ)) ∧
     (x1 ≠ 43 →
      (x1 = 44 →
       ((0 ≤ (101 : Int) ∧ (101 : Int) < 256) ∧ (0 ≤ (110 : Int) ∧ (110 : Int) < 256) ∧ (0 ≤ (100 : Int) ∧ (100 : Int) < 256)) ∧
       ((¬ (σ 74 9 = 2 ∧ σ 74 11 = (((101 : Int) * 256 + (110 : Int)) * 256 + (100 : Int)))) →
        Q (-1) σ) ∧
       ((σ 74 9 = 2 ∧ σ 74 11 = (((101 : Int) * 256 + (110 : Int)) * 256 + (100 : Int))) →
        Q 0 σ)) ∧
      (x1 ≠ 44 →
       Q (-1) σ))))
theorem mt_X12_partOf {d : Nat} (hd : 3 ≤ d) {x1 : Int} {σ : Mem} {Q : Int → Mem → Prop} (hx1 : R32 x1) (hO : OKm σ) (h : wp_X12_partOf x1 σ Q) : Mt yX12_partOf cX12_partOf 2 (some .int) d [aR (74), aI (x1)] σ (QI Q) := by
  refine Mt.intro (by decide +kernel) (Nat.le_of_ble_eq_true rfl) [(0, aR (74)), (1, aI (x1))] rfl ?_
  unfold wp_X12_partOf at h
  refine G_iload_n 1 rfl rfl dX12_partOf_0 ?_
  refine G_tsw (tgt := 36) 0 40 (by decide) (rL _ rfl) (by decide) rfl (by decide) hx1 dX12_partOf_1 (fun n32 => ?_) (fun n32 => ?_)
  · have h := h.1 n32
    refine G_aload_n 0 rfl rfl dX12_partOf_36 ?_
    refine G_get (k := 9) (kd := (0, 0)) (v := aI (σ 74 9)) gf_X12_113 rfl rfl rfl rfl dX12_partOf_37 ?_
    refine G_bipush (by decide) dX12_partOf_40 ?_
    refine G_icmp_ne (OKm.i hO 74 9 rfl) (rL 41 rfl) dX12_partOf_42 (tgt := 49) (by decide) (fun c2 => ?_) (fun c2 => ?_)
    · have h := h.1 c2
      refine G_iconst dX12_partOf_49 ?_
      exact G_iret rfl (rL (-1) rfl) dX12_partOf_50 ⟨_, rfl, h⟩ hO
    · have h := h.2 c2
      refine G_iconst dX12_partOf_45 ?_
      refine G_goto (tgt := 50) dX12_partOf_46 (by decide) ?_
      exact G_iret rfl (rL 0 rfl) dX12_partOf_50 ⟨_, rfl, h⟩ hO
  · have h := h.2 n32
    have n33 : (41 : Int) ≤ x1 ∨ x1 < 40 := tsw_next (by decide) (tsw_0 _ _) n32
    refine G_tsw (tgt := 130) 1 41 (by decide) (rL _ rfl) (by decide) rfl (by decide) hx1 dX12_partOf_1 (fun n34 => ?_) (fun n34 => ?_)
    · have h := (((h).2 (tsw_ne n34 (by decide))).2 (tsw_ne n34 (by decide))).2 (tsw_ne n34 (by decide))
      refine G_iconst dX12_partOf_130 ?_
      exact G_iret rfl (rL (-1) rfl) dX12_partOf_131 ⟨_, rfl, h⟩ hO
    · have n35 : (42 : Int) ≤ x1 ∨ x1 < 40 := tsw_next (by decide) n33 n34
      refine G_tsw (tgt := 51) 2 42 (by decide) (rL _ rfl) (by decide) rfl (by decide) hx1 dX12_partOf_1 (fun n36 => ?_) (fun n36 => ?_)
      · have h := h.1 n36
        refine G_aload_n 0 rfl rfl dX12_partOf_51 ?_
        refine G_bipush (by decide) dX12_partOf_52 ?_
        refine G_bipush (by decide) dX12_partOf_54 ?_
        refine G_bipush (by decide) dX12_partOf_56 ?_
        refine G_bipush (by decide) dX12_partOf_58 ?_
        obtain ⟨c4, h⟩ := h
        refine G_callS (as := [_, _, _, _]) cf_X12_143 rfl (sp_X12_w4 (d - 1) (by omega) _ hO _ (rL 116 rfl) _ (rL 104 rfl) _ (rL 101 rfl) _ (rL 110 rfl) c4) (by omega) rfl rfl (Nat.le_of_ble_eq_true rfl) dX12_partOf_60 ?_
        rintro _ _ ⟨_, rfl, rfl, rfl⟩ o6 r5
        refine G_callV (as := [_]) cf_X12_199 rfl rfl rfl (sp_X12_isWord (d - 1) (by omega) _ hO _ (r5 _ rfl)) (by omega) rfl rfl (Nat.le_of_ble_eq_true rfl) dX12_partOf_63 ?_
        rintro _ _ ⟨_, rfl, rfl, rfl⟩ o8 r7
        refine G_if_eq (bI_R _) dX12_partOf_66 (tgt := 81) (by decide) (fun c9 => ?_) (fun c9 => ?_)
        · have h := h.1 ((bI_0 _).mp c9)
          refine G_iconst dX12_partOf_81 ?_
          exact G_iret rfl (rL (-1) rfl) dX12_partOf_82 ⟨_, rfl, h⟩ hO
        · have h := h.2 (bI_ne c9)
          refine G_aload_n 0 rfl rfl dX12_partOf_69 ?_
          obtain ⟨g10, c11, h⟩ := h
          refine G_callV (as := []) cf_X12_213 rfl rfl rfl (sp_X12_isCompared (d - 1) (by omega) _ hO  g10 c11) (by omega) rfl rfl (Nat.le_of_ble_eq_true rfl) dX12_partOf_70 ?_
          rintro _ σ14 ⟨u15, rfl, z16⟩ o13 r12
          have h := h _ _ (r12 _ rfl) o13 z16
          refine G_if_eq (r12 _ rfl) dX12_partOf_73 (tgt := 81) (by decide) (fun c17 => ?_) (fun c17 => ?_)
          · have h := h.1 c17
            refine G_iconst dX12_partOf_81 ?_
            exact G_iret rfl (rL (-1) rfl) dX12_partOf_82 ⟨_, rfl, h⟩ o13
          · have h := h.2 c17
            refine G_bipush (by decide) dX12_partOf_76 ?_
            refine G_goto (tgt := 82) dX12_partOf_78 (by decide) ?_
            exact G_iret rfl (rL 43 rfl) dX12_partOf_82 ⟨_, rfl, h⟩ o13
      · have h := h.2 n36
        have n37 : (43 : Int) ≤ x1 ∨ x1 < 40 := tsw_next (by decide) n35 n36
        refine G_tsw (tgt := 83) 3 43 (by decide) (rL _ rfl) (by decide) rfl (by decide) hx1 dX12_partOf_1 (fun n38 => ?_) (fun n38 => ?_)
        · have h := h.1 n38
          refine G_aload_n 0 rfl rfl dX12_partOf_83 ?_
          refine G_bipush (by decide) dX12_partOf_84 ?_
          refine G_bipush (by decide) dX12_partOf_86 ?_
          refine G_bipush (by decide) dX12_partOf_88 ?_
          refine G_bipush (by decide) dX12_partOf_90 ?_
          obtain ⟨c19, h⟩ := h
          refine G_callS (as := [_, _, _, _]) cf_X12_143 rfl (sp_X12_w4 (d - 1) (by omega) _ hO _ (rL 101 rfl) _ (rL 108 rfl) _ (rL 115 rfl) _ (rL 101 rfl) c19) (by omega) rfl rfl (Nat.le_of_ble_eq_true rfl) dX12_partOf_92 ?_
          rintro _ _ ⟨_, rfl, rfl, rfl⟩ o21 r20
          refine G_callV (as := [_]) cf_X12_199 rfl rfl rfl (sp_X12_isWord (d - 1) (by omega) _ hO _ (r20 _ rfl)) (by omega) rfl rfl (Nat.le_of_ble_eq_true rfl) dX12_partOf_95 ?_
          rintro _ _ ⟨_, rfl, rfl, rfl⟩ o23 r22
          refine G_if_eq (bI_R _) dX12_partOf_98 (tgt := 106) (by decide) (fun c24 => ?_) (fun c24 => ?_)
          · have h := h.1 ((bI_0 _).mp c24)
            refine G_iconst dX12_partOf_106 ?_
            exact G_iret rfl (rL (-1) rfl) dX12_partOf_107 ⟨_, rfl, h⟩ hO
          · have h := h.2 (bI_ne c24)
            refine G_bipush (by decide) dX12_partOf_101 ?_
            refine G_goto (tgt := 107) dX12_partOf_103 (by decide) ?_
            exact G_iret rfl (rL 44 rfl) dX12_partOf_107 ⟨_, rfl, h⟩ hO
        · have h := h.2 n38
          have n39 : (44 : Int) ≤ x1 ∨ x1 < 40 := tsw_next (by decide) n37 n38
          refine G_tsw (tgt := 108) 4 44 (by decide) (rL _ rfl) (by decide) rfl (by decide) hx1 dX12_partOf_1 (fun n40 => ?_) (fun n40 => ?_)
          · have h := h.1 n40
            refine G_aload_n 0 rfl rfl dX12_partOf_108 ?_
            refine G_bipush (by decide) dX12_partOf_109 ?_
            refine G_bipush (by decide) dX12_partOf_111 ?_
            refine G_bipush (by decide) dX12_partOf_113 ?_
            obtain ⟨c26, h⟩ := h
            refine G_callS (as := [_, _, _]) cf_X12_139 rfl (sp_X12_w3 (d - 1) (by omega) _ hO _ (rL 101 rfl) _ (rL 110 rfl) _ (rL 100 rfl) c26) (by omega) rfl rfl (Nat.le_of_ble_eq_true rfl) dX12_partOf_115 ?_
            rintro _ _ ⟨_, rfl, rfl, rfl⟩ o28 r27
            refine G_callV (as := [_]) cf_X12_199 rfl rfl rfl (sp_X12_isWord (d - 1) (by omega) _ hO _ (r27 _ rfl)) (by omega) rfl rfl (Nat.le_of_ble_eq_true rfl) dX12_partOf_118 ?_
            rintro _ _ ⟨_, rfl, rfl, rfl⟩ o30 r29
            refine G_if_eq (bI_R _) dX12_partOf_121 (tgt := 128) (by decide) (fun c31 => ?_) (fun c31 => ?_)
            · have h := h.1 ((bI_0 _).mp c31)
              refine G_iconst dX12_partOf_128 ?_
              exact G_iret rfl (rL (-1) rfl) dX12_partOf_129 ⟨_, rfl, h⟩ hO
            · have h := h.2 (bI_ne c31)
              refine G_iconst dX12_partOf_124 ?_
              refine G_goto (tgt := 129) dX12_partOf_125 (by decide) ?_
              exact G_iret rfl (rL 0 rfl) dX12_partOf_129 ⟨_, rfl, h⟩ hO
          · have h := h.2 n40
            have n41 : (45 : Int) ≤ x1 ∨ x1 < 40 := tsw_next (by decide) n39 n40
            refine G_tswd (tgt := 130) hx1 (tsw_out n41) (by decide) dX12_partOf_1 ?_
            refine G_iconst dX12_partOf_130 ?_
            exact G_iret rfl (rL (-1) rfl) dX12_partOf_131 ⟨_, rfl, h⟩ hO

theorem sp_X12_partOf (d : Nat) (hd : 3 ≤ d) (σ : Mem) (hO : OKm σ) (x1 : Int) (hx1 : R32 x1) (b : Int → Int) (N : Int) (p : List Int) (i : Nat) (hpre : tkM σ b N i ∧ plC σ p ∧ x1 = opP p) : Mt yX12_partOf cX12_partOf 2 (some .int) d [aR (74), aI (x1)] σ (QI (fun v σ' => v = prt (kd b N i) p ∧ σ' = σ)) := mt_X12_partOf hd hx1 hO (by
  unfold wp_X12_partOf
  obtain ⟨ht, hp, hx⟩ := hpre
  obtain ⟨-, ⟨i4, i5, i60, i62, i61, i35, i43, i45, i42, i47, i40, i41, i59⟩, -⟩ := tk_sg ht
  unfold prt
  rw [← hx, tkw_then ht, tkw_else ht, tkw_end ht]
  refine ⟨fun a => ⟨fun q => ⟨by rw [if_pos a, if_neg (fun z => q (i41.mpr z))], rfl⟩, fun q => ⟨by rw [if_pos a, if_pos (i41.mp q)], rfl⟩⟩, fun a => ⟨fun c => ⟨by decide, fun q => ⟨by rw [if_neg a, if_pos c, if_neg (fun z => q z.1)], rfl⟩, fun q => ⟨p, hp, fun u σ14 _ _ h => ?_⟩⟩, fun c => ⟨fun e => ⟨by decide, fun q => ⟨by rw [if_neg a, if_neg c, if_pos e, if_neg q], rfl⟩, fun q => ⟨by rw [if_neg a, if_neg c, if_pos e, if_pos q], rfl⟩⟩, fun e => ⟨fun f => ⟨by decide, fun q => ⟨by rw [if_neg a, if_neg c, if_neg e, if_pos f, if_neg q], rfl⟩, fun q => ⟨by rw [if_neg a, if_neg c, if_neg e, if_pos f, if_pos q], rfl⟩⟩, fun f => ⟨by rw [if_neg a, if_neg c, if_neg e, if_neg f], rfl⟩⟩⟩⟩⟩
  obtain ⟨hc, e14⟩ := h
  rw [e14]
  refine ⟨fun u0 => ⟨?_, rfl⟩, fun u0 => ⟨?_, rfl⟩⟩
  · have hcf : cmpd p = false := by
      rcases hc with z | z
      · exact absurd z.1 (by omega)
      · exact z.2
    rw [if_neg a, if_pos c, if_neg (fun z => by rw [hcf] at z; exact absurd z.2 (by decide))]
  · have hct : cmpd p = true := by
      rcases hc with z | z
      · exact z.2
      · exact absurd z.1 u0
    rw [if_neg a, if_pos c, if_pos ⟨q, hct⟩])
