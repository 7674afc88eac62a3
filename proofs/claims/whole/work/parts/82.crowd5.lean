theorem vis_len {sk : Int → Int → Int} {G : Nat} : ∀ (f : Nat) (p : List Int) (th : Int) (b : List Int), okP (G : Int) p → b.length ≤ G → (vis sk G f p th b).length ≤ G
  | 0, _, _, _, _, hb => hb
  | f + 1, p, th, b, hp, hb => by
    show (visL (vis sk G f) sk p th G (if b.length < p.length then p else b)).length ≤ G
    have h0 : (if b.length < p.length then p else b).length ≤ G := by split; exact hp.len; exact hb
    generalize (if b.length < p.length then p else b) = b1 at *
    have : ∀ k : Nat, k ≤ G → (visL (vis sk G f) sk p th k b1).length ≤ G := fun k => by
      induction k with
      | zero => intro _; exact h0
      | succ k ih =>
        intro hk
        show (if (k : Int) ∉ p ∧ sk (k : Int) th ≤ th then _ else _ : List Int).length ≤ G
        split
        · rename_i h
          exact vis_len f _ _ _ (hp.snoc (by omega) h.1) (ih (by omega))
        · exact ih (by omega)
    exact this G (Nat.le_refl _)
theorem crL_len {A : Mem} {tx : Nat → Txt} {r : Int} (hI : InvA A) : (crL A tx r).length ≤ 6 := by
  have := vis_len (sk := fun g t => skT A tx g r t) (G := (A 10 1).toNat) 7 [] (A 1 r) [] ⟨by simp, fun x h => by simp at h⟩ (by simp)
  have := hI.1
  unfold crL; omega
theorem onL.get {τ : Mem} {q : Nat} {p : List Int} {i : Int} (h : onL τ q p) (h0 : 0 ≤ i) (hi : i ≤ (p.length : Int) - 1) : τ q i = p.getD i.toNat 0 := by
  have h1 : i.toNat < p.length := by omega
  have := h.lt h1
  rw [show ((i.toNat : Nat) : Int) = i by omega] at this
  rw [this, List.getD_eq_getElem?_getD, List.getElem?_eq_getElem h1]; rfl

def wp_X3_gather (x1 : Int) (σ : Mem) (Q : Int → Mem → Prop) : Prop :=
  ∀ σ3 : Mem, OKm σ3 → ((∀ i : Int, 0 ≤ i → i < 600 → σ3 50 i = ((-1) : Int)) ∧ Fr [50] σ σ3) →
   ∀ σ6 : Mem, σ6 = mset σ3 49 6 0 →
   ∃ g9 : Mem, ∃ g10 : Nat → Txt, ∃ g11 : Int, ∃ g12 : List Int, ∃ g13 : List Int, (folC σ6 g9 g10 x1 g11 g12 g13 ∧ g12.length = 0 ∧ (0 : Int) = 0 ∧ bsP (0 : Int) g12 ∧ okP (g9 10 1) g12 ∧ (0 ≤ x1 ∧ x1 < g9 10 0) ∧ InvA g9 ∧ (0 ≤ g11 ∧ g11 ≤ g9 14 x1)) ∧
   ∀ σ17 : Mem, OKm σ17 → (folC σ17 g9 g10 x1 g11 g12 (vis (skR g9 g10 x1) (g9 10 1).toNat 7 g12 g11 g13) ∧ (∀ j : Int, j ≠ 6 → σ17 49 j = σ6 49 j) ∧ Fr [11, 37, 49, 50, 51, 52] σ6 σ17) →
   Q (σ17 49 6) σ17
theorem mt_X3_gather {d : Nat} (hd : 12 ≤ d) {x1 : Int} {σ : Mem} {Q : Int → Mem → Prop} (hx1 : R32 x1) (hO : OKm σ) (h : wp_X3_gather x1 σ Q) : Mt yX3_gather cX3_gather 2 (some .int) d [aR (49), aI (x1)] σ (QI Q) := by
  refine Mt.intro (by decide +kernel) (Nat.le_of_ble_eq_true rfl) [(0, aR (49)), (1, aI (x1))] rfl ?_
  unfold wp_X3_gather at h
  refine G_aload_n 0 rfl rfl dX3_gather_0 ?_
  refine G_get (k := 3) (kd := (3, 1)) (v := aR (50)) gf_X3_11 rfl rfl rfl rfl dX3_gather_1 ?_
  refine G_iconst dX3_gather_4 ?_
  refine G_callS (as := [_, _]) cf_X3_57 rfl (sp_J7_fill_53178_k (d - 1) (by omega) _ hO _ (rL (-1) rfl)) (by omega) rfl rfl (Nat.le_of_ble_eq_true rfl) dX3_gather_5 ?_
  rintro _ σ3 ⟨rfl, z5⟩ o2 r1
  have h := h _ o2 z5
  refine G_aload_n 0 rfl rfl dX3_gather_8 ?_
  refine G_iconst dX3_gather_9 ?_
  obtain ⟨σ6, e8⟩ : ∃ τ : Mem, τ = mset σ3 49 6 0 := ⟨_, rfl⟩
  have h := h σ6 e8
  have o7 : OKm σ6 := by rw [e8]; exact OKm.seti o2 _ _ _ (rL 0 rfl) rfl
  refine G_put (k := 6) (ki := 6) (kd := (0, 0)) (x := _) pf_X3_21 rfl rfl rfl rfl (fa_i (mset_self _ _ _ _)) (fun _ => rfl) (fun _ => rfl) dX3_gather_10 ?_
  rw [← e8]
  refine G_aload_n 0 rfl rfl dX3_gather_13 ?_
  refine G_iload_n 1 rfl rfl dX3_gather_14 ?_
  refine G_iconst dX3_gather_15 ?_
  refine G_iconst dX3_gather_16 ?_
  obtain ⟨g9, g10, g11, g12, g13, c14, h⟩ := h
  refine G_callV (as := [_, _, _]) cf_X3_63 rfl rfl rfl (sp_X3_follow_0 (d - 1) (by omega) _ o7 _ hx1 _ (rL 0 rfl) _ (rL 0 rfl) g9 g10 g11 g12 g13 c14) (by omega) rfl rfl (Nat.le_of_ble_eq_true rfl) dX3_gather_17 ?_
  rintro _ σ17 ⟨rfl, z19⟩ o16 r15
  have h := h _ o16 z19
  refine G_aload_n 0 rfl rfl dX3_gather_20 ?_
  refine G_get (k := 6) (kd := (0, 0)) (v := aI (σ17 49 6)) gf_X3_21 rfl rfl rfl rfl dX3_gather_21 ?_
  exact G_iret rfl (OKm.i o16 49 6 rfl) dX3_gather_24 ⟨_, rfl, h⟩ o16

theorem sp_X3_gather (d : Nat) (hd : 12 ≤ d) (σ : Mem) (hO : OKm σ) (x1 : Int) (hx1 : R32 x1) (A : Mem) (tx : Nat → Txt) (hpre : vwC σ A tx ∧ (0 ≤ x1 ∧ x1 < A 10 0)) : Mt yX3_gather cX3_gather 2 (some .int) d [aR (49), aI (x1)] σ (QI (fun v σ' => v = ((crL A tx x1).length : Int) ∧ vwC σ' A tx ∧ onL σ' 52 (crL A tx x1) ∧ (∀ j : Int, j ≠ 6 → σ' 49 j = σ 49 j) ∧ Fr [11, 37, 49, 50, 51, 52] σ σ')) := mt_X3_gather hd hx1 hO (by
  unfold wp_X3_gather
  obtain ⟨hV, hr⟩ := hpre
  have hI := hV.2.2.1
  have hc := hI.1
  have k1 := hI.2.1 x1 hr.1 hr.2
  intro σ3 hO3 ⟨hf, hF3⟩ σ6 e6
  have hF6 : Fr [49, 50] σ σ6 := by rw [e6]; exact (hF3.wk (by simp)).set (by simp)
  have hV6 : vwC σ6 A tx := hV.now (hV.2.1.congr (fun q a b => hF6 q (by simp; omega))) hI (fun _ _ => rfl) (fun q a => hF6 q (by simp; omega))
  refine ⟨A, tx, A 1 x1, [], [], ⟨⟨by rw [mset_id]; exact hV6, fun g t a1 a2 a3 a4 => .inl (by rw [e6, mset_off (by omega)]; exact hf _ (by omega) (by omega)), onL.nil _ _, by rw [e6, mset_hit rfl]; rfl, onL.nil _ _⟩, rfl, rfl, bsP.nil, ⟨by simp, fun x h => by simp at h⟩, hr, hI, by omega⟩, ?_⟩
  intro σ17 hO17 ⟨hS, h49, hF17⟩
  have hcr : vis (skR A tx x1) (A 10 1).toNat 7 [] (A 1 x1) [] = crL A tx x1 := rfl
  rw [hcr] at hS
  refine ⟨hS.2.2.2.1, ?_, hS.2.2.2.2, fun j a => ?_, (hF6.wk (by simp)).tr hF17⟩
  · have := hS.1; rw [mset_id] at this; exact this
  · rw [h49 j a, e6, mset_miss a, hF3 49 (by simp)])

def wp_X12_crowd (x1 : Int) (x2 : Int) (σ : Mem) (Q : Int → Mem → Prop) : Prop :=
  (0 ≤ σ 75 0) ∧
   ((0 ≤ x1 ∧ x1 < σ 75 0) →
    ∃ g5 : Mem, ∃ g6 : Nat → Txt, (vwM σ g5 g6 ∧ (0 ≤ x1 ∧ x1 < g5 10 0)) ∧
    ∀ (u11 : Int) (σ10 : Mem), R32 u11 → OKm σ10 → (u11 = ((crL g5 g6 x1).length : Int) ∧ vwM σ10 g5 g6 ∧ onL σ10 89 (crL g5 g6 x1) ∧ (∀ j : Int, j ≠ 11 + x1 → σ10 75 j = σ 75 j) ∧ Fr [75, 80, 81, 82, 88, 89, 90] σ σ10) →
    ((x2 ≠ (-1)) →
     R32 (u11 - 1) ∧
     ((¬ ((0 : Int) ≤ x2 ∧ x2 ≤ (u11 - 1))) →
      Q (-2) σ10) ∧
     (((0 : Int) ≤ x2 ∧ x2 ≤ (u11 - 1)) →
      (0 ≤ x2 ∧ x2 < 6) ∧
      Q (σ10 89 x2) σ10)) ∧
    ((x2 = (-1)) →
     Q u11 σ10)) ∧
   ((¬ (0 ≤ x1 ∧ x1 < σ 75 0)) →
    Q (-2) σ)
theorem mt_X12_crowd {d : Nat} (hd : 7 ≤ d) {x1 : Int} {x2 : Int} {σ : Mem} {Q : Int → Mem → Prop} (hx1 : R32 x1) (hx2 : R32 x2) (hO : OKm σ) (h : wp_X12_crowd x1 x2 σ Q) : Mt yX12_crowd cX12_crowd 4 (some .int) d [aR (74), aI (x1), aI (x2)] σ (QI Q) := by
  refine Mt.intro (by decide +kernel) (Nat.le_of_ble_eq_true rfl) [(0, aR (74)), (1, aI (x1)), (2, aI (x2))] rfl ?_
  unfold wp_X12_crowd at h
  refine G_aload_n 0 rfl rfl dX12_crowd_0 ?_
  refine G_iload_n 1 rfl rfl dX12_crowd_1 ?_
  obtain ⟨c1, h⟩ := h
  refine G_callV (as := [_]) cf_X12_333 rfl rfl rfl (sp_X12_isRoad (d - 1) (by omega) _ hO _ hx1 c1) (by omega) rfl rfl (Nat.le_of_ble_eq_true rfl) dX12_crowd_2 ?_
  rintro _ _ ⟨_, rfl, rfl, rfl⟩ o3 r2
  refine G_if_ne (bI_R _) dX12_crowd_5 (tgt := 11) (by decide) (fun c4 => ?_) (fun c4 => ?_)
  · have h := h.1 (bI_ne c4)
    refine G_aload_n 0 rfl rfl dX12_crowd_11 ?_
    refine G_iload_n 1 rfl rfl dX12_crowd_12 ?_
    obtain ⟨g5, g6, c7, h⟩ := h
    refine G_callV (as := [_]) cf_X12_452 rfl rfl rfl (sp_X12_layCrowd (d - 1) (by omega) _ hO _ hx1 g5 g6 c7) (by omega) rfl rfl (Nat.le_of_ble_eq_true rfl) dX12_crowd_13 ?_
    rintro _ σ10 ⟨u11, rfl, z12⟩ o9 r8
    have h := h _ _ (r8 _ rfl) o9 z12
    refine G_istore_n (lv' := [(3, aI (u11)), (0, aR (74)), (1, aI (x1)), (2, aI (x2))]) rfl rfl (by decide) dX12_crowd_16 ?_
    refine G_iload_n 3 rfl rfl dX12_crowd_17 ?_
    refine G_iconst dX12_crowd_18 ?_
    refine G_icmp_ne hx2 (rL (-1) rfl) dX12_crowd_19 (tgt := 26) (by decide) (fun c13 => ?_) (fun c13 => ?_)
    · have h := h.1 c13
      refine G_iload_n 3 rfl rfl dX12_crowd_26 ?_
      refine G_iconst dX12_crowd_27 ?_
      refine G_iload_n 0 rfl rfl dX12_crowd_28 ?_
      refine G_iconst dX12_crowd_29 ?_
      refine G_isub dX12_crowd_30 ?_
      obtain ⟨c14, h⟩ := h
      refine G_callS (as := [_, _, _]) cf_X12_81 rfl (sp_X12_isIn (d - 1) (by omega) _ o9 _ hx2 _ (rL 0 rfl) _ c14) (by omega) rfl rfl (Nat.le_of_ble_eq_true rfl) dX12_crowd_31 ?_
      rintro _ _ ⟨_, rfl, rfl, rfl⟩ o16 r15
      refine G_if_eq (bI_R _) dX12_crowd_34 (tgt := 46) (by decide) (fun c17 => ?_) (fun c17 => ?_)
      · have h := h.1 ((bI_0 _).mp c17)
        refine G_bipush (by decide) dX12_crowd_46 ?_
        exact G_iret rfl (rL (-2) rfl) dX12_crowd_48 ⟨_, rfl, h⟩ o9
      · have h := h.2 (bI_ne c17)
        refine G_aload_n 1 rfl rfl dX12_crowd_37 ?_
        refine G_get (k := 31) (kd := (2, 89)) (v := aR 89) gf_X12_65 rfl rfl rfl rfl dX12_crowd_38 ?_
        refine G_iload_n 3 rfl rfl dX12_crowd_41 ?_
        obtain ⟨c18, h⟩ := h
        refine G_iald (n := 6) rfl c18.1 c18.2 dX12_crowd_42 ?_
        refine G_goto (tgt := 48) dX12_crowd_43 (by decide) ?_
        exact G_iret rfl (OKm.i o9 89 x2 (isLg_row (show shp 89 = (1, 6, []) from rfl) _)) dX12_crowd_48 ⟨_, rfl, h⟩ o9
    · have h := h.2 c13
      refine G_iload_n 0 rfl rfl dX12_crowd_22 ?_
      refine G_goto (tgt := 48) dX12_crowd_23 (by decide) ?_
      exact G_iret rfl (r8 _ rfl) dX12_crowd_48 ⟨_, rfl, h⟩ o9
  · have h := h.2 ((bI_0 _).mp c4)
    refine G_bipush (by decide) dX12_crowd_8 ?_
    exact G_iret rfl (rL (-2) rfl) dX12_crowd_10 ⟨_, rfl, h⟩ hO

theorem sp_X12_crowd (d : Nat) (hd : 7 ≤ d) (σ : Mem) (hO : OKm σ) (x1 : Int) (hx1 : R32 x1) (x2 : Int) (hx2 : R32 x2) (A : Mem) (tx : Nat → Txt) (hpre : vwM σ A tx) : Mt yX12_crowd cX12_crowd 4 (some .int) d [aR (74), aI (x1), aI (x2)] σ (QI (fun v σ' => v = crS A tx x1 x2 ∧ vwM σ' A tx ∧ (∀ j : Int, j ≠ 11 + x1 → σ' 75 j = σ 75 j) ∧ Fr [75, 80, 81, 82, 88, 89, 90] σ σ')) := mt_X12_crowd hd hx1 hx2 hO (by
  unfold wp_X12_crowd
  have hV := hpre
  have hI := hV.2.2.1
  have hc := hI.1
  have hl := crL_len (tx := tx) (r := x1) hI
  have e0 : σ 75 0 = A 10 0 := hV.1.1.1
  rw [e0]
  unfold crS
  refine ⟨by omega, fun hr => ?_, fun h => ⟨by rw [if_neg h], hV, fun _ _ => rfl, Fr.rf _ _⟩⟩
  rw [if_pos hr]
  refine ⟨A, tx, ⟨hV, hr⟩, ?_⟩
  intro u σ1 hu hO1 ⟨eu, hV1, hL, hj, hF⟩
  rw [eu]
  refine ⟨fun h => ⟨by unfold R32; omega, fun h2 => ⟨by rw [if_neg h, if_neg h2], hV1, hj, hF⟩, fun h2 => ⟨by omega, by rw [if_neg h, if_pos h2]; exact hL.get h2.1 h2.2, hV1, hj, hF⟩⟩, fun h => ⟨by rw [if_pos h], hV1, hj, hF⟩⟩)

def wp_X11_crowd (x1 : Int) (x2 : Int) (σ : Mem) (Q : Int → Mem → Prop) : Prop :=
  ((0 ≤ x1 ∧ x1 < σ 1 8) →
    ∃ g4 : Mem, ∃ g5 : Nat → Txt, (vwC σ g4 g5 ∧ (0 ≤ x1 ∧ x1 < g4 10 0)) ∧
    ∀ (u10 : Int) (σ9 : Mem), R32 u10 → OKm σ9 → (u10 = ((crL g4 g5 x1).length : Int) ∧ vwC σ9 g4 g5 ∧ onL σ9 52 (crL g4 g5 x1) ∧ (∀ j : Int, j ≠ 6 → σ9 49 j = σ 49 j) ∧ Fr [11, 37, 49, 50, 51, 52] σ σ9) →
    ((x2 ≠ (-1)) →
     R32 (u10 - 1) ∧
     ((¬ ((0 : Int) ≤ x2 ∧ x2 ≤ (u10 - 1))) →
      Q (-2) σ9) ∧
     (((0 : Int) ≤ x2 ∧ x2 ≤ (u10 - 1)) →
      (0 ≤ x2 ∧ x2 < 6) ∧
      Q (σ9 52 x2) σ9)) ∧
    ((x2 = (-1)) →
     Q u10 σ9)) ∧
   ((¬ (0 ≤ x1 ∧ x1 < σ 1 8)) →
    Q (-2) σ)
theorem mt_X11_crowd {d : Nat} (hd : 13 ≤ d) {x1 : Int} {x2 : Int} {σ : Mem} {Q : Int → Mem → Prop} (hx1 : R32 x1) (hx2 : R32 x2) (hO : OKm σ) (h : wp_X11_crowd x1 x2 σ Q) : Mt yX11_crowd cX11_crowd 4 (some .int) d [aR (0), aI (x1), aI (x2)] σ (QI Q) := by
  refine Mt.intro (by decide +kernel) (Nat.le_of_ble_eq_true rfl) [(0, aR (0)), (1, aI (x1)), (2, aI (x2))] rfl ?_
  unfold wp_X11_crowd at h
  refine G_aload_n 0 rfl rfl dX11_crowd_0 ?_
  refine G_get (k := 0) (kd := (2, 1)) (v := aR 1) gf_X11_10 rfl rfl rfl rfl dX11_crowd_1 ?_
  refine G_iload_n 1 rfl rfl dX11_crowd_4 ?_
  refine G_callV (as := [_]) cf_X11_188 rfl rfl rfl (sp_X10_hasRoad (d - 1) (by omega) _ hO _ hx1) (by omega) rfl rfl (Nat.le_of_ble_eq_true rfl) dX11_crowd_5 ?_
  rintro _ _ ⟨_, rfl, rfl, rfl⟩ o2 r1
  refine G_if_ne (bI_R _) dX11_crowd_8 (tgt := 14) (by decide) (fun c3 => ?_) (fun c3 => ?_)
  · have h := h.1 (bI_ne c3)
    refine G_aload_n 0 rfl rfl dX11_crowd_14 ?_
    refine G_get (k := 12) (kd := (2, 49)) (v := aR 49) gf_X11_94 rfl rfl rfl rfl dX11_crowd_15 ?_
    refine G_iload_n 1 rfl rfl dX11_crowd_18 ?_
    obtain ⟨g4, g5, c6, h⟩ := h
    refine G_callV (as := [_]) cf_X11_291 rfl rfl rfl (sp_X3_gather (d - 1) (by omega) _ hO _ hx1 g4 g5 c6) (by omega) rfl rfl (Nat.le_of_ble_eq_true rfl) dX11_crowd_19 ?_
    rintro _ σ9 ⟨u10, rfl, z11⟩ o8 r7
    have h := h _ _ (r7 _ rfl) o8 z11
    refine G_istore_n (lv' := [(3, aI (u10)), (0, aR (0)), (1, aI (x1)), (2, aI (x2))]) rfl rfl (by decide) dX11_crowd_22 ?_
    refine G_iload_n 3 rfl rfl dX11_crowd_23 ?_
    refine G_iconst dX11_crowd_24 ?_
    refine G_icmp_ne hx2 (rL (-1) rfl) dX11_crowd_25 (tgt := 30) (by decide) (fun c12 => ?_) (fun c12 => ?_)
    · have h := h.1 c12
      refine G_iload_n 3 rfl rfl dX11_crowd_30 ?_
      refine G_iconst dX11_crowd_31 ?_
      refine G_iload_n 0 rfl rfl dX11_crowd_32 ?_
      refine G_iconst dX11_crowd_33 ?_
      refine G_isub dX11_crowd_34 ?_
      obtain ⟨c13, h⟩ := h
      refine G_callS (as := [_, _, _]) cf_X11_107 rfl (sp_X11_within (d - 1) (by omega) _ o8 _ hx2 _ (rL 0 rfl) _ c13) (by omega) rfl rfl (Nat.le_of_ble_eq_true rfl) dX11_crowd_35 ?_
      rintro _ _ ⟨_, rfl, rfl, rfl⟩ o15 r14
      refine G_if_eq (bI_R _) dX11_crowd_38 (tgt := 53) (by decide) (fun c16 => ?_) (fun c16 => ?_)
      · have h := h.1 ((bI_0 _).mp c16)
        refine G_bipush (by decide) dX11_crowd_53 ?_
        exact G_iret rfl (rL (-2) rfl) dX11_crowd_55 ⟨_, rfl, h⟩ o8
      · have h := h.2 (bI_ne c16)
        refine G_aload_n 1 rfl rfl dX11_crowd_41 ?_
        refine G_get (k := 12) (kd := (2, 49)) (v := aR 49) gf_X11_94 rfl rfl rfl rfl dX11_crowd_42 ?_
        refine G_getN (k := 5) (kd := (3, 3)) (v := aR (52)) gf_X11_294 rfl rfl rfl rfl dX11_crowd_45 ?_
        refine G_iload_n 3 rfl rfl dX11_crowd_48 ?_
        obtain ⟨c17, h⟩ := h
        refine G_iald (n := 6) rfl c17.1 c17.2 dX11_crowd_49 ?_
        refine G_goto (tgt := 55) dX11_crowd_50 (by decide) ?_
        exact G_iret rfl (OKm.i o8 52 x2 (isLg_row (show shp 52 = (1, 6, []) from rfl) _)) dX11_crowd_55 ⟨_, rfl, h⟩ o8
    · have h := h.2 c12
      refine G_iload_n 0 rfl rfl dX11_crowd_28 ?_
      exact G_iret rfl (r7 _ rfl) dX11_crowd_29 ⟨_, rfl, h⟩ o8
  · have h := h.2 ((bI_0 _).mp c3)
    refine G_bipush (by decide) dX11_crowd_11 ?_
    exact G_iret rfl (rL (-2) rfl) dX11_crowd_13 ⟨_, rfl, h⟩ hO

theorem sp_X11_crowd (d : Nat) (hd : 13 ≤ d) (σ : Mem) (hO : OKm σ) (x1 : Int) (hx1 : R32 x1) (x2 : Int) (hx2 : R32 x2) (A : Mem) (tx : Nat → Txt) (hpre : vwC σ A tx) : Mt yX11_crowd cX11_crowd 4 (some .int) d [aR (0), aI (x1), aI (x2)] σ (QI (fun v σ' => v = crS A tx x1 x2 ∧ vwC σ' A tx ∧ (∀ j : Int, j ≠ 6 → σ' 49 j = σ 49 j) ∧ Fr [11, 37, 49, 50, 51, 52] σ σ')) := mt_X11_crowd hd hx1 hx2 hO (by
  unfold wp_X11_crowd
  have hV := hpre
  have hI := hV.2.2.1
  have hc := hI.1
  have hl := crL_len (tx := tx) (r := x1) hI
  have e8 : σ 1 8 = A 10 0 := hV.1.1.1
  rw [e8]
  unfold crS
  refine ⟨fun hr => ?_, fun h => ⟨by rw [if_neg h], hV, fun _ _ => rfl, Fr.rf _ _⟩⟩
  rw [if_pos hr]
  refine ⟨A, tx, ⟨hV, hr⟩, ?_⟩
  intro u σ1 hu hO1 ⟨eu, hV1, hL, hj, hF⟩
  rw [eu]
  refine ⟨fun h => ⟨by unfold R32; omega, fun h2 => ⟨by rw [if_neg h, if_neg h2], hV1, hj, hF⟩, fun h2 => ⟨by omega, by rw [if_neg h, if_pos h2]; exact hL.get h2.1 h2.2, hV1, hj, hF⟩⟩, fun h => ⟨by rw [if_pos h], hV1, hj, hF⟩⟩)
