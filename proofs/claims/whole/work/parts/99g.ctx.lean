/-! the call text, on both sides: what it does to the abstract state -/
def bX (X : Mem) (i : Int) : Int := if 0 ≤ i ∧ i < X 0 0 then X 1 i else -1
theorem bX_tp {X : Mem} (h : okX X) : isTp (bX X) (X 0 0) :=
  ⟨h.1, fun i h0 h1 => by unfold bX; rw [if_pos ⟨h0, h1⟩]; exact h.2 i, fun i hi => by unfold bX; rw [if_neg (by omega)]⟩
noncomputable def rdT (X : Mem) : XR := pTx (kd (bX X) (X 0 0)) (nu (bX X) (X 0 0)) 25 T0 0
noncomputable def txtV (A X : Mem) : Int := if A 10 2 < 4 then (match rdT X with
  | .inl _ => -1
  | .inr _ => A 10 2) else -1
noncomputable def txtA (A X : Mem) : Mem := if A 10 2 < 4 then (match rdT X with
  | .inl _ => A
  | .inr _ => mset A 10 2 (A 10 2 + 1)) else A
noncomputable def txtT (A : Mem) (tx : Nat → Txt) (X : Mem) : Nat → Txt := if A 10 2 < 4 then (match rdT X with
  | .inl _ => tx
  | .inr T => fun i => if i = (A 10 2).toNat then T else tx i) else tx
noncomputable def txtX (A X : Mem) : Mem := if A 10 2 < 4 then (match rdT X with
  | .inl e => mset (mset (mset X 0 0 0) 2 0 e.1) 2 1 (ps (bX X) (X 0 0) e.2)
  | .inr _ => mset (mset (mset X 0 0 0) 2 0 0) 2 1 (-1)) else X
theorem txt_no {A : Mem} {tx : Nat → Txt} {X : Mem} (h : ¬ A 10 2 < 4) : txtV A X = -1 ∧ txtA A X = A ∧ txtT A tx X = tx ∧ txtX A X = X := by
  unfold txtV txtA txtT txtX; rw [if_neg h, if_neg h, if_neg h, if_neg h]; exact ⟨rfl, rfl, rfl, rfl⟩
theorem txt_er {A : Mem} {tx : Nat → Txt} {X : Mem} {e : Int × Nat} (h : A 10 2 < 4) (he : rdT X = .inl e) : txtV A X = -1 ∧ txtA A X = A ∧ txtT A tx X = tx ∧ txtX A X = mset (mset (mset X 0 0 0) 2 0 e.1) 2 1 (ps (bX X) (X 0 0) e.2) := by
  unfold txtV txtA txtT txtX; rw [if_pos h, if_pos h, if_pos h, if_pos h, he]; exact ⟨rfl, rfl, rfl, rfl⟩
theorem txt_ok {A : Mem} {tx : Nat → Txt} {X : Mem} {T : Txt} (h : A 10 2 < 4) (he : rdT X = .inr T) : txtV A X = A 10 2 ∧ txtA A X = mset A 10 2 (A 10 2 + 1) ∧ txtT A tx X = (fun i => if i = (A 10 2).toNat then T else tx i) ∧ txtX A X = mset (mset (mset X 0 0 0) 2 0 0) 2 1 (-1) := by
  unfold txtV txtA txtT txtX; rw [if_pos h, if_pos h, if_pos h, if_pos h, he]; exact ⟨rfl, rfl, rfl, rfl⟩
theorem InvA.text {A : Mem} (h : InvA A) (h4 : A 10 2 < 4) : InvA (mset A 10 2 (A 10 2 + 1)) := by
  obtain ⟨i0, i1, i2, i3, i4, i5⟩ := h
  refine ⟨?_, fun r x y => ?_, fun g x y => ?_, ?_, fun i x y => ?_, fun i x y => ?_⟩
  · simp (disch := omega) only [mset_off, mset_miss, mset_hit]; omega
  · simp (disch := omega) only [mset_off, mset_miss] at y ⊢; exact i1 r x y
  · simp (disch := omega) only [mset_off, mset_miss] at y ⊢; exact i2 g x y
  · simp (disch := omega) only [mset_off]; exact i3
  · simp (disch := omega) only [mset_off] at y ⊢; exact i4 i x y
  · simp (disch := omega) only [mset_off, mset_miss] at y ⊢; exact i5 i x y
theorem okX.txt {A X : Mem} (h : okX X) : okX (txtX A X) := by
  have e : ∀ a c : Int, okX (mset (mset (mset X 0 0 0) 2 0 a) 2 1 c) := fun a c => by
    refine ⟨?_, fun i => ?_⟩
    · rw [mset_off (by omega), mset_off (by omega), mset_hit rfl]; omega
    · rw [mset_off (by omega), mset_off (by omega), mset_off (by omega)]; exact h.2 i
  by_cases q : A 10 2 < 4
  · cases hr : rdT X with
    | inl f => rw [(txt_er (tx := fun _ => T0) q hr).2.2.2]; exact e _ _
    | inr T => rw [(txt_ok (tx := fun _ => T0) q hr).2.2.2]; exact e _ _
  · rw [(txt_no (tx := fun _ => T0) q).2.2.2]; exact h

def wp_X11_text  (σ : Mem) (Q : Int → Mem → Prop) : Prop :=
  (((σ 1 10) < 4) →
    (0 ≤ (σ 1 10) ∧ (σ 1 10) < 4) ∧
    ∃ g3 : Int → Int, ∃ g4 : Int, (isTp g3 g4 ∧ σ 30 1 = g4 ∧ (∀ i : Int, 0 ≤ i → i < g4 → σ 31 i = g3 i)) ∧
    ∀ (u9 : Int) (σ8 : Mem), R32 u9 → OKm σ8 → (xAns g3 g4 (54 + 5 * ((σ 1 10)).toNat) σ σ8 u9 (pTx (kd g3 g4) (nu g3 g4) 25 T0 0)) →
    ∀ σ11 : Mem, σ11 = mset σ8 30 1 0 →
    ((u9 ≠ 0) →
     R32 ((σ11 1 10) + 1) ∧
     ∀ σ15 : Mem, σ15 = mset σ11 1 10 ((σ11 1 10) + 1) →
     R32 ((σ15 1 10) - 1) ∧
     Q ((σ15 1 10) - 1) σ15) ∧
    ((u9 = 0) →
     Q (-1) σ11)) ∧
   ((4 ≤ (σ 1 10)) →
    Q (-1) σ)
theorem mt_X11_text {d : Nat} (hd : 80 ≤ d)  {σ : Mem} {Q : Int → Mem → Prop}  (hO : OKm σ) (h : wp_X11_text  σ Q) : Mt yX11_text cX11_text 2 (some .int) d [aR (0)] σ (QI Q) := by
  refine Mt.intro (by decide +kernel) (Nat.le_of_ble_eq_true rfl) [(0, aR (0))] rfl ?_
  unfold wp_X11_text at h
  refine G_aload_n 0 rfl rfl dX11_text_0 ?_
  refine G_get (k := 0) (kd := (2, 1)) (v := aR 1) gf_X11_10 rfl rfl rfl rfl dX11_text_1 ?_
  refine G_get (k := 10) (kd := (0, 0)) (v := aI (σ 1 10)) gf_X11_127 rfl rfl rfl rfl dX11_text_4 ?_
  refine G_iconst dX11_text_7 ?_
  refine G_icmp_lt (OKm.i hO 1 10 rfl) (rL 4 rfl) dX11_text_8 (tgt := 13) (by decide) (fun c1 => ?_) (fun c1 => ?_)
  · have h := h.1 c1
    refine G_aload_n 0 rfl rfl dX11_text_13 ?_
    refine G_get (k := 8) (kd := (2, 35)) (v := aR 35) gf_X11_58 rfl rfl rfl rfl dX11_text_14 ?_
    refine G_aload_n 0 rfl rfl dX11_text_17 ?_
    refine G_get (k := 6) (kd := (2, 29)) (v := aR 29) gf_X11_42 rfl rfl rfl rfl dX11_text_18 ?_
    refine G_aload_n 0 rfl rfl dX11_text_21 ?_
    refine G_get (k := 0) (kd := (2, 1)) (v := aR 1) gf_X11_10 rfl rfl rfl rfl dX11_text_22 ?_
    refine G_get (k := 10) (kd := (0, 0)) (v := aI (σ 1 10)) gf_X11_127 rfl rfl rfl rfl dX11_text_25 ?_
    obtain ⟨c2, h⟩ := h
    refine G_aald (n := 4) rfl c2.1 c2.2 dX11_text_28 ?_
    obtain ⟨g3, g4, c5, h⟩ := h
    refine G_callV (as := [_]) cf_X11_129 rfl rfl rfl (sp_X5_takes (d - 1) (by omega) _ hO _ (isText_at c2) g3 g4 c5) (by omega) rfl rfl (Nat.le_of_ble_eq_true rfl) dX11_text_29 ?_
    rintro _ σ8 ⟨u9, rfl, z10⟩ o7 r6
    have h := h _ _ (r6 _ rfl) o7 z10
    refine G_istore_n (lv' := [(1, aI (u9)), (0, aR (0))]) rfl rfl (by decide) dX11_text_32 ?_
    refine G_aload_n 1 rfl rfl dX11_text_33 ?_
    refine G_get (k := 7) (kd := (2, 30)) (v := aR 30) gf_X11_49 rfl rfl rfl rfl dX11_text_34 ?_
    refine G_iconst dX11_text_37 ?_
    obtain ⟨σ11, e13⟩ : ∃ τ : Mem, τ = mset σ8 30 1 0 := ⟨_, rfl⟩
    have h := h σ11 e13
    have o12 : OKm σ11 := by rw [e13]; exact OKm.seti o7 _ _ _ (rL 0 rfl) rfl
    refine G_put (k := 1) (ki := 1) (kd := (0, 0)) (x := _) pf_X11_119 rfl rfl rfl rfl (fa_i (mset_self _ _ _ _)) (fun _ => rfl) (fun _ => rfl) dX11_text_38 ?_
    rw [← e13]
    refine G_iload_n 0 rfl rfl dX11_text_41 ?_
    refine G_if_ne (r6 _ rfl) dX11_text_42 (tgt := 47) (by decide) (fun c14 => ?_) (fun c14 => ?_)
    · have h := h.1 c14
      refine G_aload_n 1 rfl rfl dX11_text_47 ?_
      refine G_get (k := 0) (kd := (2, 1)) (v := aR 1) gf_X11_10 rfl rfl rfl rfl dX11_text_48 ?_
      refine G_dup rfl dX11_text_51 ?_
      refine G_get (k := 10) (kd := (0, 0)) (v := aI (σ11 1 10)) gf_X11_127 rfl rfl rfl rfl dX11_text_52 ?_
      refine G_iconst dX11_text_55 ?_
      refine G_iadd dX11_text_56 ?_
      obtain ⟨c16, h⟩ := h
      obtain ⟨σ15, e18⟩ : ∃ τ : Mem, τ = mset σ11 1 10 ((σ11 1 10) + 1) := ⟨_, rfl⟩
      have h := h σ15 e18
      have o17 : OKm σ15 := by rw [e18]; exact OKm.seti o12 _ _ _ c16 rfl
      refine G_put (k := 10) (ki := 10) (kd := (0, 0)) (x := _) pf_X11_127 rfl rfl rfl rfl (fa_i (mset_self _ _ _ _)) (fun _ => rfl) (fun _ => rfl) dX11_text_57 ?_
      rw [← e18]
      refine G_aload_n 1 rfl rfl dX11_text_60 ?_
      refine G_get (k := 0) (kd := (2, 1)) (v := aR 1) gf_X11_10 rfl rfl rfl rfl dX11_text_61 ?_
      refine G_get (k := 10) (kd := (0, 0)) (v := aI (σ15 1 10)) gf_X11_127 rfl rfl rfl rfl dX11_text_64 ?_
      refine G_iconst dX11_text_67 ?_
      refine G_isub dX11_text_68 ?_
      obtain ⟨c19, h⟩ := h
      exact G_iret rfl c19 dX11_text_69 ⟨_, rfl, h⟩ o17
    · have h := h.2 c14
      refine G_iconst dX11_text_45 ?_
      exact G_iret rfl (rL (-1) rfl) dX11_text_46 ⟨_, rfl, h⟩ o12
  · have h := h.2 c1
    refine G_iconst dX11_text_11 ?_
    exact G_iret rfl (rL (-1) rfl) dX11_text_12 ⟨_, rfl, h⟩ hO

theorem sp_X11_text (d : Nat) (hd : 80 ≤ d) (σ : Mem) (hO : OKm σ) (A : Mem) (L : List Mem) (IA : Mem) (IL : List Mem) (tx : Nat → Txt) (X : Mem) (hpre : fullC σ A L IA IL tx X ∧ okX X) : Mt yX11_text cX11_text 2 (some .int) d [aR (0)] σ (QI (fun v σ' => v = txtV A X ∧ fullC σ' (txtA A X) L IA IL (txtT A tx X) (txtX A X) ∧ frC σ σ')) := mt_X11_text hd  hO (by
  unfold wp_X11_text
  obtain ⟨hf, hX⟩ := hpre
  have hv := hf.1.1
  have hI := hv.2.2.1
  have h2 : σ 1 10 = A 10 2 := hv.1.1.2.2.1
  have hc := hI.1
  rw [h2]
  refine ⟨fun h4 => ⟨by omega, bX X, X 0 0, ⟨bX_tp hX, hf.2.2.1.1, fun i a1 a2 => by unfold bX; rw [if_pos ⟨a1, a2⟩]; exact hf.2.2.1.2.1 i a1 a2⟩, fun u ρ _ _ h τ eτ => ?_⟩, fun h4 => ?_⟩
  · obtain ⟨hF, hj, hm⟩ := h
    have ht : (A 10 2).toNat < 4 := by omega
    generalize hn : (A 10 2).toNat = n at *
    have hnA : A 10 2 = (n : Int) := by omega
    have qF : ∀ q : Nat, (q < 30 ∨ q = 31 ∨ 36 ≤ q ∧ q < 54 + 5 * n ∨ 59 + 5 * n ≤ q) → τ q = σ q := fun q hq => by
      rw [eτ, mset_ne (by omega)]; exact hF q (by simp; omega)
    have t35 : τ 35 = ρ 35 := by rw [eτ, mset_ne (by omega)]
    have htx : ∀ i : Nat, (i : Int) < A 10 2 → textC τ (54 + 5 * i) (tx i) := fun i hi => (hv.2.2.2 i hi).congr (fun j hj => qF _ (by omega))
    have himg : imgC τ IA IL := hf.2.1.fr (fun q h1 h2 => qF q (by omega))
    have hnet : netC τ := by unfold netC; rw [qF 40 (by omega)]; exact hf.2.2.2
    have hst : stepsC τ 15 L := hf.1.2.congr (qF 15 (by omega)) (qF (15 + 1) (by omega))
    have htold : toldC τ 1 A := hv.1.congr (fun j hj => qF _ (by omega))
    have hnow : nowC τ A := hv.2.1.congr (fun q h1 h2 => qF q (by omega))
    have hX1 : ∀ a c : Int, τ 35 4 = a → τ 35 5 = c → tapC τ (mset (mset (mset X 0 0 0) 2 0 a) 2 1 c) := fun a c ha hc => by
      refine ⟨?_, fun i a1 a2 => ?_, ?_, ?_⟩
      · rw [eτ, mset_hit rfl]; simp (disch := omega) only [mset_off, mset_hit]
      · simp (disch := omega) only [mset_off, mset_hit] at a2; omega
      · simp (disch := omega) only [mset_miss, mset_hit]; exact ha
      · simp (disch := omega) only [mset_miss, mset_hit]; exact hc
    cases hr : rdT X with
    | inl e =>
      unfold rdT at hr
      rw [hr] at hm
      obtain ⟨hu, e4, e5⟩ := hm
      have he := txt_er (tx := tx) h4 (show rdT X = .inl e from hr)
      refine ⟨fun q => absurd hu q, fun _ => ?_⟩
      rw [he.1, he.2.1, he.2.2.1, he.2.2.2]
      exact ⟨rfl, ⟨⟨⟨htold, hnow, hI, htx⟩, hst⟩, himg, hX1 _ _ (by rw [t35]; exact e4) (by rw [t35]; exact e5), hnet⟩, fun q hq => qF q (by omega)⟩
    | inr T =>
      unfold rdT at hr
      rw [hr] at hm
      obtain ⟨hu, hT, e4, e5⟩ := hm
      have he := txt_ok (tx := tx) h4 (show rdT X = .inr T from hr)
      refine ⟨fun _ => ?_, fun q => absurd q (by omega)⟩
      have t10 : τ 1 10 = A 10 2 := htold.1.2.2.1
      rw [t10]
      refine ⟨by unfold R32; omega, fun ω eω => ?_⟩
      have w10 : ω 1 10 = A 10 2 + 1 := by rw [eω, mset_hit rfl]
      rw [w10]
      refine ⟨by unfold R32; omega, ?_⟩
      rw [he.1, he.2.1, he.2.2.1, he.2.2.2]
      have qw : ∀ q : Nat, q ≠ 1 → ω q = τ q := fun q hq => by rw [eω]; exact mset_ne hq
      have hTτ : textC ω (54 + 5 * n) T := hT.congr (fun j hj => by rw [qw _ (by omega), eτ, mset_ne (by omega)])
      refine ⟨by omega, ⟨⟨⟨?_, ?_, hI.text h4, fun i hi => ?_⟩, hst.congr (qw 15 (by omega)) (qw (15 + 1) (by omega))⟩, himg.fr (fun q h1 h2 => qw q (by omega)), ?_, by unfold netC; rw [qw 40 (by omega)]; exact hnet⟩, fun q hq => by rw [qw q (by omega)]; exact qF q (by omega)⟩
      · obtain ⟨t1, t2, t3, t4⟩ := htold
        unfold toldC
        refine ⟨?_, fun r x y => ?_, fun g x y => ?_, fun i x y => ?_⟩
        · rw [eω]; simp (disch := omega) only [mset_off, mset_miss, mset_hit]
          exact ⟨t1.1, t1.2.1, trivial, t1.2.2.2⟩
        · simp (disch := omega) only [mset_miss, mset_off] at y ⊢
          rw [eω]; simp (disch := omega) only [mset_off]; exact t2 r x y
        · simp (disch := omega) only [mset_miss, mset_off] at y ⊢
          rw [eω]; simp (disch := omega) only [mset_off]; exact t3 g x y
        · simp (disch := omega) only [mset_miss, mset_off] at y ⊢
          rw [eω]; simp (disch := omega) only [mset_off]; exact t4 i x y
      · exact nowC_told (hnow.congr (fun q h1 h2 => qw q (by omega))) (mset_miss (by omega)) (mset_miss (by omega)) (fun q hq => mset_ne (by omega))
      · rw [mset_hit rfl] at hi
        show textC ω (54 + 5 * i) (if i = (A 10 2).toNat then T else tx i)
        rw [hn]
        by_cases q : i = n
        · rw [if_pos q, q]; exact hTτ
        · rw [if_neg q]
          exact (htx i (by omega)).congr (fun j hj => qw _ (by omega))
      · have := hX1 0 (-1) (by rw [t35]; exact e4) (by rw [t35]; exact e5)
        exact this.fr (by rw [qw 30 (by omega)]) (qw 31 (by omega)) (by rw [qw 35 (by omega)]) (by rw [qw 35 (by omega)])
  · have he := txt_no (A := A) (tx := tx) (X := X) (by omega)
    rw [he.1, he.2.1, he.2.2.1, he.2.2.2]
    exact ⟨rfl, hf, fun q _ => rfl⟩)
