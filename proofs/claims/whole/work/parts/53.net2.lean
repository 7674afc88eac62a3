def wp_X11_lonely  (σ : Mem) (Q : Int → Mem → Prop) : Prop :=
 ∀ P4 : Int → Int → Mem → Prop,
 (∀ (v1 : Int) (v2 : Int) (σ : Mem), (R32 v1 → R32 v2 → OKm σ →
   ((8 ≤ v2) →
     Q v1 σ) ∧
    ((v2 < 8) →
     ∃ g2 : Mem, ∃ g3 : Nat → Txt, (vwC σ g2 g3) ∧
     ∀ (u8 : Int) (σ7 : Mem), R32 u8 → OKm σ7 → (u8 = degS g2 v2 ∧ σ7 = σ) →
     ((u8 ≠ 0) →
      R32 (v2 + 1) ∧ P4 v1 (v2 + 1) σ7) ∧
     ((u8 = 0) →
      R32 (v2 + 1) ∧ P4 (bOr v1 (bShl 1 v2)) (v2 + 1) σ7))) → P4 v1 v2 σ) →
  P4 0 0 σ
theorem mt_X11_lonely {d : Nat} (hd : 2 ≤ d)  {σ : Mem} {Q : Int → Mem → Prop}  (hO : OKm σ) (h : wp_X11_lonely  σ Q) : Mt yX11_lonely cX11_lonely 3 (some .int) d [aR (0)] σ (QI Q) := by
  refine Mt.intro (by decide +kernel) (Nat.le_of_ble_eq_true rfl) [(0, aR (0))] rfl ?_
  unfold wp_X11_lonely at h
  have h := h (fun (v1 : Int) (v2 : Int) (σ : Mem) => R32 v1 → R32 v2 → OKm σ → G yX11_lonely cX11_lonely 3 (some .int) d (QI Q) 4 [(0, aR (0)), (1, aI (v1)), (2, aI (v2))] [] σ) ?_
  · refine G_iconst dX11_lonely_0 ?_
    refine G_istore_n (lv' := [(1, aI (0)), (0, aR (0))]) rfl rfl (by decide) dX11_lonely_1 ?_
    refine G_iconst dX11_lonely_2 ?_
    refine G_istore_n (lv' := [(2, aI (0)), (1, aI (0)), (0, aR (0))]) rfl rfl (by decide) dX11_lonely_3 ?_
    exact G_pick [2, 1, 0] rfl (h (rL 0 rfl) (rL 0 rfl) hO)
  · intro v1 v2 σ h hv1 hv2 hO
    have h := h hv1 hv2 hO
    refine G_iload_n 2 rfl rfl dX11_lonely_4 ?_
    refine G_bipush (by decide) dX11_lonely_5 ?_
    refine G_icmp_ge hv2 (rL 8 rfl) dX11_lonely_7 (tgt := 33) (by decide) (fun c1 => ?_) (fun c1 => ?_)
    · have h := h.1 c1
      refine G_iload_n 1 rfl rfl dX11_lonely_33 ?_
      exact G_iret rfl hv1 dX11_lonely_34 ⟨_, rfl, h⟩ hO
    · have h := h.2 c1
      refine G_aload_n 0 rfl rfl dX11_lonely_10 ?_
      refine G_get (k := 11) (kd := (2, 40)) (v := aR 40) gf_X11_85 rfl rfl rfl rfl dX11_lonely_11 ?_
      refine G_iload_n 2 rfl rfl dX11_lonely_14 ?_
      obtain ⟨g2, g3, c4, h⟩ := h
      refine G_callV (as := [_]) cf_X11_341 rfl rfl rfl (sp_X4_roadsAt (d - 1) (by omega) _ hO _ hv2 g2 g3 c4) (by omega) rfl rfl (Nat.le_of_ble_eq_true rfl) dX11_lonely_15 ?_
      rintro _ σ7 ⟨u8, rfl, z9⟩ o6 r5
      have h := h _ _ (r5 _ rfl) o6 z9
      refine G_if_ne (r5 _ rfl) dX11_lonely_18 (tgt := 27) (by decide) (fun c10 => ?_) (fun c10 => ?_)
      · have h := h.1 c10
        refine G_iinc (lv' := [(2, aI ((v2 + 1))), (0, aR (0)), (1, aI (v1))]) (k := 2) rfl rfl (by decide) dX11_lonely_27 ?_
        refine G_goto (tgt := 4) dX11_lonely_30 (by decide) ?_
        obtain ⟨c11, h⟩ := h
        exact G_pick [1, 2, 0] rfl (h hv1 c11 o6)
      · have h := h.2 c10
        refine G_iload_n 1 rfl rfl dX11_lonely_21 ?_
        refine G_iconst dX11_lonely_22 ?_
        refine G_iload_n 2 rfl rfl dX11_lonely_23 ?_
        refine G_ishl dX11_lonely_24 ?_
        refine G_ior dX11_lonely_25 ?_
        refine G_istore_n (lv' := [(1, aI ((bOr v1 (bShl 1 v2)))), (0, aR (0)), (2, aI (v2))]) rfl rfl (by decide) dX11_lonely_26 ?_
        refine G_iinc (lv' := [(2, aI ((v2 + 1))), (1, aI ((bOr v1 (bShl 1 v2)))), (0, aR (0))]) (k := 2) rfl rfl (by decide) dX11_lonely_27 ?_
        refine G_goto (tgt := 4) dX11_lonely_30 (by decide) ?_
        obtain ⟨c12, h⟩ := h
        exact G_pick [2, 1, 0] rfl (h (r32_of _) c12 o6)

theorem sp_X11_lonely (d : Nat) (hd : 2 ≤ d) (σ : Mem) (hO : OKm σ) (A : Mem) (tx : Nat → Txt) (hpre : vwC σ A tx) : Mt yX11_lonely cX11_lonely 3 (some .int) d [aR (0)] σ (QI (fun v σ' => v = lonS A ∧ Fr ScrC σ σ')) := mt_X11_lonely hd  hO (by
  unfold wp_X11_lonely
  intro P4 h4
  have hV := hpre
  have hI := hV.2.2.1
  have hc := hI.1
  have e8 : σ 1 8 = A 10 0 := hV.1.1.1
  have e9 : σ 1 9 = A 10 1 := hV.1.1.2.1
  have H : ∀ (n k : Nat), k + n = 8 → P4 (bitsN (fun t => decide (degS A (t : Int) = 0)) k) (k : Int) σ := by
    intro n
    induction n with
    | zero =>
      intro k hk
      have hk2 : k = 8 := by omega
      subst hk2
      exact h4 _ _ _ (fun _ _ _ => ⟨fun _ => ⟨rfl, Fr.rf _ _⟩, fun h => absurd h (by omega)⟩)
    | succ n ih =>
      intro k hk
      have ih1 := ih (k + 1) (by omega)
      refine h4 _ _ _ (fun _ _ _ => ⟨fun h => absurd h (by omega), fun _ => ⟨A, tx, hV, ?_⟩⟩)
      intro u σ1 hu hO1 ⟨eu, e1⟩
      subst e1
      refine ⟨fun h => ⟨by unfold R32; omega, ?_⟩, fun h => ⟨by unfold R32; omega, ?_⟩⟩
      · rw [bitsN_f (decide_eq_false (by rw [← eu]; exact h))] at ih1; exact ih1
      · rw [bitsN_or (f := fun t => decide (degS A (t : Int) = 0)) (by omega) (decide_eq_true (by rw [← eu]; exact h))]; exact ih1
  exact H _ 0 (Nat.zero_add _))

def wp_X12_lonely  (σ : Mem) (Q : Int → Mem → Prop) : Prop :=
  ∃ g1 : Mem, ∃ g2 : Nat → Txt, (vwM σ g1 g2) ∧
   ∀ (u7 : Int) (σ6 : Mem), R32 u7 → OKm σ6 → (u7 = ntS g1 ∧ σ6 = σ) →
   Q (bAnd 255 (bXor u7 (-1))) σ6
theorem mt_X12_lonely {d : Nat} (hd : 2 ≤ d)  {σ : Mem} {Q : Int → Mem → Prop}  (hO : OKm σ) (h : wp_X12_lonely  σ Q) : Mt yX12_lonely cX12_lonely 1 (some .int) d [aR (74)] σ (QI Q) := by
  refine Mt.intro (by decide +kernel) (Nat.le_of_ble_eq_true rfl) [(0, aR (74))] rfl ?_
  unfold wp_X12_lonely at h
  refine G_sipush (by decide) dX12_lonely_0 ?_
  refine G_aload_n 0 rfl rfl dX12_lonely_3 ?_
  obtain ⟨g1, g2, c3, h⟩ := h
  refine G_callV (as := []) cf_X12_440 rfl rfl rfl (sp_X12_netTowns (d - 1) (by omega) _ hO  g1 g2 c3) (by omega) rfl rfl (Nat.le_of_ble_eq_true rfl) dX12_lonely_4 ?_
  rintro _ σ6 ⟨u7, rfl, z8⟩ o5 r4
  have h := h _ _ (r4 _ rfl) o5 z8
  refine G_iconst dX12_lonely_7 ?_
  refine G_ixor dX12_lonely_8 ?_
  refine G_iand dX12_lonely_9 ?_
  exact G_iret rfl (r32_of _) dX12_lonely_10 ⟨_, rfl, h⟩ o5

theorem sp_X12_lonely (d : Nat) (hd : 2 ≤ d) (σ : Mem) (hO : OKm σ) (A : Mem) (tx : Nat → Txt) (hpre : vwM σ A tx) : Mt yX12_lonely cX12_lonely 1 (some .int) d [aR (74)] σ (QI (fun v σ' => v = lonS A ∧ vwM σ' A tx ∧ Fr F80 σ σ')) := mt_X12_lonely hd  hO (by
  unfold wp_X12_lonely
  have hV := hpre
  refine ⟨A, tx, hV, ?_⟩
  intro u σ1 hu hO1 ⟨eu, e1⟩
  subst e1
  refine ⟨?_, hV, Fr.rf _ _⟩
  have hb := b8 (fun t => ntB A (t : Int))
  have hb2 : 0 ≤ ntS A ∧ ntS A < 256 := hb
  rw [eu]
  have hn := tb_not (s := 255) (u := ntS A) (t := 0) (by omega) (by omega)
  refine set8 ⟨hn.1.1, by omega⟩ (fun t h0 h7 => ?_)
  rw [(tb_not (s := 255) (u := ntS A) (t := t) (by omega) (by omega)).2]
  have e255 : tbt 255 t = true := by
    have : ∀ k : Nat, k < 8 → tbt 255 (k : Int) = true := by decide
    have := this t.toNat (by omega)
    rw [show ((t.toNat : Nat) : Int) = t by omega] at this; exact this
  unfold ntS
  rw [e255, tb8 h0 h7, show ((t.toNat : Nat) : Int) = t by omega]
  unfold ntB
  have := degN_r A t (A 10 0).toNat
  have hd : 0 ≤ degS A t := this.1
  by_cases q : degS A t = 0
  · rw [decide_eq_true q, decide_eq_false (by omega)]; rfl
  · rw [decide_eq_false q, decide_eq_true (by omega)]; rfl)

def briB (A : Mem) (r : Int) : Bool := decide (0 < A 1 r ∧ ¬ dst A 1 r (A 11 r) (A 12 r) < 1000000)
def briS (A : Mem) : Int := bitsN (fun r => briB A (r : Int)) (A 10 0).toNat

def wp_X4_bridgeRoads  (σ : Mem) (Q : Int → Mem → Prop) : Prop :=
 ∀ P4 : Int → Int → Mem → Prop,
 (∀ (v1 : Int) (v2 : Int) (σ : Mem), (R32 v1 → R32 v2 → OKm σ →
   (((σ 1 8) ≤ v2) →
     Q v1 σ) ∧
    ((v2 < (σ 1 8)) →
     (0 ≤ v2 ∧ v2 < 16) ∧
     ((¬ (0 < σ 11 v2)) →
      R32 (v2 + 1) ∧ P4 v1 (v2 + 1) σ) ∧
     ((0 < σ 11 v2) →
      (0 ≤ v2 ∧ v2 < 16) ∧
      ∃ g8 : Mem, ∃ g9 : Nat → Txt, (vwC σ g8 g9 ∧ (0 ≤ (σ 2 v2) ∧ (σ 2 v2) ≤ 7)) ∧
      ∀ σ13 : Mem, OKm σ13 → (inF σ13 41 (sprC g8 (1 : Int) v2 (σ 2 v2) 7) ∧ Fr [41] σ σ13) →
      (0 ≤ v2 ∧ v2 < 16) ∧
      (0 ≤ (σ13 3 v2) ∧ (σ13 3 v2) < 8) ∧
      (((σ13 41 (σ13 3 v2)) < 1000000) →
       R32 (v2 + 1) ∧ P4 v1 (v2 + 1) σ13) ∧
      ((1000000 ≤ (σ13 41 (σ13 3 v2))) →
       R32 (v2 + 1) ∧ P4 (bOr v1 (bShl 1 v2)) (v2 + 1) σ13)))) → P4 v1 v2 σ) →
  P4 0 0 σ
theorem mt_X4_bridgeRoads {d : Nat} (hd : 2 ≤ d)  {σ : Mem} {Q : Int → Mem → Prop}  (hO : OKm σ) (h : wp_X4_bridgeRoads  σ Q) : Mt yX4_bridgeRoads cX4_bridgeRoads 3 (some .int) d [aR (40)] σ (QI Q) := by
  refine Mt.intro (by decide +kernel) (Nat.le_of_ble_eq_true rfl) [(0, aR (40))] rfl ?_
  unfold wp_X4_bridgeRoads at h
  have h := h (fun (v1 : Int) (v2 : Int) (σ : Mem) => R32 v1 → R32 v2 → OKm σ → G yX4_bridgeRoads cX4_bridgeRoads 3 (some .int) d (QI Q) 4 [(0, aR (40)), (1, aI (v1)), (2, aI (v2))] [] σ) ?_
  · refine G_iconst dX4_bridgeRoads_0 ?_
    refine G_istore_n (lv' := [(1, aI (0)), (0, aR (40))]) rfl rfl (by decide) dX4_bridgeRoads_1 ?_
    refine G_iconst dX4_bridgeRoads_2 ?_
    refine G_istore_n (lv' := [(2, aI (0)), (1, aI (0)), (0, aR (40))]) rfl rfl (by decide) dX4_bridgeRoads_3 ?_
    exact G_pick [2, 1, 0] rfl (h (rL 0 rfl) (rL 0 rfl) hO)
  · intro v1 v2 σ h hv1 hv2 hO
    have h := h hv1 hv2 hO
    refine G_iload_n 2 rfl rfl dX4_bridgeRoads_4 ?_
    refine G_aload_n 0 rfl rfl dX4_bridgeRoads_5 ?_
    refine G_get (k := 0) (kd := (2, 1)) (v := aR 1) gf_X4_37 rfl rfl rfl rfl dX4_bridgeRoads_6 ?_
    refine G_get (k := 8) (kd := (0, 0)) (v := aI (σ 1 8)) gf_X4_50 rfl rfl rfl rfl dX4_bridgeRoads_9 ?_
    refine G_icmp_ge hv2 (OKm.i hO 1 8 rfl) dX4_bridgeRoads_12 (tgt := 69) (by decide) (fun c1 => ?_) (fun c1 => ?_)
    · have h := h.1 c1
      refine G_iload_n 1 rfl rfl dX4_bridgeRoads_69 ?_
      exact G_iret rfl hv1 dX4_bridgeRoads_70 ⟨_, rfl, h⟩ hO
    · have h := h.2 c1
      refine G_aload_n 0 rfl rfl dX4_bridgeRoads_15 ?_
      refine G_iload_n 2 rfl rfl dX4_bridgeRoads_16 ?_
      obtain ⟨c2, h⟩ := h
      refine G_callV (as := [_]) cf_X4_56 rfl rfl rfl (sp_X4_holds (d - 1) (by omega) _ hO _ hv2 c2) (by omega) rfl rfl (Nat.le_of_ble_eq_true rfl) dX4_bridgeRoads_17 ?_
      rintro _ _ ⟨_, rfl, rfl, rfl⟩ o4 r3
      refine G_if_eq (bI_R _) dX4_bridgeRoads_20 (tgt := 63) (by decide) (fun c5 => ?_) (fun c5 => ?_)
      · have h := h.1 ((bI_0 _).mp c5)
        refine G_iinc (lv' := [(2, aI ((v2 + 1))), (0, aR (40)), (1, aI (v1))]) (k := 2) rfl rfl (by decide) dX4_bridgeRoads_63 ?_
        refine G_goto (tgt := 4) dX4_bridgeRoads_66 (by decide) ?_
        obtain ⟨c6, h⟩ := h
        exact G_pick [1, 2, 0] rfl (h hv1 c6 hO)
      · have h := h.2 (bI_ne c5)
        refine G_aload_n 0 rfl rfl dX4_bridgeRoads_23 ?_
        refine G_aload_n 0 rfl rfl dX4_bridgeRoads_24 ?_
        refine G_get (k := 0) (kd := (2, 1)) (v := aR 1) gf_X4_37 rfl rfl rfl rfl dX4_bridgeRoads_25 ?_
        refine G_get (k := 0) (kd := (3, 1)) (v := aR (2)) gf_X4_71 rfl rfl rfl rfl dX4_bridgeRoads_28 ?_
        refine G_iload_n 2 rfl rfl dX4_bridgeRoads_31 ?_
        obtain ⟨c7, h⟩ := h
        refine G_iald (n := 16) rfl c7.1 c7.2 dX4_bridgeRoads_32 ?_
        refine G_iconst dX4_bridgeRoads_33 ?_
        refine G_iload_n 2 rfl rfl dX4_bridgeRoads_34 ?_
        obtain ⟨g8, g9, c10, h⟩ := h
        refine G_callV (as := [_, _, _]) cf_X4_86 rfl rfl rfl (sp_X4_spread (d - 1) (by omega) _ hO _ (OKm.i hO 2 v2 (isLg_row (show shp 2 = (1, 16, []) from rfl) _)) _ (rL 1 rfl) _ hv2 g8 g9 c10) (by omega) rfl rfl (Nat.le_of_ble_eq_true rfl) dX4_bridgeRoads_35 ?_
        rintro _ σ13 ⟨rfl, z15⟩ o12 r11
        have h := h _ o12 z15
        refine G_aload_n 0 rfl rfl dX4_bridgeRoads_38 ?_
        refine G_get (k := 2) (kd := (3, 1)) (v := aR (41)) gf_X4_9 rfl rfl rfl rfl dX4_bridgeRoads_39 ?_
        refine G_aload_n 0 rfl rfl dX4_bridgeRoads_42 ?_
        refine G_get (k := 0) (kd := (2, 1)) (v := aR 1) gf_X4_37 rfl rfl rfl rfl dX4_bridgeRoads_43 ?_
        refine G_get (k := 1) (kd := (3, 2)) (v := aR (3)) gf_X4_74 rfl rfl rfl rfl dX4_bridgeRoads_46 ?_
        refine G_iload_n 2 rfl rfl dX4_bridgeRoads_49 ?_
        obtain ⟨c16, h⟩ := h
        refine G_iald (n := 16) rfl c16.1 c16.2 dX4_bridgeRoads_50 ?_
        obtain ⟨c17, h⟩ := h
        refine G_iald (n := 8) rfl c17.1 c17.2 dX4_bridgeRoads_51 ?_
        refine G_ldc (n := 1000000) rfl (by decide) kc_X4_64 dX4_bridgeRoads_52 ?_
        refine G_icmp_lt (OKm.i o12 41 (σ13 3 v2) (isLg_row (show shp 41 = (1, 8, []) from rfl) _)) (rL 1000000 rfl) dX4_bridgeRoads_54 (tgt := 63) (by decide) (fun c18 => ?_) (fun c18 => ?_)
        · have h := h.1 c18
          refine G_iinc (lv' := [(2, aI ((v2 + 1))), (0, aR (40)), (1, aI (v1))]) (k := 2) rfl rfl (by decide) dX4_bridgeRoads_63 ?_
          refine G_goto (tgt := 4) dX4_bridgeRoads_66 (by decide) ?_
          obtain ⟨c19, h⟩ := h
          exact G_pick [1, 2, 0] rfl (h hv1 c19 o12)
        · have h := h.2 c18
          refine G_iload_n 1 rfl rfl dX4_bridgeRoads_57 ?_
          refine G_iconst dX4_bridgeRoads_58 ?_
          refine G_iload_n 2 rfl rfl dX4_bridgeRoads_59 ?_
          refine G_ishl dX4_bridgeRoads_60 ?_
          refine G_ior dX4_bridgeRoads_61 ?_
          refine G_istore_n (lv' := [(1, aI ((bOr v1 (bShl 1 v2)))), (0, aR (40)), (2, aI (v2))]) rfl rfl (by decide) dX4_bridgeRoads_62 ?_
          refine G_iinc (lv' := [(2, aI ((v2 + 1))), (1, aI ((bOr v1 (bShl 1 v2)))), (0, aR (40))]) (k := 2) rfl rfl (by decide) dX4_bridgeRoads_63 ?_
          refine G_goto (tgt := 4) dX4_bridgeRoads_66 (by decide) ?_
          obtain ⟨c20, h⟩ := h
          exact G_pick [2, 1, 0] rfl (h (r32_of _) c20 o12)

theorem sp_X4_bridgeRoads (d : Nat) (hd : 2 ≤ d) (σ : Mem) (hO : OKm σ) (A : Mem) (tx : Nat → Txt) (hpre : vwC σ A tx) : Mt yX4_bridgeRoads cX4_bridgeRoads 3 (some .int) d [aR (40)] σ (QI (fun v σ' => v = briS A ∧ Fr [41] σ σ')) := mt_X4_bridgeRoads hd  hO (by
  unfold wp_X4_bridgeRoads
  intro P4 h4
  have hV := hpre
  have hI := hV.2.2.1
  have hc := hI.1
  have e8 : σ 1 8 = A 10 0 := hV.1.1.1
  have e9 : σ 1 9 = A 10 1 := hV.1.1.2.1
  have H : ∀ (n k : Nat) (τ : Mem), k + n = (A 10 0).toNat → (Fr [41] σ τ) → P4 (bitsN (fun r => briB A (r : Int)) k) (k : Int) τ := by
    intro n
    induction n with
    | zero =>
      intro k τ hk hF
      have hk2 : k = (A 10 0).toNat := by omega
      have f8 : τ 1 8 = A 10 0 := by rw [hF 1 (by simp)]; exact e8
      refine h4 _ _ _ (fun _ _ _ => ⟨fun _ => ⟨by unfold briS; rw [hk2], hF⟩, fun h => absurd h (by omega)⟩)
    | succ n ih =>
      intro k τ hk hF
      have f8 : τ 1 8 = A 10 0 := by rw [hF 1 (by simp)]; exact e8
      have hVt : vwC τ A tx := hV.fr (scr41 hF)
      have t1 := hVt.1.2.1 (k : Int) (by omega) (by omega)
      have n1 := hVt.2.1.2.1 (k : Int) (by omega) (by omega)
      have s2 : τ 2 (k : Int) = A 11 (k : Int) := t1.1
      have hl := hI.2.1 (k : Int) (by omega) (by omega)
      refine h4 _ _ _ (fun _ _ _ => ⟨fun h => absurd h (by omega), fun _ => ?_⟩)
      rw [n1, s2]
      refine ⟨by omega, fun h => ⟨by unfold R32; omega, ?_⟩, fun h => ⟨by omega, A, tx, ⟨hVt, by omega⟩, ?_⟩⟩
      · have ih1 := ih (k + 1) τ (by omega) hF
        rw [bitsN_f (f := fun r => briB A (r : Int)) (decide_eq_false (fun q => h q.1))] at ih1; exact ih1
      · intro σ13 o13 ⟨q13, f13⟩
        have ih1 := ih (k + 1) σ13 (by omega) (hF.tr f13)
        have s3 : σ13 3 (k : Int) = A 12 (k : Int) := by rw [f13 3 (by simp)]; exact t1.2.1
        rw [s3]
        have em : σ13 41 (A 12 (k : Int)) = dst A 1 (k : Int) (A 11 (k : Int)) (A 12 (k : Int)) := q13 _ (by omega) (by omega)
        rw [em]
        refine ⟨by omega, by omega, fun h2 => ⟨by unfold R32; omega, ?_⟩, fun h2 => ⟨by unfold R32; omega, ?_⟩⟩
        · rw [bitsN_f (f := fun r => briB A (r : Int)) (decide_eq_false (fun q => q.2 h2))] at ih1; exact ih1
        · rw [bitsN_or (f := fun r => briB A (r : Int)) (by omega) (decide_eq_true ⟨h, by omega⟩)]; exact ih1
  exact H _ 0 σ (Nat.zero_add _) (Fr.rf _ _))

def wp_X11_bridges  (σ : Mem) (Q : Int → Mem → Prop) : Prop :=
  ∃ g1 : Mem, ∃ g2 : Nat → Txt, (vwC σ g1 g2) ∧
   ∀ (u7 : Int) (σ6 : Mem), R32 u7 → OKm σ6 → (u7 = briS g1 ∧ Fr [41] σ σ6) →
   Q u7 σ6
theorem mt_X11_bridges {d : Nat} (hd : 3 ≤ d)  {σ : Mem} {Q : Int → Mem → Prop}  (hO : OKm σ) (h : wp_X11_bridges  σ Q) : Mt yX11_bridges cX11_bridges 1 (some .int) d [aR (0)] σ (QI Q) := by
  refine Mt.intro (by decide +kernel) (Nat.le_of_ble_eq_true rfl) [(0, aR (0))] rfl ?_
  unfold wp_X11_bridges at h
  refine G_aload_n 0 rfl rfl dX11_bridges_0 ?_
  refine G_get (k := 11) (kd := (2, 40)) (v := aR 40) gf_X11_85 rfl rfl rfl rfl dX11_bridges_1 ?_
  obtain ⟨g1, g2, c3, h⟩ := h
  refine G_callV (as := []) cf_X11_276 rfl rfl rfl (sp_X4_bridgeRoads (d - 1) (by omega) _ hO  g1 g2 c3) (by omega) rfl rfl (Nat.le_of_ble_eq_true rfl) dX11_bridges_4 ?_
  rintro _ σ6 ⟨u7, rfl, z8⟩ o5 r4
  have h := h _ _ (r4 _ rfl) o5 z8
  exact G_iret rfl (r4 _ rfl) dX11_bridges_7 ⟨_, rfl, h⟩ o5

theorem sp_X11_bridges (d : Nat) (hd : 3 ≤ d) (σ : Mem) (hO : OKm σ) (A : Mem) (tx : Nat → Txt) (hpre : vwC σ A tx) : Mt yX11_bridges cX11_bridges 1 (some .int) d [aR (0)] σ (QI (fun v σ' => v = briS A ∧ Fr ScrC σ σ')) := mt_X11_bridges hd  hO (by
  unfold wp_X11_bridges
  refine ⟨A, tx, hpre, ?_⟩
  intro u σ1 hu hO1 ⟨eu, hF⟩
  exact ⟨eu, scr41 hF⟩)

def wp_X12_bridges  (σ : Mem) (Q : Int → Mem → Prop) : Prop :=
 ∀ P4 : Int → Int → Mem → Prop,
 (∀ (v1 : Int) (v2 : Int) (σ : Mem), (R32 v1 → R32 v2 → OKm σ →
   (((σ 75 0) ≤ v2) →
     Q v1 σ) ∧
    ((v2 < (σ 75 0)) →
     (0 ≤ v2 ∧ v2 < 16) ∧
     ((¬ (0 < σ 75 (11 + v2))) →
      R32 (v2 + 1) ∧ P4 (bOr v1 0) (v2 + 1) σ) ∧
     ((0 < σ 75 (11 + v2)) →
      (0 ≤ v2 ∧ v2 < 16 ∧ 0 ≤ (0 : Int) ∧ (0 : Int) < 4) ∧
      ∃ g10 : Mem, ∃ g11 : Nat → Txt, (vwM σ g10 g11) ∧
      ∀ (u16 : Int) (σ15 : Mem), R32 u16 → OKm σ15 → (u16 = netS g10 ∧ σ15 = σ) →
      ∃ g18 : Mem, ∃ g19 : Nat → Txt, (vwM σ15 g18 g19 ∧ (0 ≤ (σ 75 (39 + 4 * v2 + (0 : Int))) ∧ (σ 75 (39 + 4 * v2 + (0 : Int))) ≤ 7) ∧ (0 ≤ (bAnd u16 (bXor (bShl 1 v2) (-1))) ∧ (bAnd u16 (bXor (bShl 1 v2) (-1))) < 65536)) ∧
      ∀ (u24 : Int) (σ23 : Mem), R32 u24 → OKm σ23 → (u24 = comeS g18 (tbt (bAnd u16 (bXor (bShl 1 v2) (-1)))) (σ 75 (39 + 4 * v2 + (0 : Int))) ∧ σ23 = σ15) →
      (0 ≤ v2 ∧ v2 < 16 ∧ 0 ≤ (1 : Int) ∧ (1 : Int) < 4) ∧
      ((0 ≤ u24 ∧ u24 < 2147483648) ∧ (0 ≤ (σ23 75 (39 + 4 * v2 + (1 : Int))) ∧ (σ23 75 (39 + 4 * v2 + (1 : Int))) < 31)) ∧
      (((u24).toNat.testBit ((σ23 75 (39 + 4 * v2 + (1 : Int)))).toNat = true) →
       R32 (v2 + 1) ∧ P4 (bOr v1 0) (v2 + 1) σ23) ∧
      ((¬ ((u24).toNat.testBit ((σ23 75 (39 + 4 * v2 + (1 : Int)))).toNat = true)) →
       R32 (v2 + 1) ∧ P4 (bOr v1 (bShl 1 v2)) (v2 + 1) σ23)))) → P4 v1 v2 σ) →
  P4 0 0 σ
theorem mt_X12_bridges {d : Nat} (hd : 2 ≤ d)  {σ : Mem} {Q : Int → Mem → Prop}  (hO : OKm σ) (h : wp_X12_bridges  σ Q) : Mt yX12_bridges cX12_bridges 3 (some .int) d [aR (74)] σ (QI Q) := by
  refine Mt.intro (by decide +kernel) (Nat.le_of_ble_eq_true rfl) [(0, aR (74))] rfl ?_
  unfold wp_X12_bridges at h
  have h := h (fun (v1 : Int) (v2 : Int) (σ : Mem) => R32 v1 → R32 v2 → OKm σ → G yX12_bridges cX12_bridges 3 (some .int) d (QI Q) 4 [(0, aR (74)), (1, aI (v1)), (2, aI (v2))] [] σ) ?_
  · refine G_iconst dX12_bridges_0 ?_
    refine G_istore_n (lv' := [(1, aI (0)), (0, aR (74))]) rfl rfl (by decide) dX12_bridges_1 ?_
    refine G_iconst dX12_bridges_2 ?_
    refine G_istore_n (lv' := [(2, aI (0)), (1, aI (0)), (0, aR (74))]) rfl rfl (by decide) dX12_bridges_3 ?_
    exact G_pick [2, 1, 0] rfl (h (rL 0 rfl) (rL 0 rfl) hO)
  · intro v1 v2 σ h hv1 hv2 hO
    have h := h hv1 hv2 hO
    refine G_iload_n 2 rfl rfl dX12_bridges_4 ?_
    refine G_aload_n 0 rfl rfl dX12_bridges_5 ?_
    refine G_get (k := 0) (kd := (2, 75)) (v := aR 75) gf_X12_7 rfl rfl rfl rfl dX12_bridges_6 ?_
    refine G_iconst dX12_bridges_9 ?_
    refine G_iald (n := 2119) rfl (by decide) (by decide) dX12_bridges_10 ?_
    refine G_icmp_ge hv2 (OKm.i hO 75 0 (isLg_row (show shp 75 = (1, 2119, []) from rfl) _)) dX12_bridges_11 (tgt := 70) (by decide) (fun c1 => ?_) (fun c1 => ?_)
    · have h := h.1 c1
      refine G_iload_n 1 rfl rfl dX12_bridges_70 ?_
      exact G_iret rfl hv1 dX12_bridges_71 ⟨_, rfl, h⟩ hO
    · have h := h.2 c1
      refine G_iload_n 1 rfl rfl dX12_bridges_14 ?_
      refine G_aload_n 0 rfl rfl dX12_bridges_15 ?_
      refine G_iload_n 2 rfl rfl dX12_bridges_16 ?_
      obtain ⟨c2, h⟩ := h
      refine G_callV (as := [_]) cf_X12_431 rfl rfl rfl (sp_X12_isNet (d - 1) (by omega) _ hO _ hv2 c2) (by omega) rfl rfl (Nat.le_of_ble_eq_true rfl) dX12_bridges_17 ?_
      rintro _ _ ⟨_, rfl, rfl, rfl⟩ o4 r3
      refine G_if_eq (bI_R _) dX12_bridges_20 (tgt := 61) (by decide) (fun c5 => ?_) (fun c5 => ?_)
      · have h := h.1 ((bI_0 _).mp c5)
        refine G_iconst dX12_bridges_61 ?_
        refine G_ior dX12_bridges_62 ?_
        refine G_istore_n (lv' := [(1, aI ((bOr v1 0))), (0, aR (74)), (2, aI (v2))]) rfl rfl (by decide) dX12_bridges_63 ?_
        refine G_iinc (lv' := [(2, aI ((v2 + 1))), (1, aI ((bOr v1 0))), (0, aR (74))]) (k := 2) rfl rfl (by decide) dX12_bridges_64 ?_
        refine G_goto (tgt := 4) dX12_bridges_67 (by decide) ?_
        obtain ⟨c6, h⟩ := h
        exact G_pick [2, 1, 0] rfl (h (r32_of _) c6 hO)
      · have h := h.2 (bI_ne c5)
        refine G_aload_n 0 rfl rfl dX12_bridges_23 ?_
        refine G_aload_n 0 rfl rfl dX12_bridges_24 ?_
        refine G_iload_n 2 rfl rfl dX12_bridges_25 ?_
        refine G_iconst dX12_bridges_26 ?_
        obtain ⟨c7, h⟩ := h
        refine G_callV (as := [_, _]) cf_X12_85 rfl rfl rfl (sp_X12_told (d - 1) (by omega) _ hO _ hv2 _ (rL 0 rfl) c7) (by omega) rfl rfl (Nat.le_of_ble_eq_true rfl) dX12_bridges_27 ?_
        rintro _ _ ⟨_, rfl, rfl, rfl⟩ o9 r8
        refine G_aload_n 0 rfl rfl dX12_bridges_30 ?_
        obtain ⟨g10, g11, c12, h⟩ := h
        refine G_callV (as := []) cf_X12_437 rfl rfl rfl (sp_X12_net (d - 1) (by omega) _ hO  g10 g11 c12) (by omega) rfl rfl (Nat.le_of_ble_eq_true rfl) dX12_bridges_31 ?_
        rintro _ σ15 ⟨u16, rfl, z17⟩ o14 r13
        have h := h _ _ (r13 _ rfl) o14 z17
        refine G_iconst dX12_bridges_34 ?_
        refine G_iload_n 2 rfl rfl dX12_bridges_35 ?_
        refine G_ishl dX12_bridges_36 ?_
        refine G_iconst dX12_bridges_37 ?_
        refine G_ixor dX12_bridges_38 ?_
        refine G_iand dX12_bridges_39 ?_
        obtain ⟨g18, g19, c20, h⟩ := h
        refine G_callV (as := [_, _]) cf_X12_434 rfl rfl rfl (sp_X12_comeTo (d - 1) (by omega) _ o14 _ (r8 _ rfl) _ (r32_of _) g18 g19 c20) (by omega) rfl rfl (Nat.le_of_ble_eq_true rfl) dX12_bridges_40 ?_
        rintro _ σ23 ⟨u24, rfl, z25⟩ o22 r21
        have h := h _ _ (r21 _ rfl) o22 z25
        refine G_aload_n 0 rfl rfl dX12_bridges_43 ?_
        refine G_iload_n 2 rfl rfl dX12_bridges_44 ?_
        refine G_iconst dX12_bridges_45 ?_
        obtain ⟨c26, h⟩ := h
        refine G_callV (as := [_, _]) cf_X12_85 rfl rfl rfl (sp_X12_told (d - 1) (by omega) _ o22 _ hv2 _ (rL 1 rfl) c26) (by omega) rfl rfl (Nat.le_of_ble_eq_true rfl) dX12_bridges_46 ?_
        rintro _ _ ⟨_, rfl, rfl, rfl⟩ o28 r27
        obtain ⟨c29, h⟩ := h
        refine G_callS (as := [_, _]) cf_X12_258 rfl (sp_X12_has (d - 1) (by omega) _ o22 _ (r21 _ rfl) _ (r27 _ rfl) c29) (by omega) rfl rfl (Nat.le_of_ble_eq_true rfl) dX12_bridges_49 ?_
        rintro _ _ ⟨_, rfl, rfl, rfl⟩ o31 r30
        refine G_if_ne (bI_R _) dX12_bridges_52 (tgt := 61) (by decide) (fun c32 => ?_) (fun c32 => ?_)
        · have h := h.1 (bI_ne c32)
          refine G_iconst dX12_bridges_61 ?_
          refine G_ior dX12_bridges_62 ?_
          refine G_istore_n (lv' := [(1, aI ((bOr v1 0))), (0, aR (74)), (2, aI (v2))]) rfl rfl (by decide) dX12_bridges_63 ?_
          refine G_iinc (lv' := [(2, aI ((v2 + 1))), (1, aI ((bOr v1 0))), (0, aR (74))]) (k := 2) rfl rfl (by decide) dX12_bridges_64 ?_
          refine G_goto (tgt := 4) dX12_bridges_67 (by decide) ?_
          obtain ⟨c33, h⟩ := h
          exact G_pick [2, 1, 0] rfl (h (r32_of _) c33 o22)
        · have h := h.2 ((bI_0 _).mp c32)
          refine G_iconst dX12_bridges_55 ?_
          refine G_iload_n 2 rfl rfl dX12_bridges_56 ?_
          refine G_ishl dX12_bridges_57 ?_
          refine G_goto (tgt := 62) dX12_bridges_58 (by decide) ?_
          refine G_ior dX12_bridges_62 ?_
          refine G_istore_n (lv' := [(1, aI ((bOr v1 (bShl 1 v2)))), (0, aR (74)), (2, aI (v2))]) rfl rfl (by decide) dX12_bridges_63 ?_
          refine G_iinc (lv' := [(2, aI ((v2 + 1))), (1, aI ((bOr v1 (bShl 1 v2)))), (0, aR (74))]) (k := 2) rfl rfl (by decide) dX12_bridges_64 ?_
          refine G_goto (tgt := 4) dX12_bridges_67 (by decide) ?_
          obtain ⟨c34, h⟩ := h
          exact G_pick [2, 1, 0] rfl (h (r32_of _) c34 o22)

theorem sp_X12_bridges (d : Nat) (hd : 2 ≤ d) (σ : Mem) (hO : OKm σ) (A : Mem) (tx : Nat → Txt) (hpre : vwM σ A tx) : Mt yX12_bridges cX12_bridges 3 (some .int) d [aR (74)] σ (QI (fun v σ' => v = briS A ∧ vwM σ' A tx ∧ Fr F80 σ σ')) := mt_X12_bridges hd  hO (by
  unfold wp_X12_bridges
  intro P4 h4
  have hV := hpre
  have hI := hV.2.2.1
  have hc := hI.1
  have e0 : σ 75 0 = A 10 0 := hV.1.1.1
  have e1 : σ 75 1 = A 10 1 := hV.1.1.2.1
  have H : ∀ (n k : Nat), k + n = (A 10 0).toNat → P4 (bitsN (fun r => briB A (r : Int)) k) (k : Int) σ := by
    intro n
    induction n with
    | zero =>
      intro k hk
      have hk2 : k = (A 10 0).toNat := by omega
      refine h4 _ _ _ (fun _ _ _ => ⟨fun _ => ⟨by unfold briS; rw [hk2], hV, Fr.rf _ _⟩, fun h => absurd h (by omega)⟩)
    | succ n ih =>
      intro k hk
      have ih1 := ih (k + 1) (by omega)
      have t1 := hV.1.2.1 (k : Int) (by omega) (by omega)
      have n1 := hV.2.1.2.1 (k : Int) (by omega) (by omega)
      have s0 : σ 75 (39 + 4 * (k : Int) + 0) = A 11 (k : Int) := by rw [Int.add_zero]; exact t1.1
      have s1 : σ 75 (39 + 4 * (k : Int) + 1) = A 12 (k : Int) := t1.2.1
      have hl := hI.2.1 (k : Int) (by omega) (by omega)
      refine h4 _ _ _ (fun _ _ _ => ⟨fun h => absurd h (by omega), fun _ => ?_⟩)
      rw [n1, s0]
      refine ⟨by omega, fun h => ⟨by unfold R32; omega, ?_⟩, fun h => ⟨by omega, A, tx, hV, ?_⟩⟩
      · rw [bitsN_or0 (f := fun r => briB A (r : Int)) (by omega) (decide_eq_false (fun q => h q.1))]; exact ih1
      · intro u16 σ15 hu16 hO15 ⟨eu16, e15⟩
        subst e15
        have hn := netS_r hI
        have hs := (tb_shl (k := (k : Int)) (t := 0) (by omega) (by omega)).1
        have hb := fun t => tb_not (s := netS A) (u := bShl 1 (k : Int)) (t := t) hn hs
        rw [eu16]
        refine ⟨A, tx, ⟨hV, by omega, ⟨(hb 0).1.1, by have := (hb 0).1.2; omega⟩⟩, ?_⟩
        intro u24 σ23 hu24 hO23 ⟨eu24, e23⟩
        subst e23
        rw [s1]
        have hc8 := b8 (fun t => rchB A (tbt (bAnd (netS A) (bXor (bShl 1 (k : Int)) (-1)))) (A 11 (k : Int)) (t : Int))
        have hc8' : 0 ≤ u24 ∧ u24 < 256 := by rw [eu24]; exact hc8
        have hbit : u24.toNat.testBit (A 12 (k : Int)).toNat = rchB A (tbt (bAnd (netS A) (bXor (bShl 1 (k : Int)) (-1)))) (A 11 (k : Int)) (A 12 (k : Int)) := by
          rw [eu24]
          have := tb8 (f := fun t => rchB A (tbt (bAnd (netS A) (bXor (bShl 1 (k : Int)) (-1)))) (A 11 (k : Int)) (t : Int)) (t := A 12 (k : Int)) (by omega) (by omega)
          rw [show (((A 12 (k : Int)).toNat : Nat) : Int) = A 12 (k : Int) by omega] at this
          exact this
        have hok : ∀ r : Int, 0 ≤ r → r < A 10 0 → (tbt (bAnd (netS A) (bXor (bShl 1 (k : Int)) (-1))) r = true ↔ okR A 1 (k : Int) r = true) := fun r h0 hr => by
          rw [(hb r).2, netS_t hI h0 hr, (tb_shl (by omega) h0).2]
          unfold netB okR
          rw [Bool.and_eq_true, Bool.not_eq_true', decide_eq_true_iff, decide_eq_false_iff_not, decide_eq_true_iff]
          omega
        have hiff : rch A (tbt (bAnd (netS A) (bXor (bShl 1 (k : Int)) (-1)))) (A 11 (k : Int)) (A 12 (k : Int)) ↔ dst A 1 (k : Int) (A 11 (k : Int)) (A 12 (k : Int)) < 1000000 := by
          rw [dst_rch hI (by omega)]
          exact ⟨fun q => q.mono (fun r a b c => (hok r a b).mp c), fun q => q.mono (fun r a b c => (hok r a b).mpr c)⟩
        rw [hbit]
        refine ⟨by omega, by omega, fun h2 => ⟨by unfold R32; omega, ?_⟩, fun h2 => ⟨by unfold R32; omega, ?_⟩⟩
        · rw [bitsN_or0 (f := fun r => briB A (r : Int)) (by omega) (decide_eq_false (fun q => q.2 (hiff.mp (rchB_t.mp h2))))]; exact ih1
        · rw [bitsN_or (f := fun r => briB A (r : Int)) (by omega) (decide_eq_true ⟨h, fun q => h2 (rchB_t.mpr (hiff.mpr q))⟩)]; exact ih1
  exact H _ 0 (Nat.zero_add _))

def ringN (A : Mem) (t : Int) : Nat → Int
  | 0 => 1000000
  | n + 1 => if netR A t (n : Int) = true then min (ringN A t n) (dst A 1 (n : Int) (acrS A (n : Int) t) t + A 13 (n : Int)) else ringN A t n
def ringS (A : Mem) (t : Int) : Int := if 0 ≤ t ∧ t ≤ 7 then (if ringN A t (A 10 0).toNat < 1000000 then ringN A t (A 10 0).toNat else -1) else -1
theorem ringN_r {A : Mem} {t : Int} (hI : InvA A) : ∀ n : Nat, (n : Int) ≤ A 10 0 → 0 ≤ ringN A t n ∧ ringN A t n ≤ 1000000
  | 0, _ => by simp [ringN]
  | n + 1, hn => by
    have ih := ringN_r (t := t) hI n (by omega)
    have hl := hI.2.1 (n : Int) (by omega) (by omega)
    have hd := dst_r (th := 1) (wo := (n : Int)) (a := acrS A (n : Int) t) (b := t) hI
    unfold ringN
    split <;> omega

def wp_X4_ringMiles (x1 : Int) (σ : Mem) (Q : Int → Mem → Prop) : Prop :=
 ∀ P5 : Int → Int → Int → Mem → Prop,
 (∀ (v1 : Int) (v2 : Int) (v3 : Int) (σ : Mem), (R32 v1 → R32 v2 → R32 v3 → OKm σ →
   (((σ 1 8) ≤ v3) →
     ((1000000 ≤ v2) →
      Q (-1) σ) ∧
     ((v2 < 1000000) →
      Q v2 σ)) ∧
    ((v3 < (σ 1 8)) →
     (0 ≤ v3 ∧ v3 < 16) ∧
     ((¬ (0 < σ 11 v3)) →
      R32 (v3 + 1) ∧ P5 v1 v2 (v3 + 1) σ) ∧
     ((0 < σ 11 v3) →
      (0 ≤ v3 ∧ v3 < 16) ∧
      ((¬ (σ 2 v3 = v1 ∨ σ 3 v3 = v1)) →
       R32 (v3 + 1) ∧ P5 v1 v2 (v3 + 1) σ) ∧
      ((σ 2 v3 = v1 ∨ σ 3 v3 = v1) →
       (0 ≤ v3 ∧ v3 < 16) ∧
       ∃ g16 : Mem, ∃ g17 : Nat → Txt, (vwC σ g16 g17 ∧ (0 ≤ (if σ 2 v3 = v1 then σ 3 v3 else σ 2 v3) ∧ (if σ 2 v3 = v1 then σ 3 v3 else σ 2 v3) ≤ 7)) ∧
       ∀ σ21 : Mem, OKm σ21 → (inF σ21 41 (sprC g16 (1 : Int) v3 (if σ 2 v3 = v1 then σ 3 v3 else σ 2 v3) 7) ∧ Fr [41] σ σ21) →
       (0 ≤ v1 ∧ v1 < 8) ∧
       (0 ≤ v3 ∧ v3 < 16) ∧
       R32 ((σ21 41 v1) + (σ21 4 v3)) ∧
       ∀ y27 : Int, y27 = (min v2 ((σ21 41 v1) + (σ21 4 v3))) →
       R32 (v3 + 1) ∧ P5 v1 y27 (v3 + 1) σ21)))) → P5 v1 v2 v3 σ) →
  P5 x1 1000000 0 σ
theorem mt_X4_ringMiles {d : Nat} (hd : 2 ≤ d) {x1 : Int} {σ : Mem} {Q : Int → Mem → Prop} (hx1 : R32 x1) (hO : OKm σ) (h : wp_X4_ringMiles x1 σ Q) : Mt yX4_ringMiles cX4_ringMiles 4 (some .int) d [aR (40), aI (x1)] σ (QI Q) := by
  refine Mt.intro (by decide +kernel) (Nat.le_of_ble_eq_true rfl) [(0, aR (40)), (1, aI (x1))] rfl ?_
  unfold wp_X4_ringMiles at h
  have h := h (fun (v1 : Int) (v2 : Int) (v3 : Int) (σ : Mem) => R32 v1 → R32 v2 → R32 v3 → OKm σ → G yX4_ringMiles cX4_ringMiles 4 (some .int) d (QI Q) 5 [(0, aR (40)), (1, aI (v1)), (2, aI (v2)), (3, aI (v3))] [] σ) ?_
  · refine G_ldc (n := 1000000) rfl (by decide) kc_X4_64 dX4_ringMiles_0 ?_
    refine G_istore_n (lv' := [(2, aI (1000000)), (0, aR (40)), (1, aI (x1))]) rfl rfl (by decide) dX4_ringMiles_2 ?_
    refine G_iconst dX4_ringMiles_3 ?_
    refine G_istore_n (lv' := [(3, aI (0)), (2, aI (1000000)), (0, aR (40)), (1, aI (x1))]) rfl rfl (by decide) dX4_ringMiles_4 ?_
    exact G_pick [2, 3, 1, 0] rfl (h hx1 (rL 1000000 rfl) (rL 0 rfl) hO)
  · intro v1 v2 v3 σ h hv1 hv2 hv3 hO
    have h := h hv1 hv2 hv3 hO
    refine G_iload_n 3 rfl rfl dX4_ringMiles_5 ?_
    refine G_aload_n 0 rfl rfl dX4_ringMiles_6 ?_
    refine G_get (k := 0) (kd := (2, 1)) (v := aR 1) gf_X4_37 rfl rfl rfl rfl dX4_ringMiles_7 ?_
    refine G_get (k := 8) (kd := (0, 0)) (v := aI (σ 1 8)) gf_X4_50 rfl rfl rfl rfl dX4_ringMiles_10 ?_
    refine G_icmp_ge hv3 (OKm.i hO 1 8 rfl) dX4_ringMiles_13 (tgt := 78) (by decide) (fun c1 => ?_) (fun c1 => ?_)
    · have h := h.1 c1
      refine G_iload_n 2 rfl rfl dX4_ringMiles_78 ?_
      refine G_ldc (n := 1000000) rfl (by decide) kc_X4_64 dX4_ringMiles_79 ?_
      refine G_icmp_ge hv2 (rL 1000000 rfl) dX4_ringMiles_81 (tgt := 88) (by decide) (fun c2 => ?_) (fun c2 => ?_)
      · have h := h.1 c2
        refine G_iconst dX4_ringMiles_88 ?_
        exact G_iret rfl (rL (-1) rfl) dX4_ringMiles_89 ⟨_, rfl, h⟩ hO
      · have h := h.2 c2
        refine G_iload_n 2 rfl rfl dX4_ringMiles_84 ?_
        refine G_goto (tgt := 89) dX4_ringMiles_85 (by decide) ?_
        exact G_iret rfl hv2 dX4_ringMiles_89 ⟨_, rfl, h⟩ hO
    · have h := h.2 c1
      refine G_aload_n 0 rfl rfl dX4_ringMiles_16 ?_
      refine G_iload_n 3 rfl rfl dX4_ringMiles_17 ?_
      obtain ⟨c3, h⟩ := h
      refine G_callV (as := [_]) cf_X4_56 rfl rfl rfl (sp_X4_holds (d - 1) (by omega) _ hO _ hv3 c3) (by omega) rfl rfl (Nat.le_of_ble_eq_true rfl) dX4_ringMiles_18 ?_
      rintro _ _ ⟨_, rfl, rfl, rfl⟩ o5 r4
      refine G_if_eq (bI_R _) dX4_ringMiles_21 (tgt := 72) (by decide) (fun c6 => ?_) (fun c6 => ?_)
      · have h := h.1 ((bI_0 _).mp c6)
        refine G_iinc (lv' := [(3, aI ((v3 + 1))), (0, aR (40)), (1, aI (v1)), (2, aI (v2))]) (k := 3) rfl rfl (by decide) dX4_ringMiles_72 ?_
        refine G_goto (tgt := 5) dX4_ringMiles_75 (by decide) ?_
        obtain ⟨c7, h⟩ := h
        exact G_pick [1, 2, 3, 0] rfl (h hv1 hv2 c7 hO)
      · have h := h.2 (bI_ne c6)
        refine G_aload_n 0 rfl rfl dX4_ringMiles_24 ?_
        refine G_get (k := 0) (kd := (2, 1)) (v := aR 1) gf_X4_37 rfl rfl rfl rfl dX4_ringMiles_25 ?_
        refine G_iload_n 3 rfl rfl dX4_ringMiles_28 ?_
        refine G_iload_n 1 rfl rfl dX4_ringMiles_29 ?_
        obtain ⟨c8, h⟩ := h
        refine G_callV (as := [_, _]) cf_X4_60 rfl rfl rfl (sp_X10_touches (d - 1) (by omega) _ hO _ hv3 _ hv1 c8) (by omega) rfl rfl (Nat.le_of_ble_eq_true rfl) dX4_ringMiles_30 ?_
        rintro _ _ ⟨_, rfl, rfl, rfl⟩ o10 r9
        refine G_if_eq (bI_R _) dX4_ringMiles_33 (tgt := 72) (by decide) (fun c11 => ?_) (fun c11 => ?_)
        · have h := h.1 ((bI_0 _).mp c11)
          refine G_iinc (lv' := [(3, aI ((v3 + 1))), (0, aR (40)), (1, aI (v1)), (2, aI (v2))]) (k := 3) rfl rfl (by decide) dX4_ringMiles_72 ?_
          refine G_goto (tgt := 5) dX4_ringMiles_75 (by decide) ?_
          obtain ⟨c12, h⟩ := h
          exact G_pick [1, 2, 3, 0] rfl (h hv1 hv2 c12 hO)
        · have h := h.2 (bI_ne c11)
          refine G_aload_n 0 rfl rfl dX4_ringMiles_36 ?_
          refine G_aload_n 0 rfl rfl dX4_ringMiles_37 ?_
          refine G_get (k := 0) (kd := (2, 1)) (v := aR 1) gf_X4_37 rfl rfl rfl rfl dX4_ringMiles_38 ?_
          refine G_iload_n 3 rfl rfl dX4_ringMiles_41 ?_
          refine G_iload_n 1 rfl rfl dX4_ringMiles_42 ?_
          obtain ⟨c13, h⟩ := h
          refine G_callV (as := [_, _]) cf_X4_93 rfl rfl rfl (sp_X10_across (d - 1) (by omega) _ hO _ hv3 _ hv1 c13) (by omega) rfl rfl (Nat.le_of_ble_eq_true rfl) dX4_ringMiles_43 ?_
          rintro _ _ ⟨_, rfl, rfl, rfl⟩ o15 r14
          refine G_iconst dX4_ringMiles_46 ?_
          refine G_iload_n 3 rfl rfl dX4_ringMiles_47 ?_
          obtain ⟨g16, g17, c18, h⟩ := h
          refine G_callV (as := [_, _, _]) cf_X4_86 rfl rfl rfl (sp_X4_spread (d - 1) (by omega) _ hO _ (r14 _ rfl) _ (rL 1 rfl) _ hv3 g16 g17 c18) (by omega) rfl rfl (Nat.le_of_ble_eq_true rfl) dX4_ringMiles_48 ?_
          rintro _ σ21 ⟨rfl, z23⟩ o20 r19
          have h := h _ o20 z23
          refine G_iload_n 2 rfl rfl dX4_ringMiles_51 ?_
          refine G_aload_n 0 rfl rfl dX4_ringMiles_52 ?_
          refine G_get (k := 2) (kd := (3, 1)) (v := aR (41)) gf_X4_9 rfl rfl rfl rfl dX4_ringMiles_53 ?_
          refine G_iload_n 1 rfl rfl dX4_ringMiles_56 ?_
          obtain ⟨c24, h⟩ := h
          refine G_iald (n := 8) rfl c24.1 c24.2 dX4_ringMiles_57 ?_
          refine G_aload_n 0 rfl rfl dX4_ringMiles_58 ?_
          refine G_get (k := 0) (kd := (2, 1)) (v := aR 1) gf_X4_37 rfl rfl rfl rfl dX4_ringMiles_59 ?_
          refine G_get (k := 2) (kd := (3, 3)) (v := aR (4)) gf_X4_77 rfl rfl rfl rfl dX4_ringMiles_62 ?_
          refine G_iload_n 3 rfl rfl dX4_ringMiles_65 ?_
          obtain ⟨c25, h⟩ := h
          refine G_iald (n := 16) rfl c25.1 c25.2 dX4_ringMiles_66 ?_
          refine G_iadd dX4_ringMiles_67 ?_
          obtain ⟨c26, h⟩ := h
          refine G_mmin rfl hv2 c26 (Nat.le_of_ble_eq_true rfl) sf_X4_80 dX4_ringMiles_68 ?_
          have h := h _ rfl
          refine G_istore_n (lv' := [(2, aI (((min v2 ((σ21 41 v1) + (σ21 4 v3)))))), (0, aR (40)), (1, aI (v1)), (3, aI (v3))]) rfl rfl (by decide) dX4_ringMiles_71 ?_
          refine G_iinc (lv' := [(3, aI ((v3 + 1))), (2, aI (((min v2 ((σ21 41 v1) + (σ21 4 v3)))))), (0, aR (40)), (1, aI (v1))]) (k := 3) rfl rfl (by decide) dX4_ringMiles_72 ?_
          refine G_goto (tgt := 5) dX4_ringMiles_75 (by decide) ?_
          obtain ⟨c28, h⟩ := h
          exact G_pick [2, 3, 1, 0] rfl (h hv1 (r32_min hv2 c26) c28 o20)

theorem sp_X4_ringMiles (d : Nat) (hd : 2 ≤ d) (σ : Mem) (hO : OKm σ) (x1 : Int) (hx1 : R32 x1) (A : Mem) (tx : Nat → Txt) (hpre : vwC σ A tx ∧ (0 ≤ x1 ∧ x1 ≤ 7)) : Mt yX4_ringMiles cX4_ringMiles 4 (some .int) d [aR (40), aI (x1)] σ (QI (fun v σ' => v = ringS A x1 ∧ Fr [41] σ σ')) := mt_X4_ringMiles hd hx1 hO (by
  unfold wp_X4_ringMiles
  intro P5 h5
  obtain ⟨hV, hx⟩ := hpre
  have hI := hV.2.2.1
  have hc := hI.1
  have e8 : σ 1 8 = A 10 0 := hV.1.1.1
  have H : ∀ (n k : Nat) (τ : Mem), k + n = (A 10 0).toNat → (Fr [41] σ τ) → P5 x1 (ringN A x1 k) (k : Int) τ := by
    intro n
    induction n with
    | zero =>
      intro k τ hk hF
      have hk2 : k = (A 10 0).toNat := by omega
      have f8 : τ 1 8 = A 10 0 := by rw [hF 1 (by simp)]; exact e8
      unfold ringS at h5
      rw [if_pos hx, ← hk2] at h5
      exact h5 _ _ _ _ (fun _ _ _ _ => ⟨fun _ => ⟨fun h => ⟨by rw [if_neg (by omega)], hF⟩, fun h => ⟨by rw [if_pos h], hF⟩⟩, fun h => absurd h (by omega)⟩)
    | succ n ih =>
      intro k τ hk hF
      have f8 : τ 1 8 = A 10 0 := by rw [hF 1 (by simp)]; exact e8
      have hVt : vwC τ A tx := hV.fr (scr41 hF)
      have t1 := hVt.1.2.1 (k : Int) (by omega) (by omega)
      have n1 := hVt.2.1.2.1 (k : Int) (by omega) (by omega)
      have s2 : τ 2 (k : Int) = A 11 (k : Int) := t1.1
      have s3 : τ 3 (k : Int) = A 12 (k : Int) := t1.2.1
      have hl := hI.2.1 (k : Int) (by omega) (by omega)
      have hrr := ringN_r (t := x1) hI k (by omega)
      have no : netR A x1 (k : Int) = false → R32 ((k : Int) + 1) ∧ P5 x1 (ringN A x1 k) ((k : Int) + 1) τ := fun h => by
        have ih1 := ih (k + 1) τ (by omega) hF
        have e : ringN A x1 (k + 1) = ringN A x1 k := by show (if _ then _ else _) = _; rw [h]; rfl
        rw [e] at ih1
        exact ⟨by unfold R32; omega, ih1⟩
      refine h5 _ _ _ _ (fun _ _ _ _ => ⟨fun h => absurd h (by omega), fun _ => ?_⟩)
      rw [n1, s2, s3]
      have eac : (if A 11 (k : Int) = x1 then A 12 (k : Int) else A 11 (k : Int)) = acrS A (k : Int) x1 := rfl
      rw [eac]
      have hac := acrS_r (t := x1) hI (r := (k : Int)) (by omega)
      refine ⟨by omega, fun h => no (decide_eq_false (fun q => h q.1)), fun h => ⟨by omega, fun h2 => no (decide_eq_false (fun q => h2 q.2)), fun h2 => ⟨by omega, A, tx, ⟨hVt, hac⟩, ?_⟩⟩⟩
      intro σ21 o21 ⟨q21, f21⟩
      have em : σ21 41 x1 = dst A 1 (k : Int) (acrS A (k : Int) x1) x1 := q21 x1 (by omega) (by omega)
      have s4 : σ21 4 (k : Int) = A 13 (k : Int) := by rw [f21 4 (by simp)]; exact t1.2.2.1
      have hd := dst_r (th := 1) (wo := (k : Int)) (a := acrS A (k : Int) x1) (b := x1) hI
      rw [em, s4]
      refine ⟨by omega, by omega, by unfold R32; omega, fun y hy => ⟨by unfold R32; omega, ?_⟩⟩
      have ih1 := ih (k + 1) σ21 (by omega) (hF.tr f21)
      have e : ringN A x1 (k + 1) = y := by
        show (if _ then _ else _) = _
        rw [if_pos (show netR A x1 (k : Int) = true from decide_eq_true ⟨h, h2⟩)]; exact hy.symm
      rw [e] at ih1; exact ih1
  exact H _ 0 σ (Nat.zero_add _) (Fr.rf _ _))

def wp_X11_ring (x1 : Int) (σ : Mem) (Q : Int → Mem → Prop) : Prop :=
  ((¬ (0 ≤ x1 ∧ x1 ≤ 7)) →
    Q (-1) σ) ∧
   ((0 ≤ x1 ∧ x1 ≤ 7) →
    ∃ g4 : Mem, ∃ g5 : Nat → Txt, (vwC σ g4 g5 ∧ (0 ≤ x1 ∧ x1 ≤ 7)) ∧
    ∀ (u10 : Int) (σ9 : Mem), R32 u10 → OKm σ9 → (u10 = ringS g4 x1 ∧ Fr [41] σ σ9) →
    Q u10 σ9)
theorem mt_X11_ring {d : Nat} (hd : 3 ≤ d) {x1 : Int} {σ : Mem} {Q : Int → Mem → Prop} (hx1 : R32 x1) (hO : OKm σ) (h : wp_X11_ring x1 σ Q) : Mt yX11_ring cX11_ring 2 (some .int) d [aR (0), aI (x1)] σ (QI Q) := by
  refine Mt.intro (by decide +kernel) (Nat.le_of_ble_eq_true rfl) [(0, aR (0)), (1, aI (x1))] rfl ?_
  unfold wp_X11_ring at h
  refine G_iload_n 1 rfl rfl dX11_ring_0 ?_
  refine G_callS (as := [_]) cf_X11_103 rfl (sp_X11_isTown (d - 1) (by omega) _ hO _ hx1) (by omega) rfl rfl (Nat.le_of_ble_eq_true rfl) dX11_ring_1 ?_
  rintro _ _ ⟨_, rfl, rfl, rfl⟩ o2 r1
  refine G_if_eq (bI_R _) dX11_ring_4 (tgt := 18) (by decide) (fun c3 => ?_) (fun c3 => ?_)
  · have h := h.1 ((bI_0 _).mp c3)
    refine G_iconst dX11_ring_18 ?_
    exact G_iret rfl (rL (-1) rfl) dX11_ring_19 ⟨_, rfl, h⟩ hO
  · have h := h.2 (bI_ne c3)
    refine G_aload_n 0 rfl rfl dX11_ring_7 ?_
    refine G_get (k := 11) (kd := (2, 40)) (v := aR 40) gf_X11_85 rfl rfl rfl rfl dX11_ring_8 ?_
    refine G_iload_n 1 rfl rfl dX11_ring_11 ?_
    obtain ⟨g4, g5, c6, h⟩ := h
    refine G_callV (as := [_]) cf_X11_322 rfl rfl rfl (sp_X4_ringMiles (d - 1) (by omega) _ hO _ hx1 g4 g5 c6) (by omega) rfl rfl (Nat.le_of_ble_eq_true rfl) dX11_ring_12 ?_
    rintro _ σ9 ⟨u10, rfl, z11⟩ o8 r7
    have h := h _ _ (r7 _ rfl) o8 z11
    refine G_goto (tgt := 19) dX11_ring_15 (by decide) ?_
    exact G_iret rfl (r7 _ rfl) dX11_ring_19 ⟨_, rfl, h⟩ o8

theorem sp_X11_ring (d : Nat) (hd : 3 ≤ d) (σ : Mem) (hO : OKm σ) (x1 : Int) (hx1 : R32 x1) (A : Mem) (tx : Nat → Txt) (hpre : vwC σ A tx) : Mt yX11_ring cX11_ring 2 (some .int) d [aR (0), aI (x1)] σ (QI (fun v σ' => v = ringS A x1 ∧ Fr ScrC σ σ')) := mt_X11_ring hd hx1 hO (by
  unfold wp_X11_ring
  refine ⟨fun h => ⟨by unfold ringS; rw [if_neg h], Fr.rf _ _⟩, fun h => ⟨A, tx, ⟨hpre, h⟩, ?_⟩⟩
  intro u σ1 hu hO1 ⟨eu, hF⟩
  exact ⟨eu, scr41 hF⟩)

def wp_X12_ring (x1 : Int) (σ : Mem) (Q : Int → Mem → Prop) : Prop :=
 ∀ P15 : Int → Int → Int → Mem → Prop,
 (∀ (v1 : Int) (v2 : Int) (v3 : Int) (σ : Mem), (R32 v1 → R32 v2 → R32 v3 → OKm σ →
   (((σ 75 0) ≤ v3) →
     ((v2 ≠ 1000000) →
      Q v2 σ) ∧
     ((v2 = 1000000) →
      Q (-1) σ)) ∧
    ((v3 < (σ 75 0)) →
     (0 ≤ v3 ∧ v3 < 16) ∧
     ((¬ (0 < σ 75 (11 + v3))) →
      R32 (v3 + 1) ∧ P15 v1 v2 (v3 + 1) σ) ∧
     ((0 < σ 75 (11 + v3)) →
      (0 ≤ v3 ∧ v3 < 16) ∧
      (((if σ 75 (39 + 4 * v3) = v1 then σ 75 (39 + 4 * v3 + 1) else if σ 75 (39 + 4 * v3 + 1) = v1 then σ 75 (39 + 4 * v3) else -1) ≠ (-1)) →
       ∃ g15 : Mem, ∃ g16 : Nat → Txt, (vwM σ g15 g16 ∧ (0 ≤ v1 ∧ v1 ≤ 7)) ∧
       ∀ σ20 : Mem, OKm σ20 → (inF σ20 84 (sprM g15 (1 : Int) v3 v1 8) ∧ vwM σ20 g15 g16 ∧ Fr [84] σ σ20) →
       (0 ≤ v3 ∧ v3 < 16) ∧
       (0 ≤ (if σ20 75 (39 + 4 * v3) = v1 then σ20 75 (39 + 4 * v3 + 1) else if σ20 75 (39 + 4 * v3 + 1) = v1 then σ20 75 (39 + 4 * v3) else -1) ∧ (if σ20 75 (39 + 4 * v3) = v1 then σ20 75 (39 + 4 * v3 + 1) else if σ20 75 (39 + 4 * v3 + 1) = v1 then σ20 75 (39 + 4 * v3) else -1) < 8) ∧
       (0 ≤ v3 ∧ v3 < 16 ∧ 0 ≤ (2 : Int) ∧ (2 : Int) < 4) ∧
       R32 ((σ20 84 (if σ20 75 (39 + 4 * v3) = v1 then σ20 75 (39 + 4 * v3 + 1) else if σ20 75 (39 + 4 * v3 + 1) = v1 then σ20 75 (39 + 4 * v3) else -1)) + (σ20 75 (39 + 4 * v3 + (2 : Int)))) ∧
       ∀ y31 : Int, y31 = ((σ20 84 (if σ20 75 (39 + 4 * v3) = v1 then σ20 75 (39 + 4 * v3 + 1) else if σ20 75 (39 + 4 * v3 + 1) = v1 then σ20 75 (39 + 4 * v3) else -1)) + (σ20 75 (39 + 4 * v3 + (2 : Int)))) →
       ((v2 ≤ y31) →
        R32 (v3 + 1) ∧ P15 v1 v2 (v3 + 1) σ20) ∧
       ((y31 < v2) →
        R32 (v3 + 1) ∧ P15 v1 y31 (v3 + 1) σ20)) ∧
      (((if σ 75 (39 + 4 * v3) = v1 then σ 75 (39 + 4 * v3 + 1) else if σ 75 (39 + 4 * v3 + 1) = v1 then σ 75 (39 + 4 * v3) else -1) = (-1)) →
       R32 (v3 + 1) ∧ P15 v1 v2 (v3 + 1) σ)))) → P15 v1 v2 v3 σ) →
  ((0 ≤ x1 ∧ x1 ≤ 7) →
    P15 x1 1000000 0 σ) ∧
   ((¬ (0 ≤ x1 ∧ x1 ≤ 7)) →
    Q (-1) σ)
theorem mt_X12_ring {d : Nat} (hd : 2 ≤ d) {x1 : Int} {σ : Mem} {Q : Int → Mem → Prop} (hx1 : R32 x1) (hO : OKm σ) (h : wp_X12_ring x1 σ Q) : Mt yX12_ring cX12_ring 5 (some .int) d [aR (74), aI (x1)] σ (QI Q) := by
  refine Mt.intro (by decide +kernel) (Nat.le_of_ble_eq_true rfl) [(0, aR (74)), (1, aI (x1))] rfl ?_
  unfold wp_X12_ring at h
  have h := h (fun (v1 : Int) (v2 : Int) (v3 : Int) (σ : Mem) => R32 v1 → R32 v2 → R32 v3 → OKm σ → G yX12_ring cX12_ring 5 (some .int) d (QI Q) 15 [(0, aR (74)), (1, aI (v1)), (2, aI (v2)), (3, aI (v3))] [] σ) ?_
  · refine G_iload_n 1 rfl rfl dX12_ring_0 ?_
    refine G_callS (as := [_]) cf_X12_89 rfl (sp_X12_isTown (d - 1) (by omega) _ hO _ hx1) (by omega) rfl rfl (Nat.le_of_ble_eq_true rfl) dX12_ring_1 ?_
    rintro _ _ ⟨_, rfl, rfl, rfl⟩ o2 r1
    refine G_if_ne (bI_R _) dX12_ring_4 (tgt := 9) (by decide) (fun c3 => ?_) (fun c3 => ?_)
    · have h := h.1 (bI_ne c3)
      refine G_ldcw (n := 1000000) rfl (by decide) kc_X12_412 dX12_ring_9 ?_
      refine G_istore_n (lv' := [(2, aI (1000000)), (0, aR (74)), (1, aI (x1))]) rfl rfl (by decide) dX12_ring_12 ?_
      refine G_iconst dX12_ring_13 ?_
      refine G_istore_n (lv' := [(3, aI (0)), (2, aI (1000000)), (0, aR (74)), (1, aI (x1))]) rfl rfl (by decide) dX12_ring_14 ?_
      exact G_pick [2, 3, 1, 0] rfl (h hx1 (rL 1000000 rfl) (rL 0 rfl) hO)
    · have h := h.2 ((bI_0 _).mp c3)
      refine G_iconst dX12_ring_7 ?_
      exact G_iret rfl (rL (-1) rfl) dX12_ring_8 ⟨_, rfl, h⟩ hO
  · intro v1 v2 v3 σ h hv1 hv2 hv3 hO
    have h := h hv1 hv2 hv3 hO
    refine G_iload_n 3 rfl rfl dX12_ring_15 ?_
    refine G_aload_n 0 rfl rfl dX12_ring_16 ?_
    refine G_get (k := 0) (kd := (2, 75)) (v := aR 75) gf_X12_7 rfl rfl rfl rfl dX12_ring_17 ?_
    refine G_iconst dX12_ring_20 ?_
    refine G_iald (n := 2119) rfl (by decide) (by decide) dX12_ring_21 ?_
    refine G_icmp_ge hv3 (OKm.i hO 75 0 (isLg_row (show shp 75 = (1, 2119, []) from rfl) _)) dX12_ring_22 (tgt := 92) (by decide) (fun c4 => ?_) (fun c4 => ?_)
    · have h := h.1 c4
      refine G_iload_n 2 rfl rfl dX12_ring_92 ?_
      refine G_ldcw (n := 1000000) rfl (by decide) kc_X12_412 dX12_ring_93 ?_
      refine G_icmp_ne hv2 (rL 1000000 rfl) dX12_ring_96 (tgt := 103) (by decide) (fun c5 => ?_) (fun c5 => ?_)
      · have h := h.1 c5
        refine G_iload_n 2 rfl rfl dX12_ring_103 ?_
        exact G_iret rfl hv2 dX12_ring_104 ⟨_, rfl, h⟩ hO
      · have h := h.2 c5
        refine G_iconst dX12_ring_99 ?_
        refine G_goto (tgt := 104) dX12_ring_100 (by decide) ?_
        exact G_iret rfl (rL (-1) rfl) dX12_ring_104 ⟨_, rfl, h⟩ hO
    · have h := h.2 c4
      refine G_aload_n 0 rfl rfl dX12_ring_25 ?_
      refine G_iload_n 3 rfl rfl dX12_ring_26 ?_
      obtain ⟨c6, h⟩ := h
      refine G_callV (as := [_]) cf_X12_431 rfl rfl rfl (sp_X12_isNet (d - 1) (by omega) _ hO _ hv3 c6) (by omega) rfl rfl (Nat.le_of_ble_eq_true rfl) dX12_ring_27 ?_
      rintro _ _ ⟨_, rfl, rfl, rfl⟩ o8 r7
      refine G_if_eq (bI_R _) dX12_ring_30 (tgt := 86) (by decide) (fun c9 => ?_) (fun c9 => ?_)
      · have h := h.1 ((bI_0 _).mp c9)
        refine G_iinc (lv' := [(3, aI ((v3 + 1))), (0, aR (74)), (1, aI (v1)), (2, aI (v2))]) (k := 3) rfl rfl (by decide) dX12_ring_86 ?_
        refine G_goto (tgt := 15) dX12_ring_89 (by decide) ?_
        obtain ⟨c10, h⟩ := h
        exact G_pick [1, 2, 3, 0] rfl (h hv1 hv2 c10 hO)
      · have h := h.2 (bI_ne c9)
        refine G_aload_n 0 rfl rfl dX12_ring_33 ?_
        refine G_iload_n 3 rfl rfl dX12_ring_34 ?_
        refine G_iload_n 1 rfl rfl dX12_ring_35 ?_
        obtain ⟨c11, h⟩ := h
        refine G_callV (as := [_, _]) cf_X12_339 rfl rfl rfl (sp_X12_other (d - 1) (by omega) _ hO _ hv3 _ hv1 c11) (by omega) rfl rfl (Nat.le_of_ble_eq_true rfl) dX12_ring_36 ?_
        rintro _ _ ⟨_, rfl, rfl, rfl⟩ o13 r12
        refine G_iconst dX12_ring_39 ?_
        refine G_icmp_ne (r12 _ rfl) (rL (-1) rfl) dX12_ring_40 (tgt := 46) (by decide) (fun c14 => ?_) (fun c14 => ?_)
        · have h := h.1 c14
          refine G_aload_n 0 rfl rfl dX12_ring_46 ?_
          refine G_iload_n 1 rfl rfl dX12_ring_47 ?_
          refine G_iconst dX12_ring_48 ?_
          refine G_iload_n 3 rfl rfl dX12_ring_49 ?_
          obtain ⟨g15, g16, c17, h⟩ := h
          refine G_callV (as := [_, _, _]) cf_X12_413 rfl rfl rfl (sp_X12_layFar (d - 1) (by omega) _ hO _ hv1 _ (rL 1 rfl) _ hv3 g15 g16 c17) (by omega) rfl rfl (Nat.le_of_ble_eq_true rfl) dX12_ring_50 ?_
          rintro _ σ20 ⟨rfl, z22⟩ o19 r18
          have h := h _ o19 z22
          refine G_aload_n 0 rfl rfl dX12_ring_53 ?_
          refine G_get (k := 26) (kd := (2, 84)) (v := aR 84) gf_X12_50 rfl rfl rfl rfl dX12_ring_54 ?_
          refine G_aload_n 0 rfl rfl dX12_ring_57 ?_
          refine G_iload_n 3 rfl rfl dX12_ring_58 ?_
          refine G_iload_n 1 rfl rfl dX12_ring_59 ?_
          obtain ⟨c23, h⟩ := h
          refine G_callV (as := [_, _]) cf_X12_339 rfl rfl rfl (sp_X12_other (d - 1) (by omega) _ o19 _ hv3 _ hv1 c23) (by omega) rfl rfl (Nat.le_of_ble_eq_true rfl) dX12_ring_60 ?_
          rintro _ _ ⟨_, rfl, rfl, rfl⟩ o25 r24
          obtain ⟨c26, h⟩ := h
          refine G_iald (n := 8) rfl c26.1 c26.2 dX12_ring_63 ?_
          refine G_aload_n 0 rfl rfl dX12_ring_64 ?_
          refine G_iload_n 3 rfl rfl dX12_ring_65 ?_
          refine G_iconst dX12_ring_66 ?_
          obtain ⟨c27, h⟩ := h
          refine G_callV (as := [_, _]) cf_X12_85 rfl rfl rfl (sp_X12_told (d - 1) (by omega) _ o19 _ hv3 _ (rL 2 rfl) c27) (by omega) rfl rfl (Nat.le_of_ble_eq_true rfl) dX12_ring_67 ?_
          rintro _ _ ⟨_, rfl, rfl, rfl⟩ o29 r28
          refine G_iadd dX12_ring_70 ?_
          obtain ⟨c30, h⟩ := h
          have h := h _ rfl
          refine G_istore (lv' := [(4, aI ((((σ20 84 (if σ20 75 (39 + 4 * v3) = v1 then σ20 75 (39 + 4 * v3 + 1) else if σ20 75 (39 + 4 * v3 + 1) = v1 then σ20 75 (39 + 4 * v3) else -1)) + (σ20 75 (39 + 4 * v3 + (2 : Int))))))), (0, aR (74)), (1, aI (v1)), (2, aI (v2)), (3, aI (v3))]) rfl (by decide) dX12_ring_71 ?_
          refine G_iload 0 rfl dX12_ring_73 ?_
          refine G_iload_n 3 rfl rfl dX12_ring_75 ?_
          refine G_icmp_ge c30 hv2 dX12_ring_76 (tgt := 84) (by decide) (fun c32 => ?_) (fun c32 => ?_)
          · have h := h.1 c32
            refine G_iload_n 3 rfl rfl dX12_ring_84 ?_
            refine G_istore_n (lv' := [(2, aI (v2)), (4, aI ((((σ20 84 (if σ20 75 (39 + 4 * v3) = v1 then σ20 75 (39 + 4 * v3 + 1) else if σ20 75 (39 + 4 * v3 + 1) = v1 then σ20 75 (39 + 4 * v3) else -1)) + (σ20 75 (39 + 4 * v3 + (2 : Int))))))), (0, aR (74)), (1, aI (v1)), (3, aI (v3))]) rfl rfl (by decide) dX12_ring_85 ?_
            refine G_iinc (lv' := [(3, aI ((v3 + 1))), (2, aI (v2)), (4, aI ((((σ20 84 (if σ20 75 (39 + 4 * v3) = v1 then σ20 75 (39 + 4 * v3 + 1) else if σ20 75 (39 + 4 * v3 + 1) = v1 then σ20 75 (39 + 4 * v3) else -1)) + (σ20 75 (39 + 4 * v3 + (2 : Int))))))), (0, aR (74)), (1, aI (v1))]) (k := 4) rfl rfl (by decide) dX12_ring_86 ?_
            refine G_goto (tgt := 15) dX12_ring_89 (by decide) ?_
            obtain ⟨c33, h⟩ := h
            exact G_pick [3, 4, 1, 0] rfl (h hv1 hv2 c33 o19)
          · have h := h.2 c32
            refine G_iload 0 rfl dX12_ring_79 ?_
            refine G_goto (tgt := 85) dX12_ring_81 (by decide) ?_
            refine G_istore_n (lv' := [(2, aI ((((σ20 84 (if σ20 75 (39 + 4 * v3) = v1 then σ20 75 (39 + 4 * v3 + 1) else if σ20 75 (39 + 4 * v3 + 1) = v1 then σ20 75 (39 + 4 * v3) else -1)) + (σ20 75 (39 + 4 * v3 + (2 : Int))))))), (4, aI ((((σ20 84 (if σ20 75 (39 + 4 * v3) = v1 then σ20 75 (39 + 4 * v3 + 1) else if σ20 75 (39 + 4 * v3 + 1) = v1 then σ20 75 (39 + 4 * v3) else -1)) + (σ20 75 (39 + 4 * v3 + (2 : Int))))))), (0, aR (74)), (1, aI (v1)), (3, aI (v3))]) rfl rfl (by decide) dX12_ring_85 ?_
            refine G_iinc (lv' := [(3, aI ((v3 + 1))), (2, aI ((((σ20 84 (if σ20 75 (39 + 4 * v3) = v1 then σ20 75 (39 + 4 * v3 + 1) else if σ20 75 (39 + 4 * v3 + 1) = v1 then σ20 75 (39 + 4 * v3) else -1)) + (σ20 75 (39 + 4 * v3 + (2 : Int))))))), (4, aI ((((σ20 84 (if σ20 75 (39 + 4 * v3) = v1 then σ20 75 (39 + 4 * v3 + 1) else if σ20 75 (39 + 4 * v3 + 1) = v1 then σ20 75 (39 + 4 * v3) else -1)) + (σ20 75 (39 + 4 * v3 + (2 : Int))))))), (0, aR (74)), (1, aI (v1))]) (k := 4) rfl rfl (by decide) dX12_ring_86 ?_
            refine G_goto (tgt := 15) dX12_ring_89 (by decide) ?_
            obtain ⟨c34, h⟩ := h
            exact G_pick [3, 4, 1, 0] rfl (h hv1 c30 c34 o19)
        · have h := h.2 c14
          refine G_goto (tgt := 86) dX12_ring_43 (by decide) ?_
          refine G_iinc (lv' := [(3, aI ((v3 + 1))), (0, aR (74)), (1, aI (v1)), (2, aI (v2))]) (k := 3) rfl rfl (by decide) dX12_ring_86 ?_
          refine G_goto (tgt := 15) dX12_ring_89 (by decide) ?_
          obtain ⟨c35, h⟩ := h
          exact G_pick [1, 2, 3, 0] rfl (h hv1 hv2 c35 hO)

theorem sp_X12_ring (d : Nat) (hd : 2 ≤ d) (σ : Mem) (hO : OKm σ) (x1 : Int) (hx1 : R32 x1) (A : Mem) (tx : Nat → Txt) (hpre : vwM σ A tx) : Mt yX12_ring cX12_ring 5 (some .int) d [aR (74), aI (x1)] σ (QI (fun v σ' => v = ringS A x1 ∧ vwM σ' A tx ∧ Fr F84 σ σ')) := mt_X12_ring hd hx1 hO (by
  unfold wp_X12_ring
  intro P15 h15
  have hV := hpre
  have hI := hV.2.2.1
  have hc := hI.1
  have e0 : σ 75 0 = A 10 0 := hV.1.1.1
  have e1 : σ 75 1 = A 10 1 := hV.1.1.2.1
  refine ⟨fun hx => ?_, fun h => ⟨by unfold ringS; rw [if_neg h], hV, Fr.rf _ _⟩⟩
  have H : ∀ (n k : Nat) (τ : Mem), k + n = (A 10 0).toNat → (vwM τ A tx) → (Fr F84 σ τ) → P15 x1 (ringN A x1 k) (k : Int) τ := by
    intro n
    induction n with
    | zero =>
      intro k τ hk hVt hF
      have hk2 : k = (A 10 0).toNat := by omega
      have f8 : τ 75 0 = A 10 0 := hVt.1.1.1
      have hrr := ringN_r (t := x1) hI k (by omega)
      unfold ringS at h15
      rw [if_pos hx, ← hk2] at h15
      exact h15 _ _ _ _ (fun _ _ _ _ => ⟨fun _ => ⟨fun h => ⟨by rw [if_pos (by omega)], hVt, hF⟩, fun h => ⟨by rw [if_neg (by omega)], hVt, hF⟩⟩, fun h => absurd h (by omega)⟩)
    | succ n ih =>
      intro k τ hk hVt hF
      have f8 : τ 75 0 = A 10 0 := hVt.1.1.1
      have t1 := hVt.1.2.1 (k : Int) (by omega) (by omega)
      have n1 := hVt.2.1.2.1 (k : Int) (by omega) (by omega)
      have hl := hI.2.1 (k : Int) (by omega) (by omega)
      have hrr := ringN_r (t := x1) hI k (by omega)
      have no : netR A x1 (k : Int) = false → R32 ((k : Int) + 1) ∧ P15 x1 (ringN A x1 k) ((k : Int) + 1) τ := fun h => by
        have ih1 := ih (k + 1) τ (by omega) hVt hF
        have e : ringN A x1 (k + 1) = ringN A x1 k := by show (if _ then _ else _) = _; rw [h]; rfl
        rw [e] at ih1
        exact ⟨by unfold R32; omega, ih1⟩
      have hac := acrS_r (t := x1) hI (r := (k : Int)) (by omega)
      refine h15 _ _ _ _ (fun _ _ _ _ => ⟨fun h => absurd h (by omega), fun _ => ?_⟩)
      rw [n1, t1.1, t1.2.1]
      refine ⟨by omega, fun h => no (decide_eq_false (fun q => h q.1)), fun h => ⟨by omega, fun h2 => ⟨A, tx, ⟨hVt, hx⟩, ?_⟩, fun h2 => no (decide_eq_false (fun q => ?_))⟩⟩
      rotate_left
      · have hl1 := hl.1
        by_cases q1 : A 11 (k : Int) = x1
        · rw [if_pos q1] at h2; omega
        · rw [if_neg q1, if_pos (by have := q.2; omega)] at h2; omega
      have htch : A 11 (k : Int) = x1 ∨ A 12 (k : Int) = x1 := by
        by_cases q1 : A 11 (k : Int) = x1
        · exact Or.inl q1
        · by_cases q2 : A 12 (k : Int) = x1
          · exact Or.inr q2
          · rw [if_neg q1, if_neg q2] at h2; exact absurd rfl h2
      have eac : (if A 11 (k : Int) = x1 then A 12 (k : Int) else if A 12 (k : Int) = x1 then A 11 (k : Int) else -1) = acrS A (k : Int) x1 := by
        unfold acrS
        by_cases q : A 11 (k : Int) = x1
        · rw [if_pos q, if_pos q]
        · rw [if_neg q, if_neg q, if_pos (by omega)]
      intro σ20 o20 ⟨q20, hV20, f20⟩
      have u1 := hV20.1.2.1 (k : Int) (by omega) (by omega)
      rw [u1.1, u1.2.1, u1.2.2.1, eac]
      have em : σ20 84 (acrS A (k : Int) x1) = dst A 1 (k : Int) (acrS A (k : Int) x1) x1 := by
        rw [q20 _ hac.1 (by omega), dst_M hI hx, dst_sm hI hx hac]
      have hd := dst_r (th := 1) (wo := (k : Int)) (a := acrS A (k : Int) x1) (b := x1) hI
      rw [em]
      refine ⟨by omega, by omega, by omega, by unfold R32; omega, fun y hy => ?_⟩
      have ih1 := ih (k + 1) σ20 (by omega) hV20 (hF.tr (f20.wk (by simp)))
      have e : ringN A x1 (k + 1) = min (ringN A x1 k) y := by
        show (if _ then _ else _) = _
        rw [if_pos (show netR A x1 (k : Int) = true from decide_eq_true ⟨h, htch⟩), hy]
      rw [e] at ih1
      refine ⟨fun h3 => ⟨by unfold R32; omega, ?_⟩, fun h3 => ⟨by unfold R32; omega, ?_⟩⟩
      · rw [show min (ringN A x1 k) y = ringN A x1 k by omega] at ih1; exact ih1
      · rw [show min (ringN A x1 k) y = y by omega] at ih1; exact ih1
  exact H _ 0 σ (Nat.zero_add _) hV (Fr.rf _ _))
