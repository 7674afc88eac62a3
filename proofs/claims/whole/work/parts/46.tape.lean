theorem bAnd_255 (x : Int) : 0 ≤ bAnd x 255 ∧ bAnd x 255 ≤ 255 := by
  have e : Int32.ofInt x &&& Int32.ofInt 255 = Int32.ofBitVec ((Int32.ofInt x).toBitVec &&& (255#32)) := rfl
  have hle : ((Int32.ofInt x).toBitVec &&& (255#32)).toNat ≤ 255 := by
    rw [BitVec.toNat_and]; exact Nat.and_le_right
  unfold bAnd
  rw [e, toInt_bv _ (by omega)]
  omega
def putX (X : Mem) (b : Int) : Mem := mset (mset X 1 (X 0 0) b) 0 0 (X 0 0 + 1)
def fourX (X : Mem) (v : Int) : Mem := putX (putX (putX (putX X (bAnd (bShr v 24) 255)) (bAnd (bShr v 16) 255)) (bAnd (bShr v 8) 255)) (bAnd (bShr v 0) 255)
def feedX (X : Mem) (a b c d e : Int) : Mem := fourX (fourX (fourX (fourX (fourX X a) b) c) d) e
def endX (X : Mem) (n : Int) : Mem := mset X 0 0 n
theorem putX_n (X : Mem) (b : Int) : putX X b 0 0 = X 0 0 + 1 := by unfold putX; rw [mset_self]
theorem fourX_n (X : Mem) (v : Int) : fourX X v 0 0 = X 0 0 + 4 := by unfold fourX; rw [putX_n, putX_n, putX_n, putX_n]; omega
theorem okX.put {X : Mem} {b : Int} (h : okX X) (hn : X 0 0 < 300) (hb : 0 ≤ b ∧ b ≤ 255) : okX (putX X b) := by
  refine ⟨by rw [putX_n]; have := h.1; omega, fun i => ?_⟩
  unfold putX
  rw [mset_off (by omega), mset_same]
  split
  · exact hb
  · exact h.2 i
theorem okX.four {X : Mem} {v : Int} (h : okX X) (hn : X 0 0 + 4 ≤ 300) : okX (fourX X v) := by
  unfold fourX
  exact ((((h.put (by omega) (bAnd_255 _)).put (by rw [putX_n]; omega) (bAnd_255 _)).put (by rw [putX_n, putX_n]; omega) (bAnd_255 _)).put (by rw [putX_n, putX_n, putX_n]; omega) (bAnd_255 _))
theorem tapC.put {σ X : Mem} {b : Int} (h : tapC σ X) : tapC (mset (mset σ 31 (X 0 0) b) 30 1 (X 0 0 + 1)) (putX X b) := by
  obtain ⟨h0, h1, h2, h3⟩ := h
  unfold putX
  refine ⟨by rw [mset_self, mset_self], fun i x y => ?_, by simp (disch := omega) only [mset_off, mset_hit, mset_miss, mcpy_off, mcpy_hit, mcpy_miss, mrow_off, mrow_same]; exact h2, by simp (disch := omega) only [mset_off, mset_hit, mset_miss, mcpy_off, mcpy_hit, mcpy_miss, mrow_off, mrow_same]; exact h3⟩
  rw [mset_self] at y
  by_cases e : i = X 0 0
  · subst e; simp (disch := omega) only [mset_off, mset_hit, mset_miss, mcpy_off, mcpy_hit, mcpy_miss, mrow_off, mrow_same]
  · simp (disch := omega) only [mset_off, mset_hit, mset_miss, mcpy_off, mcpy_hit, mcpy_miss, mrow_off, mrow_same]; exact h1 i x (by omega)
theorem tapM.put {σ X : Mem} {b : Int} (h : tapM σ X) : tapM (mset (mset σ 78 (X 0 0) b) 74 4 (X 0 0 + 1)) (putX X b) := by
  obtain ⟨h0, h1, h2, h3⟩ := h
  unfold putX
  refine ⟨by rw [mset_self, mset_self], fun i x y => ?_, by simp (disch := omega) only [mset_off, mset_hit, mset_miss, mcpy_off, mcpy_hit, mcpy_miss, mrow_off, mrow_same]; exact h2, by simp (disch := omega) only [mset_off, mset_hit, mset_miss, mcpy_off, mcpy_hit, mcpy_miss, mrow_off, mrow_same]; exact h3⟩
  rw [mset_self] at y
  by_cases e : i = X 0 0
  · subst e; simp (disch := omega) only [mset_off, mset_hit, mset_miss, mcpy_off, mcpy_hit, mcpy_miss, mrow_off, mrow_same]
  · simp (disch := omega) only [mset_off, mset_hit, mset_miss, mcpy_off, mcpy_hit, mcpy_miss, mrow_off, mrow_same]; exact h1 i x (by omega)

def wp_X8_take (x1 : Int) (σ : Mem) (Q : Mem → Prop) : Prop :=
 ∀ P3 : Int → Int → Mem → Prop,
 (∀ (v1 : Int) (v2 : Int) (σ : Mem), (R32 v1 → R32 v2 → OKm σ →
   ((v2 < 0) →
     Q σ) ∧
    ((0 ≤ v2) →
     ((300 ≤ (σ 30 1)) →
      Q σ) ∧
     (((σ 30 1) < 300) →
      (0 ≤ (σ 30 1) ∧ (σ 30 1) < 300) ∧
      ∀ σ4 : Mem, σ4 = mset σ 31 (σ 30 1) (bAnd (bShr v1 v2) 255) →
      R32 ((σ4 30 1) + 1) ∧
      ∀ σ7 : Mem, σ7 = mset σ4 30 1 ((σ4 30 1) + 1) →
      R32 (v2 + (-8)) ∧ P3 v1 (v2 + (-8)) σ7))) → P3 v1 v2 σ) →
  P3 x1 24 σ
theorem mt_X8_take {d : Nat} (hd : 0 ≤ d) {x1 : Int} {σ : Mem} {Q : Mem → Prop} (hx1 : R32 x1) (hO : OKm σ) (h : wp_X8_take x1 σ Q) : Mt yX8_take cX8_take 3 none d [aR (30), aI (x1)] σ (QV Q) := by
  refine Mt.intro (by decide +kernel) (Nat.le_of_ble_eq_true rfl) [(0, aR (30)), (1, aI (x1))] rfl ?_
  unfold wp_X8_take at h
  have h := h (fun (v1 : Int) (v2 : Int) (σ : Mem) => R32 v1 → R32 v2 → OKm σ → G yX8_take cX8_take 3 none d (QV Q) 3 [(0, aR (30)), (1, aI (v1)), (2, aI (v2))] [] σ) ?_
  · refine G_bipush (by decide) dX8_take_0 ?_
    refine G_istore_n (lv' := [(2, aI (24)), (0, aR (30)), (1, aI (x1))]) rfl rfl (by decide) dX8_take_2 ?_
    exact G_pick [1, 2, 0] rfl (h hx1 (rL 24 rfl) hO)
  · intro v1 v2 σ h hv1 hv2 hO
    have h := h hv1 hv2 hO
    refine G_iload_n 2 rfl rfl dX8_take_3 ?_
    refine G_if_lt hv2 dX8_take_4 (tgt := 49) (by decide) (fun c1 => ?_) (fun c1 => ?_)
    · have h := h.1 c1
      exact G_vret rfl dX8_take_49 ⟨rfl, h⟩ hO
    · have h := h.2 c1
      refine G_aload_n 0 rfl rfl dX8_take_7 ?_
      refine G_get (k := 1) (kd := (0, 0)) (v := aI (σ 30 1)) gf_X8_15 rfl rfl rfl rfl dX8_take_8 ?_
      refine G_sipush (by decide) dX8_take_11 ?_
      refine G_icmp_ge (OKm.i hO 30 1 rfl) (rL 300 rfl) dX8_take_14 (tgt := 49) (by decide) (fun c2 => ?_) (fun c2 => ?_)
      · have h := h.1 c2
        exact G_vret rfl dX8_take_49 ⟨rfl, h⟩ hO
      · have h := h.2 c2
        refine G_aload_n 0 rfl rfl dX8_take_17 ?_
        refine G_get (k := 0) (kd := (3, 1)) (v := aR (31)) gf_X8_9 rfl rfl rfl rfl dX8_take_18 ?_
        refine G_aload_n 0 rfl rfl dX8_take_21 ?_
        refine G_get (k := 1) (kd := (0, 0)) (v := aI (σ 30 1)) gf_X8_15 rfl rfl rfl rfl dX8_take_22 ?_
        refine G_iload_n 1 rfl rfl dX8_take_25 ?_
        refine G_iload_n 2 rfl rfl dX8_take_26 ?_
        refine G_ishr dX8_take_27 ?_
        refine G_sipush (by decide) dX8_take_28 ?_
        refine G_iand dX8_take_31 ?_
        obtain ⟨c3, h⟩ := h
        obtain ⟨σ4, e6⟩ : ∃ τ : Mem, τ = mset σ 31 (σ 30 1) (bAnd (bShr v1 v2) 255) := ⟨_, rfl⟩
        have h := h σ4 e6
        have o5 : OKm σ4 := by rw [e6]; exact OKm.seti hO _ _ _ (r32_of _) (isLg_row (show shp 31 = (1, 300, []) from rfl) _)
        refine G_iast (n := 300) rfl c3.1 c3.2 dX8_take_32 ?_
        rw [← e6]
        refine G_aload_n 0 rfl rfl dX8_take_33 ?_
        refine G_dup rfl dX8_take_34 ?_
        refine G_get (k := 1) (kd := (0, 0)) (v := aI (σ4 30 1)) gf_X8_15 rfl rfl rfl rfl dX8_take_35 ?_
        refine G_iconst dX8_take_38 ?_
        refine G_iadd dX8_take_39 ?_
        obtain ⟨c8, h⟩ := h
        obtain ⟨σ7, e10⟩ : ∃ τ : Mem, τ = mset σ4 30 1 ((σ4 30 1) + 1) := ⟨_, rfl⟩
        have h := h σ7 e10
        have o9 : OKm σ7 := by rw [e10]; exact OKm.seti o5 _ _ _ c8 rfl
        refine G_put (k := 1) (ki := 1) (kd := (0, 0)) (x := _) pf_X8_15 rfl rfl rfl rfl (fa_i (mset_self _ _ _ _)) (fun _ => rfl) (fun _ => rfl) dX8_take_40 ?_
        rw [← e10]
        refine G_iinc (lv' := [(2, aI ((v2 + (-8)))), (0, aR (30)), (1, aI (v1))]) (k := 2) rfl rfl (by decide) dX8_take_43 ?_
        refine G_goto (tgt := 3) dX8_take_46 (by decide) ?_
        obtain ⟨c11, h⟩ := h
        exact G_pick [1, 2, 0] rfl (h hv1 c11 o9)

theorem sp_X8_take (d : Nat) (hd : 0 ≤ d) (σ : Mem) (hO : OKm σ) (x1 : Int) (hx1 : R32 x1) (X : Mem) (hpre : tapC σ X ∧ (0 ≤ X 0 0 ∧ X 0 0 + 4 ≤ 300)) : Mt yX8_take cX8_take 3 none d [aR (30), aI (x1)] σ (QV (fun σ' => tapC σ' (fourX X x1) ∧ Fr [30, 31] σ σ' ∧ (∀ j : Int, j ≠ 1 → σ' 30 j = σ 30 j))) := mt_X8_take hd hx1 hO (by
  unfold wp_X8_take
  intro P3 h3
  obtain ⟨hT, hn⟩ := hpre
  have step : ∀ (Y : Mem) (τ : Mem) (s : Int), 0 ≤ s → s ≤ 24 → tapC τ Y → (0 ≤ Y 0 0 ∧ Y 0 0 < 300) → Fr [30, 31] σ τ → (∀ j : Int, j ≠ 1 → τ 30 j = σ 30 j) → (∀ τ' : Mem, tapC τ' (putX Y (bAnd (bShr x1 s) 255)) → Fr [30, 31] σ τ' → (∀ j : Int, j ≠ 1 → τ' 30 j = σ 30 j) → P3 x1 (s + (-8)) τ') → P3 x1 s τ := by
    intro Y τ s hs0 hs1 hTY hY hF hj hk
    refine h3 _ _ _ (fun _ _ _ => ⟨fun h => absurd h (by omega), fun _ => ⟨fun h => absurd h (by rw [hTY.1]; omega), fun _ => ?_⟩⟩)
    rw [hTY.1]
    refine ⟨hY, fun σ4 e4 => ?_⟩
    have f : σ4 30 1 = Y 0 0 := by rw [e4, mset_off (by omega)]; exact hTY.1
    rw [f]
    refine ⟨by unfold R32; omega, fun σ7 e7 => ⟨by unfold R32; omega, hk σ7 ?_ (by rw [e7, e4]; exact (hF.set (by simp)).set (by simp)) (fun j h1 => by rw [e7, mset_miss h1, e4, mset_off (by omega)]; exact hj j h1)⟩⟩
    rw [e7, e4]; exact hTY.put
  refine step X σ 24 (by omega) (by omega) hT (by omega) (Fr.rf _ _) (fun _ _ => rfl) (fun τ1 t1 f1 j1 => ?_)
  refine step _ τ1 16 (by omega) (by omega) t1 (by rw [putX_n]; omega) f1 j1 (fun τ2 t2 f2 j2 => ?_)
  refine step _ τ2 8 (by omega) (by omega) t2 (by rw [putX_n, putX_n]; omega) f2 j2 (fun τ3 t3 f3 j3 => ?_)
  refine step _ τ3 0 (by omega) (by omega) t3 (by rw [putX_n, putX_n, putX_n]; omega) f3 j3 (fun τ4 t4 f4 j4 => ?_)
  exact h3 _ _ _ (fun _ _ _ => ⟨fun _ => ⟨t4, f4, j4⟩, fun h => absurd h (by omega)⟩))

def wp_X12_four (x1 : Int) (σ : Mem) (Q : Mem → Prop) : Prop :=
 ∀ P3 : Int → Int → Mem → Prop,
 (∀ (v1 : Int) (v2 : Int) (σ : Mem), (R32 v1 → R32 v2 → OKm σ →
   ((v2 < 0) →
     Q σ) ∧
    ((0 ≤ v2) →
     (0 ≤ (σ 74 4) ∧ (σ 74 4) < 300) ∧
     ∀ σ3 : Mem, σ3 = mset σ 78 (σ 74 4) (bAnd (bShr v1 v2) 255) →
     R32 ((σ3 74 4) + 1) ∧
     ∀ σ6 : Mem, σ6 = mset σ3 74 4 ((σ3 74 4) + 1) →
     R32 (v2 + (-8)) ∧ P3 v1 (v2 + (-8)) σ6)) → P3 v1 v2 σ) →
  P3 x1 24 σ
theorem mt_X12_four {d : Nat} (hd : 0 ≤ d) {x1 : Int} {σ : Mem} {Q : Mem → Prop} (hx1 : R32 x1) (hO : OKm σ) (h : wp_X12_four x1 σ Q) : Mt yX12_four cX12_four 3 none d [aR (74), aI (x1)] σ (QV Q) := by
  refine Mt.intro (by decide +kernel) (Nat.le_of_ble_eq_true rfl) [(0, aR (74)), (1, aI (x1))] rfl ?_
  unfold wp_X12_four at h
  have h := h (fun (v1 : Int) (v2 : Int) (σ : Mem) => R32 v1 → R32 v2 → OKm σ → G yX12_four cX12_four 3 none d (QV Q) 3 [(0, aR (74)), (1, aI (v1)), (2, aI (v2))] [] σ) ?_
  · refine G_bipush (by decide) dX12_four_0 ?_
    refine G_istore_n (lv' := [(2, aI (24)), (0, aR (74)), (1, aI (x1))]) rfl rfl (by decide) dX12_four_2 ?_
    exact G_pick [1, 2, 0] rfl (h hx1 (rL 24 rfl) hO)
  · intro v1 v2 σ h hv1 hv2 hO
    have h := h hv1 hv2 hO
    refine G_iload_n 2 rfl rfl dX12_four_3 ?_
    refine G_if_lt hv2 dX12_four_4 (tgt := 39) (by decide) (fun c1 => ?_) (fun c1 => ?_)
    · have h := h.1 c1
      exact G_vret rfl dX12_four_39 ⟨rfl, h⟩ hO
    · have h := h.2 c1
      refine G_aload_n 0 rfl rfl dX12_four_7 ?_
      refine G_get (k := 3) (kd := (2, 78)) (v := aR 78) gf_X12_19 rfl rfl rfl rfl dX12_four_8 ?_
      refine G_aload_n 0 rfl rfl dX12_four_11 ?_
      refine G_get (k := 4) (kd := (0, 0)) (v := aI (σ 74 4)) gf_X12_97 rfl rfl rfl rfl dX12_four_12 ?_
      refine G_iload_n 1 rfl rfl dX12_four_15 ?_
      refine G_iload_n 2 rfl rfl dX12_four_16 ?_
      refine G_ishr dX12_four_17 ?_
      refine G_sipush (by decide) dX12_four_18 ?_
      refine G_iand dX12_four_21 ?_
      obtain ⟨c2, h⟩ := h
      obtain ⟨σ3, e5⟩ : ∃ τ : Mem, τ = mset σ 78 (σ 74 4) (bAnd (bShr v1 v2) 255) := ⟨_, rfl⟩
      have h := h σ3 e5
      have o4 : OKm σ3 := by rw [e5]; exact OKm.seti hO _ _ _ (r32_of _) (isLg_row (show shp 78 = (1, 300, []) from rfl) _)
      refine G_iast (n := 300) rfl c2.1 c2.2 dX12_four_22 ?_
      rw [← e5]
      refine G_aload_n 0 rfl rfl dX12_four_23 ?_
      refine G_dup rfl dX12_four_24 ?_
      refine G_get (k := 4) (kd := (0, 0)) (v := aI (σ3 74 4)) gf_X12_97 rfl rfl rfl rfl dX12_four_25 ?_
      refine G_iconst dX12_four_28 ?_
      refine G_iadd dX12_four_29 ?_
      obtain ⟨c7, h⟩ := h
      obtain ⟨σ6, e9⟩ : ∃ τ : Mem, τ = mset σ3 74 4 ((σ3 74 4) + 1) := ⟨_, rfl⟩
      have h := h σ6 e9
      have o8 : OKm σ6 := by rw [e9]; exact OKm.seti o4 _ _ _ c7 rfl
      refine G_put (k := 4) (ki := 4) (kd := (0, 0)) (x := _) pf_X12_97 rfl rfl rfl rfl (fa_i (mset_self _ _ _ _)) (fun _ => rfl) (fun _ => rfl) dX12_four_30 ?_
      rw [← e9]
      refine G_iinc (lv' := [(2, aI ((v2 + (-8)))), (0, aR (74)), (1, aI (v1))]) (k := 2) rfl rfl (by decide) dX12_four_33 ?_
      refine G_goto (tgt := 3) dX12_four_36 (by decide) ?_
      obtain ⟨c10, h⟩ := h
      exact G_pick [1, 2, 0] rfl (h hv1 c10 o8)

theorem sp_X12_four (d : Nat) (hd : 0 ≤ d) (σ : Mem) (hO : OKm σ) (x1 : Int) (hx1 : R32 x1) (X : Mem) (hpre : tapM σ X ∧ (0 ≤ X 0 0 ∧ X 0 0 + 4 ≤ 300)) : Mt yX12_four cX12_four 3 none d [aR (74), aI (x1)] σ (QV (fun σ' => tapM σ' (fourX X x1) ∧ Fr [74, 78] σ σ' ∧ (∀ j : Int, j ≠ 4 → σ' 74 j = σ 74 j))) := mt_X12_four hd hx1 hO (by
  unfold wp_X12_four
  intro P3 h3
  obtain ⟨hT, hn⟩ := hpre
  have step : ∀ (Y : Mem) (τ : Mem) (s : Int), 0 ≤ s → s ≤ 24 → tapM τ Y → (0 ≤ Y 0 0 ∧ Y 0 0 < 300) → Fr [74, 78] σ τ → (∀ j : Int, j ≠ 4 → τ 74 j = σ 74 j) → (∀ τ' : Mem, tapM τ' (putX Y (bAnd (bShr x1 s) 255)) → Fr [74, 78] σ τ' → (∀ j : Int, j ≠ 4 → τ' 74 j = σ 74 j) → P3 x1 (s + (-8)) τ') → P3 x1 s τ := by
    intro Y τ s hs0 hs1 hTY hY hF hj hk
    refine h3 _ _ _ (fun _ _ _ => ⟨fun h => absurd h (by omega), fun _ => ?_⟩)
    rw [hTY.1]
    refine ⟨hY, fun σ4 e4 => ?_⟩
    have f : σ4 74 4 = Y 0 0 := by rw [e4, mset_off (by omega)]; exact hTY.1
    rw [f]
    refine ⟨by unfold R32; omega, fun σ7 e7 => ⟨by unfold R32; omega, hk σ7 ?_ (by rw [e7, e4]; exact (hF.set (by simp)).set (by simp)) (fun j h1 => by rw [e7, mset_miss h1, e4, mset_off (by omega)]; exact hj j h1)⟩⟩
    rw [e7, e4]; exact hTY.put
  refine step X σ 24 (by omega) (by omega) hT (by omega) (Fr.rf _ _) (fun _ _ => rfl) (fun τ1 t1 f1 j1 => ?_)
  refine step _ τ1 16 (by omega) (by omega) t1 (by rw [putX_n]; omega) f1 j1 (fun τ2 t2 f2 j2 => ?_)
  refine step _ τ2 8 (by omega) (by omega) t2 (by rw [putX_n, putX_n]; omega) f2 j2 (fun τ3 t3 f3 j3 => ?_)
  refine step _ τ3 0 (by omega) (by omega) t3 (by rw [putX_n, putX_n, putX_n]; omega) f3 j3 (fun τ4 t4 f4 j4 => ?_)
  exact h3 _ _ _ (fun _ _ _ => ⟨fun _ => ⟨t4, f4, j4⟩, fun h => absurd h (by omega)⟩))

def wp_X11_feed (x1 : Int) (x2 : Int) (x3 : Int) (x4 : Int) (x5 : Int) (σ : Mem) (Q : Int → Mem → Prop) : Prop :=
  R32 ((σ 30 1) + 20) ∧
   ((((σ 30 1) + 20) ≤ 300) →
    ∃ g3 : Mem, (tapC σ g3 ∧ (0 ≤ g3 0 0 ∧ g3 0 0 + 4 ≤ 300)) ∧
    ∀ σ7 : Mem, OKm σ7 → (tapC σ7 (fourX g3 x1) ∧ Fr [30, 31] σ σ7 ∧ (∀ j : Int, j ≠ 1 → σ7 30 j = σ 30 j)) →
    ∃ g10 : Mem, (tapC σ7 g10 ∧ (0 ≤ g10 0 0 ∧ g10 0 0 + 4 ≤ 300)) ∧
    ∀ σ14 : Mem, OKm σ14 → (tapC σ14 (fourX g10 x2) ∧ Fr [30, 31] σ7 σ14 ∧ (∀ j : Int, j ≠ 1 → σ14 30 j = σ7 30 j)) →
    ∃ g17 : Mem, (tapC σ14 g17 ∧ (0 ≤ g17 0 0 ∧ g17 0 0 + 4 ≤ 300)) ∧
    ∀ σ21 : Mem, OKm σ21 → (tapC σ21 (fourX g17 x3) ∧ Fr [30, 31] σ14 σ21 ∧ (∀ j : Int, j ≠ 1 → σ21 30 j = σ14 30 j)) →
    ∃ g24 : Mem, (tapC σ21 g24 ∧ (0 ≤ g24 0 0 ∧ g24 0 0 + 4 ≤ 300)) ∧
    ∀ σ28 : Mem, OKm σ28 → (tapC σ28 (fourX g24 x4) ∧ Fr [30, 31] σ21 σ28 ∧ (∀ j : Int, j ≠ 1 → σ28 30 j = σ21 30 j)) →
    ∃ g31 : Mem, (tapC σ28 g31 ∧ (0 ≤ g31 0 0 ∧ g31 0 0 + 4 ≤ 300)) ∧
    ∀ σ35 : Mem, OKm σ35 → (tapC σ35 (fourX g31 x5) ∧ Fr [30, 31] σ28 σ35 ∧ (∀ j : Int, j ≠ 1 → σ35 30 j = σ28 30 j)) →
    Q (σ35 30 1) σ35) ∧
   ((300 < ((σ 30 1) + 20)) →
    Q (-1) σ)
theorem mt_X11_feed {d : Nat} (hd : 1 ≤ d) {x1 : Int} {x2 : Int} {x3 : Int} {x4 : Int} {x5 : Int} {σ : Mem} {Q : Int → Mem → Prop} (hx1 : R32 x1) (hx2 : R32 x2) (hx3 : R32 x3) (hx4 : R32 x4) (hx5 : R32 x5) (hO : OKm σ) (h : wp_X11_feed x1 x2 x3 x4 x5 σ Q) : Mt yX11_feed cX11_feed 6 (some .int) d [aR (0), aI (x1), aI (x2), aI (x3), aI (x4), aI (x5)] σ (QI Q) := by
  refine Mt.intro (by decide +kernel) (Nat.le_of_ble_eq_true rfl) [(0, aR (0)), (1, aI (x1)), (2, aI (x2)), (3, aI (x3)), (4, aI (x4)), (5, aI (x5))] rfl ?_
  unfold wp_X11_feed at h
  refine G_aload_n 0 rfl rfl dX11_feed_0 ?_
  refine G_get (k := 7) (kd := (2, 30)) (v := aR 30) gf_X11_49 rfl rfl rfl rfl dX11_feed_1 ?_
  refine G_get (k := 1) (kd := (0, 0)) (v := aI (σ 30 1)) gf_X11_119 rfl rfl rfl rfl dX11_feed_4 ?_
  refine G_bipush (by decide) dX11_feed_7 ?_
  refine G_iadd dX11_feed_9 ?_
  refine G_sipush (by decide) dX11_feed_10 ?_
  obtain ⟨c1, h⟩ := h
  refine G_icmp_le c1 (rL 300 rfl) dX11_feed_13 (tgt := 18) (by decide) (fun c2 => ?_) (fun c2 => ?_)
  · have h := h.1 c2
    refine G_aload_n 0 rfl rfl dX11_feed_18 ?_
    refine G_get (k := 7) (kd := (2, 30)) (v := aR 30) gf_X11_49 rfl rfl rfl rfl dX11_feed_19 ?_
    refine G_iload_n 1 rfl rfl dX11_feed_22 ?_
    obtain ⟨g3, c4, h⟩ := h
    refine G_callV (as := [_]) cf_X11_123 rfl rfl rfl (sp_X8_take (d - 1) (by omega) _ hO _ hx1 g3 c4) (by omega) rfl rfl (Nat.le_of_ble_eq_true rfl) dX11_feed_23 ?_
    rintro _ σ7 ⟨rfl, z9⟩ o6 r5
    have h := h _ o6 z9
    refine G_aload_n 0 rfl rfl dX11_feed_26 ?_
    refine G_get (k := 7) (kd := (2, 30)) (v := aR 30) gf_X11_49 rfl rfl rfl rfl dX11_feed_27 ?_
    refine G_iload_n 2 rfl rfl dX11_feed_30 ?_
    obtain ⟨g10, c11, h⟩ := h
    refine G_callV (as := [_]) cf_X11_123 rfl rfl rfl (sp_X8_take (d - 1) (by omega) _ o6 _ hx2 g10 c11) (by omega) rfl rfl (Nat.le_of_ble_eq_true rfl) dX11_feed_31 ?_
    rintro _ σ14 ⟨rfl, z16⟩ o13 r12
    have h := h _ o13 z16
    refine G_aload_n 0 rfl rfl dX11_feed_34 ?_
    refine G_get (k := 7) (kd := (2, 30)) (v := aR 30) gf_X11_49 rfl rfl rfl rfl dX11_feed_35 ?_
    refine G_iload_n 3 rfl rfl dX11_feed_38 ?_
    obtain ⟨g17, c18, h⟩ := h
    refine G_callV (as := [_]) cf_X11_123 rfl rfl rfl (sp_X8_take (d - 1) (by omega) _ o13 _ hx3 g17 c18) (by omega) rfl rfl (Nat.le_of_ble_eq_true rfl) dX11_feed_39 ?_
    rintro _ σ21 ⟨rfl, z23⟩ o20 r19
    have h := h _ o20 z23
    refine G_aload_n 0 rfl rfl dX11_feed_42 ?_
    refine G_get (k := 7) (kd := (2, 30)) (v := aR 30) gf_X11_49 rfl rfl rfl rfl dX11_feed_43 ?_
    refine G_iload 4 rfl dX11_feed_46 ?_
    obtain ⟨g24, c25, h⟩ := h
    refine G_callV (as := [_]) cf_X11_123 rfl rfl rfl (sp_X8_take (d - 1) (by omega) _ o20 _ hx4 g24 c25) (by omega) rfl rfl (Nat.le_of_ble_eq_true rfl) dX11_feed_48 ?_
    rintro _ σ28 ⟨rfl, z30⟩ o27 r26
    have h := h _ o27 z30
    refine G_aload_n 0 rfl rfl dX11_feed_51 ?_
    refine G_get (k := 7) (kd := (2, 30)) (v := aR 30) gf_X11_49 rfl rfl rfl rfl dX11_feed_52 ?_
    refine G_iload 5 rfl dX11_feed_55 ?_
    obtain ⟨g31, c32, h⟩ := h
    refine G_callV (as := [_]) cf_X11_123 rfl rfl rfl (sp_X8_take (d - 1) (by omega) _ o27 _ hx5 g31 c32) (by omega) rfl rfl (Nat.le_of_ble_eq_true rfl) dX11_feed_57 ?_
    rintro _ σ35 ⟨rfl, z37⟩ o34 r33
    have h := h _ o34 z37
    refine G_aload_n 0 rfl rfl dX11_feed_60 ?_
    refine G_get (k := 7) (kd := (2, 30)) (v := aR 30) gf_X11_49 rfl rfl rfl rfl dX11_feed_61 ?_
    refine G_get (k := 1) (kd := (0, 0)) (v := aI (σ35 30 1)) gf_X11_119 rfl rfl rfl rfl dX11_feed_64 ?_
    exact G_iret rfl (OKm.i o34 30 1 rfl) dX11_feed_67 ⟨_, rfl, h⟩ o34
  · have h := h.2 c2
    refine G_iconst dX11_feed_16 ?_
    exact G_iret rfl (rL (-1) rfl) dX11_feed_17 ⟨_, rfl, h⟩ hO

theorem sp_X11_feed (d : Nat) (hd : 1 ≤ d) (σ : Mem) (hO : OKm σ) (x1 : Int) (hx1 : R32 x1) (x2 : Int) (hx2 : R32 x2) (x3 : Int) (hx3 : R32 x3) (x4 : Int) (hx4 : R32 x4) (x5 : Int) (hx5 : R32 x5) (X : Mem) (hpre : tapC σ X ∧ (0 ≤ X 0 0 ∧ X 0 0 ≤ 300)) : Mt yX11_feed cX11_feed 6 (some .int) d [aR (0), aI (x1), aI (x2), aI (x3), aI (x4), aI (x5)] σ (QI (fun v σ' => (X 0 0 + 20 ≤ 300 → v = X 0 0 + 20 ∧ tapC σ' (feedX X x1 x2 x3 x4 x5)) ∧ (¬ (X 0 0 + 20 ≤ 300) → v = -1 ∧ tapC σ' X) ∧ Fr [30, 31] σ σ' ∧ (∀ j : Int, j ≠ 1 → σ' 30 j = σ 30 j))) := mt_X11_feed hd hx1 hx2 hx3 hx4 hx5 hO (by
  unfold wp_X11_feed
  obtain ⟨hT, hn⟩ := hpre
  rw [hT.1]
  refine ⟨by unfold R32; omega, fun hle => ?_, fun hgt => ⟨fun h => absurd h (by omega), fun _ => ⟨rfl, hT⟩, Fr.rf _ _, fun _ _ => rfl⟩⟩
  refine ⟨_, ⟨hT, by omega⟩, ?_⟩
  intro τ1 o1 ⟨t1, f1, j1⟩
  refine ⟨_, ⟨t1, by rw [fourX_n]; omega⟩, ?_⟩
  intro τ2 o2 ⟨t2, f2, j2⟩
  refine ⟨_, ⟨t2, by rw [fourX_n, fourX_n]; omega⟩, ?_⟩
  intro τ3 o3 ⟨t3, f3, j3⟩
  refine ⟨_, ⟨t3, by rw [fourX_n, fourX_n, fourX_n]; omega⟩, ?_⟩
  intro τ4 o4 ⟨t4, f4, j4⟩
  refine ⟨_, ⟨t4, by rw [fourX_n, fourX_n, fourX_n, fourX_n]; omega⟩, ?_⟩
  intro τ5 o5 ⟨t5, f5, j5⟩
  refine ⟨fun _ => ⟨t5.1.trans (by rw [fourX_n, fourX_n, fourX_n, fourX_n, fourX_n]; omega), t5⟩, fun h => absurd hle h, f1.tr (f2.tr (f3.tr (f4.tr f5))), fun j hj => (j5 j hj).trans ((j4 j hj).trans ((j3 j hj).trans ((j2 j hj).trans (j1 j hj))))⟩)

def wp_X12_feed (x1 : Int) (x2 : Int) (x3 : Int) (x4 : Int) (x5 : Int) (σ : Mem) (Q : Int → Mem → Prop) : Prop :=
  R32 ((σ 74 4) + 20) ∧
   ((((σ 74 4) + 20) ≤ 300) →
    ∃ g3 : Mem, (tapM σ g3 ∧ (0 ≤ g3 0 0 ∧ g3 0 0 + 4 ≤ 300)) ∧
    ∀ σ7 : Mem, OKm σ7 → (tapM σ7 (fourX g3 x1) ∧ Fr [74, 78] σ σ7 ∧ (∀ j : Int, j ≠ 4 → σ7 74 j = σ 74 j)) →
    ∃ g10 : Mem, (tapM σ7 g10 ∧ (0 ≤ g10 0 0 ∧ g10 0 0 + 4 ≤ 300)) ∧
    ∀ σ14 : Mem, OKm σ14 → (tapM σ14 (fourX g10 x2) ∧ Fr [74, 78] σ7 σ14 ∧ (∀ j : Int, j ≠ 4 → σ14 74 j = σ7 74 j)) →
    ∃ g17 : Mem, (tapM σ14 g17 ∧ (0 ≤ g17 0 0 ∧ g17 0 0 + 4 ≤ 300)) ∧
    ∀ σ21 : Mem, OKm σ21 → (tapM σ21 (fourX g17 x3) ∧ Fr [74, 78] σ14 σ21 ∧ (∀ j : Int, j ≠ 4 → σ21 74 j = σ14 74 j)) →
    ∃ g24 : Mem, (tapM σ21 g24 ∧ (0 ≤ g24 0 0 ∧ g24 0 0 + 4 ≤ 300)) ∧
    ∀ σ28 : Mem, OKm σ28 → (tapM σ28 (fourX g24 x4) ∧ Fr [74, 78] σ21 σ28 ∧ (∀ j : Int, j ≠ 4 → σ28 74 j = σ21 74 j)) →
    ∃ g31 : Mem, (tapM σ28 g31 ∧ (0 ≤ g31 0 0 ∧ g31 0 0 + 4 ≤ 300)) ∧
    ∀ σ35 : Mem, OKm σ35 → (tapM σ35 (fourX g31 x5) ∧ Fr [74, 78] σ28 σ35 ∧ (∀ j : Int, j ≠ 4 → σ35 74 j = σ28 74 j)) →
    Q (σ35 74 4) σ35) ∧
   ((300 < ((σ 74 4) + 20)) →
    Q (-1) σ)
theorem mt_X12_feed {d : Nat} (hd : 1 ≤ d) {x1 : Int} {x2 : Int} {x3 : Int} {x4 : Int} {x5 : Int} {σ : Mem} {Q : Int → Mem → Prop} (hx1 : R32 x1) (hx2 : R32 x2) (hx3 : R32 x3) (hx4 : R32 x4) (hx5 : R32 x5) (hO : OKm σ) (h : wp_X12_feed x1 x2 x3 x4 x5 σ Q) : Mt yX12_feed cX12_feed 6 (some .int) d [aR (74), aI (x1), aI (x2), aI (x3), aI (x4), aI (x5)] σ (QI Q) := by
  refine Mt.intro (by decide +kernel) (Nat.le_of_ble_eq_true rfl) [(0, aR (74)), (1, aI (x1)), (2, aI (x2)), (3, aI (x3)), (4, aI (x4)), (5, aI (x5))] rfl ?_
  unfold wp_X12_feed at h
  refine G_aload_n 0 rfl rfl dX12_feed_0 ?_
  refine G_get (k := 4) (kd := (0, 0)) (v := aI (σ 74 4)) gf_X12_97 rfl rfl rfl rfl dX12_feed_1 ?_
  refine G_bipush (by decide) dX12_feed_4 ?_
  refine G_iadd dX12_feed_6 ?_
  refine G_sipush (by decide) dX12_feed_7 ?_
  obtain ⟨c1, h⟩ := h
  refine G_icmp_le c1 (rL 300 rfl) dX12_feed_10 (tgt := 15) (by decide) (fun c2 => ?_) (fun c2 => ?_)
  · have h := h.1 c2
    refine G_aload_n 0 rfl rfl dX12_feed_15 ?_
    refine G_iload_n 1 rfl rfl dX12_feed_16 ?_
    obtain ⟨g3, c4, h⟩ := h
    refine G_callV (as := [_]) cf_X12_100 rfl rfl rfl (sp_X12_four (d - 1) (by omega) _ hO _ hx1 g3 c4) (by omega) rfl rfl (Nat.le_of_ble_eq_true rfl) dX12_feed_17 ?_
    rintro _ σ7 ⟨rfl, z9⟩ o6 r5
    have h := h _ o6 z9
    refine G_aload_n 0 rfl rfl dX12_feed_20 ?_
    refine G_iload_n 2 rfl rfl dX12_feed_21 ?_
    obtain ⟨g10, c11, h⟩ := h
    refine G_callV (as := [_]) cf_X12_100 rfl rfl rfl (sp_X12_four (d - 1) (by omega) _ o6 _ hx2 g10 c11) (by omega) rfl rfl (Nat.le_of_ble_eq_true rfl) dX12_feed_22 ?_
    rintro _ σ14 ⟨rfl, z16⟩ o13 r12
    have h := h _ o13 z16
    refine G_aload_n 0 rfl rfl dX12_feed_25 ?_
    refine G_iload_n 3 rfl rfl dX12_feed_26 ?_
    obtain ⟨g17, c18, h⟩ := h
    refine G_callV (as := [_]) cf_X12_100 rfl rfl rfl (sp_X12_four (d - 1) (by omega) _ o13 _ hx3 g17 c18) (by omega) rfl rfl (Nat.le_of_ble_eq_true rfl) dX12_feed_27 ?_
    rintro _ σ21 ⟨rfl, z23⟩ o20 r19
    have h := h _ o20 z23
    refine G_aload_n 0 rfl rfl dX12_feed_30 ?_
    refine G_iload 4 rfl dX12_feed_31 ?_
    obtain ⟨g24, c25, h⟩ := h
    refine G_callV (as := [_]) cf_X12_100 rfl rfl rfl (sp_X12_four (d - 1) (by omega) _ o20 _ hx4 g24 c25) (by omega) rfl rfl (Nat.le_of_ble_eq_true rfl) dX12_feed_33 ?_
    rintro _ σ28 ⟨rfl, z30⟩ o27 r26
    have h := h _ o27 z30
    refine G_aload_n 0 rfl rfl dX12_feed_36 ?_
    refine G_iload 5 rfl dX12_feed_37 ?_
    obtain ⟨g31, c32, h⟩ := h
    refine G_callV (as := [_]) cf_X12_100 rfl rfl rfl (sp_X12_four (d - 1) (by omega) _ o27 _ hx5 g31 c32) (by omega) rfl rfl (Nat.le_of_ble_eq_true rfl) dX12_feed_39 ?_
    rintro _ σ35 ⟨rfl, z37⟩ o34 r33
    have h := h _ o34 z37
    refine G_aload_n 0 rfl rfl dX12_feed_42 ?_
    refine G_get (k := 4) (kd := (0, 0)) (v := aI (σ35 74 4)) gf_X12_97 rfl rfl rfl rfl dX12_feed_43 ?_
    exact G_iret rfl (OKm.i o34 74 4 rfl) dX12_feed_46 ⟨_, rfl, h⟩ o34
  · have h := h.2 c2
    refine G_iconst dX12_feed_13 ?_
    exact G_iret rfl (rL (-1) rfl) dX12_feed_14 ⟨_, rfl, h⟩ hO

theorem sp_X12_feed (d : Nat) (hd : 1 ≤ d) (σ : Mem) (hO : OKm σ) (x1 : Int) (hx1 : R32 x1) (x2 : Int) (hx2 : R32 x2) (x3 : Int) (hx3 : R32 x3) (x4 : Int) (hx4 : R32 x4) (x5 : Int) (hx5 : R32 x5) (X : Mem) (hpre : tapM σ X ∧ (0 ≤ X 0 0 ∧ X 0 0 ≤ 300)) : Mt yX12_feed cX12_feed 6 (some .int) d [aR (74), aI (x1), aI (x2), aI (x3), aI (x4), aI (x5)] σ (QI (fun v σ' => (X 0 0 + 20 ≤ 300 → v = X 0 0 + 20 ∧ tapM σ' (feedX X x1 x2 x3 x4 x5)) ∧ (¬ (X 0 0 + 20 ≤ 300) → v = -1 ∧ tapM σ' X) ∧ Fr [74, 78] σ σ' ∧ (∀ j : Int, j ≠ 4 → σ' 74 j = σ 74 j))) := mt_X12_feed hd hx1 hx2 hx3 hx4 hx5 hO (by
  unfold wp_X12_feed
  obtain ⟨hT, hn⟩ := hpre
  rw [hT.1]
  refine ⟨by unfold R32; omega, fun hle => ?_, fun hgt => ⟨fun h => absurd h (by omega), fun _ => ⟨rfl, hT⟩, Fr.rf _ _, fun _ _ => rfl⟩⟩
  refine ⟨_, ⟨hT, by omega⟩, ?_⟩
  intro τ1 o1 ⟨t1, f1, j1⟩
  refine ⟨_, ⟨t1, by rw [fourX_n]; omega⟩, ?_⟩
  intro τ2 o2 ⟨t2, f2, j2⟩
  refine ⟨_, ⟨t2, by rw [fourX_n, fourX_n]; omega⟩, ?_⟩
  intro τ3 o3 ⟨t3, f3, j3⟩
  refine ⟨_, ⟨t3, by rw [fourX_n, fourX_n, fourX_n]; omega⟩, ?_⟩
  intro τ4 o4 ⟨t4, f4, j4⟩
  refine ⟨_, ⟨t4, by rw [fourX_n, fourX_n, fourX_n, fourX_n]; omega⟩, ?_⟩
  intro τ5 o5 ⟨t5, f5, j5⟩
  refine ⟨fun _ => ⟨t5.1.trans (by rw [fourX_n, fourX_n, fourX_n, fourX_n, fourX_n]; omega), t5⟩, fun h => absurd hle h, f1.tr (f2.tr (f3.tr (f4.tr f5))), fun j hj => (j5 j hj).trans ((j4 j hj).trans ((j3 j hj).trans ((j2 j hj).trans (j1 j hj))))⟩)

theorem okX.feed {X : Mem} {a b c d e : Int} (h : okX X) (hn : X 0 0 + 20 ≤ 300) : okX (feedX X a b c d e) := by
  unfold feedX
  exact ((((h.four (by omega)).four (by rw [fourX_n]; omega)).four (by rw [fourX_n, fourX_n]; omega)).four (by rw [fourX_n, fourX_n, fourX_n]; omega)).four (by rw [fourX_n, fourX_n, fourX_n, fourX_n]; omega)
theorem okX.cut {X : Mem} {n : Int} (h : okX X) (hn : 0 ≤ n ∧ n ≤ X 0 0) : okX (endX X n) := by
  unfold endX
  refine ⟨by rw [mset_self]; have := h.1; omega, fun i => by rw [mset_off (by omega)]; exact h.2 i⟩
theorem tapC.cut {σ X : Mem} {n : Int} (h : tapC σ X) (hn : 0 ≤ n ∧ n ≤ X 0 0) : tapC (mset σ 30 1 n) (endX X n) := by
  obtain ⟨h0, h1, h2, h3⟩ := h
  unfold endX
  refine ⟨by rw [mset_self, mset_self], fun i x y => ?_, by simp (disch := omega) only [mset_off, mset_hit, mset_miss, mcpy_off, mcpy_hit, mcpy_miss, mrow_off, mrow_same]; exact h2, by simp (disch := omega) only [mset_off, mset_hit, mset_miss, mcpy_off, mcpy_hit, mcpy_miss, mrow_off, mrow_same]; exact h3⟩
  rw [mset_self] at y
  simp (disch := omega) only [mset_off, mset_hit, mset_miss, mcpy_off, mcpy_hit, mcpy_miss, mrow_off, mrow_same]; exact h1 i x (by omega)
theorem tapM.cut {σ X : Mem} {n : Int} (h : tapM σ X) (hn : 0 ≤ n ∧ n ≤ X 0 0) : tapM (mset σ 74 4 n) (endX X n) := by
  obtain ⟨h0, h1, h2, h3⟩ := h
  unfold endX
  refine ⟨by rw [mset_self, mset_self], fun i x y => ?_, by simp (disch := omega) only [mset_off, mset_hit, mset_miss, mcpy_off, mcpy_hit, mcpy_miss, mrow_off, mrow_same]; exact h2, by simp (disch := omega) only [mset_off, mset_hit, mset_miss, mcpy_off, mcpy_hit, mcpy_miss, mrow_off, mrow_same]; exact h3⟩
  rw [mset_self] at y
  simp (disch := omega) only [mset_off, mset_hit, mset_miss, mcpy_off, mcpy_hit, mcpy_miss, mrow_off, mrow_same]; exact h1 i x (by omega)
def aboutS (A : Mem) (L : List Mem) (X : Mem) (w : Int) : Int := if w = 0 then A 10 0 else if w = 1 then A 10 1 else if w = 2 then A 10 2 else if w = 3 then A 10 4 else if w = 4 then (L.length : Int) else if w = 5 then A 10 3 else if w = 6 then X 0 0 else -2
def faultS (X : Mem) (w : Int) : Int := if w = 0 then X 2 0 else if w = 1 then X 2 1 else -1

def wp_X11_about (x1 : Int) (σ : Mem) (Q : Int → Mem → Prop) : Prop :=
  (x1 = 0 →
    Q (σ 1 8) σ) ∧
   (x1 ≠ 0 →
    (x1 = 1 →
     Q (σ 1 9) σ) ∧
    (x1 ≠ 1 →
     (x1 = 2 →
      Q (σ 1 10) σ) ∧
     (x1 ≠ 2 →
      (x1 = 3 →
       Q (σ 1 12) σ) ∧
      (x1 ≠ 3 →
       (x1 = 4 →
        Q (σ 15 2) σ) ∧
       (x1 ≠ 4 →
        (x1 = 5 →
         Q (σ 1 11) σ) ∧
        (x1 ≠ 5 →
         (x1 = 6 →
          Q (σ 30 1) σ) ∧
         (x1 ≠ 6 →
          Q (-2) σ)))))))
theorem mt_X11_about {d : Nat} (hd : 0 ≤ d) {x1 : Int} {σ : Mem} {Q : Int → Mem → Prop} (hx1 : R32 x1) (hO : OKm σ) (h : wp_X11_about x1 σ Q) : Mt yX11_about cX11_about 2 (some .int) d [aR (0), aI (x1)] σ (QI Q) := by
  refine Mt.intro (by decide +kernel) (Nat.le_of_ble_eq_true rfl) [(0, aR (0)), (1, aI (x1))] rfl ?_
  unfold wp_X11_about at h
  refine G_iload_n 1 rfl rfl dX11_about_0 ?_
  refine G_tsw (tgt := 44) 0 0 (by decide) (rL _ rfl) (by decide) rfl (by decide) hx1 dX11_about_1 (fun n8 => ?_) (fun n8 => ?_)
  · have h := h.1 n8
    refine G_aload_n 0 rfl rfl dX11_about_44 ?_
    refine G_get (k := 0) (kd := (2, 1)) (v := aR 1) gf_X11_10 rfl rfl rfl rfl dX11_about_45 ?_
    refine G_get (k := 8) (kd := (0, 0)) (v := aI (σ 1 8)) gf_X11_338 rfl rfl rfl rfl dX11_about_48 ?_
    exact G_iret rfl (OKm.i hO 1 8 rfl) dX11_about_51 ⟨_, rfl, h⟩ hO
  · have h := h.2 n8
    have n9 : (1 : Int) ≤ x1 ∨ x1 < 0 := tsw_next (by decide) (tsw_0 _ _) n8
    refine G_tsw (tgt := 52) 1 1 (by decide) (rL _ rfl) (by decide) rfl (by decide) hx1 dX11_about_1 (fun n10 => ?_) (fun n10 => ?_)
    · have h := h.1 n10
      refine G_aload_n 0 rfl rfl dX11_about_52 ?_
      refine G_get (k := 0) (kd := (2, 1)) (v := aR 1) gf_X11_10 rfl rfl rfl rfl dX11_about_53 ?_
      refine G_get (k := 9) (kd := (0, 0)) (v := aI (σ 1 9)) gf_X11_325 rfl rfl rfl rfl dX11_about_56 ?_
      exact G_iret rfl (OKm.i hO 1 9 rfl) dX11_about_59 ⟨_, rfl, h⟩ hO
    · have h := h.2 n10
      have n11 : (2 : Int) ≤ x1 ∨ x1 < 0 := tsw_next (by decide) n9 n10
      refine G_tsw (tgt := 60) 2 2 (by decide) (rL _ rfl) (by decide) rfl (by decide) hx1 dX11_about_1 (fun n12 => ?_) (fun n12 => ?_)
      · have h := h.1 n12
        refine G_aload_n 0 rfl rfl dX11_about_60 ?_
        refine G_get (k := 0) (kd := (2, 1)) (v := aR 1) gf_X11_10 rfl rfl rfl rfl dX11_about_61 ?_
        refine G_get (k := 10) (kd := (0, 0)) (v := aI (σ 1 10)) gf_X11_127 rfl rfl rfl rfl dX11_about_64 ?_
        exact G_iret rfl (OKm.i hO 1 10 rfl) dX11_about_67 ⟨_, rfl, h⟩ hO
      · have h := h.2 n12
        have n13 : (3 : Int) ≤ x1 ∨ x1 < 0 := tsw_next (by decide) n11 n12
        refine G_tsw (tgt := 68) 3 3 (by decide) (rL _ rfl) (by decide) rfl (by decide) hx1 dX11_about_1 (fun n14 => ?_) (fun n14 => ?_)
        · have h := h.1 n14
          refine G_aload_n 0 rfl rfl dX11_about_68 ?_
          refine G_get (k := 0) (kd := (2, 1)) (v := aR 1) gf_X11_10 rfl rfl rfl rfl dX11_about_69 ?_
          refine G_get (k := 12) (kd := (0, 0)) (v := aI (σ 1 12)) gf_X11_142 rfl rfl rfl rfl dX11_about_72 ?_
          exact G_iret rfl (OKm.i hO 1 12 rfl) dX11_about_75 ⟨_, rfl, h⟩ hO
        · have h := h.2 n14
          have n15 : (4 : Int) ≤ x1 ∨ x1 < 0 := tsw_next (by decide) n13 n14
          refine G_tsw (tgt := 76) 4 4 (by decide) (rL _ rfl) (by decide) rfl (by decide) hx1 dX11_about_1 (fun n16 => ?_) (fun n16 => ?_)
          · have h := h.1 n16
            refine G_aload_n 0 rfl rfl dX11_about_76 ?_
            refine G_get (k := 2) (kd := (2, 15)) (v := aR 15) gf_X11_26 rfl rfl rfl rfl dX11_about_77 ?_
            refine G_get (k := 2) (kd := (0, 0)) (v := aI (σ 15 2)) gf_X11_185 rfl rfl rfl rfl dX11_about_80 ?_
            exact G_iret rfl (OKm.i hO 15 2 rfl) dX11_about_83 ⟨_, rfl, h⟩ hO
          · have h := h.2 n16
            have n17 : (5 : Int) ≤ x1 ∨ x1 < 0 := tsw_next (by decide) n15 n16
            refine G_tsw (tgt := 84) 5 5 (by decide) (rL _ rfl) (by decide) rfl (by decide) hx1 dX11_about_1 (fun n18 => ?_) (fun n18 => ?_)
            · have h := h.1 n18
              refine G_aload_n 0 rfl rfl dX11_about_84 ?_
              refine G_get (k := 0) (kd := (2, 1)) (v := aR 1) gf_X11_10 rfl rfl rfl rfl dX11_about_85 ?_
              refine G_get (k := 11) (kd := (0, 0)) (v := aI (σ 1 11)) gf_X11_328 rfl rfl rfl rfl dX11_about_88 ?_
              exact G_iret rfl (OKm.i hO 1 11 rfl) dX11_about_91 ⟨_, rfl, h⟩ hO
            · have h := h.2 n18
              have n19 : (6 : Int) ≤ x1 ∨ x1 < 0 := tsw_next (by decide) n17 n18
              refine G_tsw (tgt := 92) 6 6 (by decide) (rL _ rfl) (by decide) rfl (by decide) hx1 dX11_about_1 (fun n20 => ?_) (fun n20 => ?_)
              · have h := h.1 n20
                refine G_aload_n 0 rfl rfl dX11_about_92 ?_
                refine G_get (k := 7) (kd := (2, 30)) (v := aR 30) gf_X11_49 rfl rfl rfl rfl dX11_about_93 ?_
                refine G_get (k := 1) (kd := (0, 0)) (v := aI (σ 30 1)) gf_X11_119 rfl rfl rfl rfl dX11_about_96 ?_
                exact G_iret rfl (OKm.i hO 30 1 rfl) dX11_about_99 ⟨_, rfl, h⟩ hO
              · have h := h.2 n20
                have n21 : (7 : Int) ≤ x1 ∨ x1 < 0 := tsw_next (by decide) n19 n20
                refine G_tswd (tgt := 100) hx1 (tsw_out n21) (by decide) dX11_about_1 ?_
                refine G_bipush (by decide) dX11_about_100 ?_
                exact G_iret rfl (rL (-2) rfl) dX11_about_102 ⟨_, rfl, h⟩ hO

theorem sp_X11_about (d : Nat) (hd : 0 ≤ d) (σ : Mem) (hO : OKm σ) (x1 : Int) (hx1 : R32 x1) (A : Mem) (L : List Mem) (IA : Mem) (IL : List Mem) (tx : Nat → Txt) (X : Mem) (hpre : fullC σ A L IA IL tx X) : Mt yX11_about cX11_about 2 (some .int) d [aR (0), aI (x1)] σ (QI (fun v σ' => v = aboutS A L X x1 ∧ σ' = σ)) := mt_X11_about hd hx1 hO (by
  unfold wp_X11_about
  have t0 := hpre.1.1.1.1
  have s2 := hpre.1.2.2.1
  have x0 := hpre.2.2.1.1
  rw [t0.1, t0.2.1, t0.2.2.1, t0.2.2.2.1, t0.2.2.2.2, s2, x0]
  unfold aboutS
  exact ⟨fun h => ⟨by rw [if_pos h], rfl⟩, fun h0 => ⟨fun h => ⟨by rw [if_neg h0, if_pos h], rfl⟩, fun h1 => ⟨fun h => ⟨by rw [if_neg h0, if_neg h1, if_pos h], rfl⟩, fun h2 => ⟨fun h => ⟨by rw [if_neg h0, if_neg h1, if_neg h2, if_pos h], rfl⟩, fun h3 => ⟨fun h => ⟨by rw [if_neg h0, if_neg h1, if_neg h2, if_neg h3, if_pos h], rfl⟩, fun h4 => ⟨fun h => ⟨by rw [if_neg h0, if_neg h1, if_neg h2, if_neg h3, if_neg h4, if_pos h], rfl⟩, fun h5 => ⟨fun h => ⟨by rw [if_neg h0, if_neg h1, if_neg h2, if_neg h3, if_neg h4, if_neg h5, if_pos h], rfl⟩, fun h6 => ⟨by rw [if_neg h0, if_neg h1, if_neg h2, if_neg h3, if_neg h4, if_neg h5, if_neg h6], rfl⟩⟩⟩⟩⟩⟩⟩⟩)

def wp_X12_about (x1 : Int) (σ : Mem) (Q : Int → Mem → Prop) : Prop :=
  ((¬ ((0 : Int) ≤ x1 ∧ x1 ≤ (5 : Int))) →
    ((x1 ≠ 6) →
     Q (-2) σ) ∧
    ((x1 = 6) →
     Q (σ 74 4) σ)) ∧
   (((0 : Int) ≤ x1 ∧ x1 ≤ (5 : Int)) →
    (0 ≤ x1 ∧ x1 < 2119) ∧
    Q (σ 75 x1) σ)
theorem mt_X12_about {d : Nat} (hd : 1 ≤ d) {x1 : Int} {σ : Mem} {Q : Int → Mem → Prop} (hx1 : R32 x1) (hO : OKm σ) (h : wp_X12_about x1 σ Q) : Mt yX12_about cX12_about 2 (some .int) d [aR (74), aI (x1)] σ (QI Q) := by
  refine Mt.intro (by decide +kernel) (Nat.le_of_ble_eq_true rfl) [(0, aR (74)), (1, aI (x1))] rfl ?_
  unfold wp_X12_about at h
  refine G_iload_n 1 rfl rfl dX12_about_0 ?_
  refine G_iconst dX12_about_1 ?_
  refine G_iconst dX12_about_2 ?_
  refine G_callS (as := [_, _, _]) cf_X12_81 rfl (sp_X12_isIn (d - 1) (by omega) _ hO _ hx1 _ (rL 0 rfl) _ (rL 5 rfl)) (by omega) rfl rfl (Nat.le_of_ble_eq_true rfl) dX12_about_3 ?_
  rintro _ _ ⟨_, rfl, rfl, rfl⟩ o2 r1
  refine G_if_eq (bI_R _) dX12_about_6 (tgt := 18) (by decide) (fun c3 => ?_) (fun c3 => ?_)
  · have h := h.1 ((bI_0 _).mp c3)
    refine G_iload_n 1 rfl rfl dX12_about_18 ?_
    refine G_bipush (by decide) dX12_about_19 ?_
    refine G_icmp_ne hx1 (rL 6 rfl) dX12_about_21 (tgt := 31) (by decide) (fun c4 => ?_) (fun c4 => ?_)
    · have h := h.1 c4
      refine G_bipush (by decide) dX12_about_31 ?_
      exact G_iret rfl (rL (-2) rfl) dX12_about_33 ⟨_, rfl, h⟩ hO
    · have h := h.2 c4
      refine G_aload_n 0 rfl rfl dX12_about_24 ?_
      refine G_get (k := 4) (kd := (0, 0)) (v := aI (σ 74 4)) gf_X12_97 rfl rfl rfl rfl dX12_about_25 ?_
      refine G_goto (tgt := 33) dX12_about_28 (by decide) ?_
      exact G_iret rfl (OKm.i hO 74 4 rfl) dX12_about_33 ⟨_, rfl, h⟩ hO
  · have h := h.2 (bI_ne c3)
    refine G_aload_n 0 rfl rfl dX12_about_9 ?_
    refine G_get (k := 0) (kd := (2, 75)) (v := aR 75) gf_X12_7 rfl rfl rfl rfl dX12_about_10 ?_
    refine G_iload_n 1 rfl rfl dX12_about_13 ?_
    obtain ⟨c5, h⟩ := h
    refine G_iald (n := 2119) rfl c5.1 c5.2 dX12_about_14 ?_
    refine G_goto (tgt := 33) dX12_about_15 (by decide) ?_
    exact G_iret rfl (OKm.i hO 75 x1 (isLg_row (show shp 75 = (1, 2119, []) from rfl) _)) dX12_about_33 ⟨_, rfl, h⟩ hO

theorem sp_X12_about (d : Nat) (hd : 1 ≤ d) (σ : Mem) (hO : OKm σ) (x1 : Int) (hx1 : R32 x1) (A : Mem) (L : List Mem) (IA : Mem) (IL : List Mem) (tx : Nat → Txt) (X : Mem) (hpre : fullM σ A L IA IL tx X) : Mt yX12_about cX12_about 2 (some .int) d [aR (74), aI (x1)] σ (QI (fun v σ' => v = aboutS A L X x1 ∧ σ' = σ)) := mt_X12_about hd hx1 hO (by
  unfold wp_X12_about
  have t0 := hpre.1.1.1.1
  have s2 := hpre.1.2.1.2.1
  have x0 := hpre.2.2.1
  rw [x0]
  unfold aboutS
  refine ⟨fun h => ⟨fun h6 => ⟨by rw [if_neg (by omega), if_neg (by omega), if_neg (by omega), if_neg (by omega), if_neg (by omega), if_neg (by omega), if_neg h6], rfl⟩, fun h6 => ⟨by rw [if_neg (by omega), if_neg (by omega), if_neg (by omega), if_neg (by omega), if_neg (by omega), if_neg (by omega), if_pos h6], rfl⟩⟩, fun h => ⟨by omega, ?_, rfl⟩⟩
  rcases (show x1 = 0 ∨ x1 = 1 ∨ x1 = 2 ∨ x1 = 3 ∨ x1 = 4 ∨ x1 = 5 by omega) with h | h | h | h | h | h <;> subst h
  · exact t0.1
  · exact t0.2.1
  · exact t0.2.2.1
  · exact t0.2.2.2.2
  · exact s2
  · exact t0.2.2.2.1)

def wp_X11_fault (x1 : Int) (σ : Mem) (Q : Int → Mem → Prop) : Prop :=
  (x1 = 0 →
    Q (σ 35 4) σ) ∧
   (x1 ≠ 0 →
    (x1 = 1 →
     Q (σ 35 5) σ) ∧
    (x1 ≠ 1 →
     Q (-1) σ))
theorem mt_X11_fault {d : Nat} (hd : 0 ≤ d) {x1 : Int} {σ : Mem} {Q : Int → Mem → Prop} (hx1 : R32 x1) (hO : OKm σ) (h : wp_X11_fault x1 σ Q) : Mt yX11_fault cX11_fault 2 (some .int) d [aR (0), aI (x1)] σ (QI Q) := by
  refine Mt.intro (by decide +kernel) (Nat.le_of_ble_eq_true rfl) [(0, aR (0)), (1, aI (x1))] rfl ?_
  unfold wp_X11_fault at h
  refine G_iload_n 1 rfl rfl dX11_fault_0 ?_
  refine G_lsw (tgt := 28) 0 (by decide) rfl (by decide) hx1 dX11_fault_1 (fun c1 => ?_) (fun c1 => ?_)
  · have h := h.1 c1
    refine G_aload_n 0 rfl rfl dX11_fault_28 ?_
    refine G_get (k := 8) (kd := (2, 35)) (v := aR 35) gf_X11_58 rfl rfl rfl rfl dX11_fault_29 ?_
    refine G_get (k := 4) (kd := (0, 0)) (v := aI (σ 35 4)) gf_X11_133 rfl rfl rfl rfl dX11_fault_32 ?_
    exact G_iret rfl (OKm.i hO 35 4 rfl) dX11_fault_35 ⟨_, rfl, h⟩ hO
  · have h := h.2 c1
    refine G_lsw (tgt := 36) 1 (by decide) rfl (by decide) hx1 dX11_fault_1 (fun c2 => ?_) (fun c2 => ?_)
    · have h := h.1 c2
      refine G_aload_n 0 rfl rfl dX11_fault_36 ?_
      refine G_get (k := 8) (kd := (2, 35)) (v := aR 35) gf_X11_58 rfl rfl rfl rfl dX11_fault_37 ?_
      refine G_get (k := 5) (kd := (0, 0)) (v := aI (σ 35 5)) gf_X11_136 rfl rfl rfl rfl dX11_fault_40 ?_
      exact G_iret rfl (OKm.i hO 35 5 rfl) dX11_fault_43 ⟨_, rfl, h⟩ hO
    · have h := h.2 c2
      refine G_lswd (tgt := 44) (by decide) (by simp [Op.lookupswitch.offset, Ne.symm c1, c1, Ne.symm c2, c2]) (by decide) hx1 dX11_fault_1 ?_
      refine G_iconst dX11_fault_44 ?_
      exact G_iret rfl (rL (-1) rfl) dX11_fault_45 ⟨_, rfl, h⟩ hO

theorem sp_X11_fault (d : Nat) (hd : 0 ≤ d) (σ : Mem) (hO : OKm σ) (x1 : Int) (hx1 : R32 x1) (X : Mem) (hpre : tapC σ X) : Mt yX11_fault cX11_fault 2 (some .int) d [aR (0), aI (x1)] σ (QI (fun v σ' => v = faultS X x1 ∧ σ' = σ)) := mt_X11_fault hd hx1 hO (by
  unfold wp_X11_fault
  rw [hpre.2.2.1, hpre.2.2.2]
  unfold faultS
  exact ⟨fun h => ⟨by rw [if_pos h], rfl⟩, fun h0 => ⟨fun h => ⟨by rw [if_neg h0, if_pos h], rfl⟩, fun h1 => ⟨by rw [if_neg h0, if_neg h1], rfl⟩⟩⟩)

def wp_X12_fault (x1 : Int) (σ : Mem) (Q : Int → Mem → Prop) : Prop :=
  ((x1 ≠ 0) →
    ((x1 ≠ 1) →
     Q (-1) σ) ∧
    ((x1 = 1) →
     Q (σ 74 6) σ)) ∧
   ((x1 = 0) →
    Q (σ 74 5) σ)
theorem mt_X12_fault {d : Nat} (hd : 0 ≤ d) {x1 : Int} {σ : Mem} {Q : Int → Mem → Prop} (hx1 : R32 x1) (hO : OKm σ) (h : wp_X12_fault x1 σ Q) : Mt yX12_fault cX12_fault 2 (some .int) d [aR (74), aI (x1)] σ (QI Q) := by
  refine Mt.intro (by decide +kernel) (Nat.le_of_ble_eq_true rfl) [(0, aR (74)), (1, aI (x1))] rfl ?_
  unfold wp_X12_fault at h
  refine G_iload_n 1 rfl rfl dX12_fault_0 ?_
  refine G_if_ne hx1 dX12_fault_1 (tgt := 11) (by decide) (fun c1 => ?_) (fun c1 => ?_)
  · have h := h.1 c1
    refine G_iload_n 1 rfl rfl dX12_fault_11 ?_
    refine G_iconst dX12_fault_12 ?_
    refine G_icmp_ne hx1 (rL 1 rfl) dX12_fault_13 (tgt := 23) (by decide) (fun c2 => ?_) (fun c2 => ?_)
    · have h := h.1 c2
      refine G_iconst dX12_fault_23 ?_
      exact G_iret rfl (rL (-1) rfl) dX12_fault_24 ⟨_, rfl, h⟩ hO
    · have h := h.2 c2
      refine G_aload_n 0 rfl rfl dX12_fault_16 ?_
      refine G_get (k := 6) (kd := (0, 0)) (v := aI (σ 74 6)) gf_X12_26 rfl rfl rfl rfl dX12_fault_17 ?_
      refine G_goto (tgt := 24) dX12_fault_20 (by decide) ?_
      exact G_iret rfl (OKm.i hO 74 6 rfl) dX12_fault_24 ⟨_, rfl, h⟩ hO
  · have h := h.2 c1
    refine G_aload_n 0 rfl rfl dX12_fault_4 ?_
    refine G_get (k := 5) (kd := (0, 0)) (v := aI (σ 74 5)) gf_X12_22 rfl rfl rfl rfl dX12_fault_5 ?_
    refine G_goto (tgt := 24) dX12_fault_8 (by decide) ?_
    exact G_iret rfl (OKm.i hO 74 5 rfl) dX12_fault_24 ⟨_, rfl, h⟩ hO

theorem sp_X12_fault (d : Nat) (hd : 0 ≤ d) (σ : Mem) (hO : OKm σ) (x1 : Int) (hx1 : R32 x1) (X : Mem) (hpre : tapM σ X) : Mt yX12_fault cX12_fault 2 (some .int) d [aR (74), aI (x1)] σ (QI (fun v σ' => v = faultS X x1 ∧ σ' = σ)) := mt_X12_fault hd hx1 hO (by
  unfold wp_X12_fault
  rw [hpre.2.2.1, hpre.2.2.2]
  unfold faultS
  exact ⟨fun h0 => ⟨fun h1 => ⟨by rw [if_neg h0, if_neg h1], rfl⟩, fun h1 => ⟨by rw [if_neg h0, if_pos h1], rfl⟩⟩, fun h0 => ⟨by rw [if_pos h0], rfl⟩⟩)

theorem rowC_now {σ A : Mem} (h : rowC σ 26 0 A) : True := trivial
theorem nowM_p {σ τ A : Mem} {p p' : Nat} (h : nowM σ p A) (hc : InvA A) (he : ∀ i : Int, 0 ≤ i → i < 2119 → τ p' i = σ p i) : nowM τ p' A := by
  obtain ⟨m0, m1, m2, m3⟩ := h
  have c := hc.1
  have k := hc.2.2.2.1
  refine ⟨?_, fun r x y => ?_, fun g x y => ?_, fun i x y => ?_⟩
  · rw [he 6 (by omega) (by omega), he 7 (by omega) (by omega), he 8 (by omega) (by omega), he 9 (by omega) (by omega), he 10 (by omega) (by omega)]; exact m0
  · rw [he _ (by omega) (by omega)]; exact m1 r x y
  · rw [he _ (by omega) (by omega), he _ (by omega) (by omega)]; exact m2 g x y
  · rw [he _ (by omega) (by omega)]; exact m3 i x y
theorem toldM_p {σ τ A : Mem} {p p' : Nat} (h : toldM σ p A) (hc : InvA A) (he : ∀ i : Int, 0 ≤ i → i < 2119 → τ p' i = σ p i) : toldM τ p' A := by
  obtain ⟨h0, h1, h2, h3⟩ := h
  have c := hc.1
  refine ⟨?_, fun r hr hr2 => ?_, fun g hg hg2 => ?_, fun i hi hi2 => ?_⟩
  · rw [he 0 (by omega) (by omega), he 1 (by omega) (by omega), he 2 (by omega) (by omega), he 5 (by omega) (by omega), he 3 (by omega) (by omega)]; exact h0
  · rw [he _ (by omega) (by omega), he _ (by omega) (by omega), he _ (by omega) (by omega), he _ (by omega) (by omega)]; exact h1 r hr hr2
  · rw [he _ (by omega) (by omega), he _ (by omega) (by omega)]; exact h2 g hg hg2
  · rw [he _ (by omega) (by omega), he _ (by omega) (by omega), he _ (by omega) (by omega)]; exact h3 i hi hi2
theorem stepsM_p {σ τ : Mem} {p p' : Nat} {L : List Mem} (h : stepsM σ p L) (he : ∀ i : Int, 0 ≤ i → i < 2119 → τ p' i = σ p i) : stepsM τ p' L := by
  obtain ⟨h1, h2, h3⟩ := h
  refine ⟨h1, by rw [he 4 (by omega) (by omega)]; exact h2, fun k B hk => ?_⟩
  obtain ⟨q1, q2⟩ := h3 k B hk
  have hk3 : k < L.length := (List.getElem?_eq_some_iff.mp hk).1
  exact ⟨q1, rowM_congr q2 q1 (fun i hi hi2 => he _ (by omega) (by omega))⟩

def wp_X11_image  (σ : Mem) (Q : Int → Mem → Prop) : Prop :=
  ∃ g1 : Mem, (toldC σ 1 g1 ∧ (g1 10 0 ≤ 16 ∧ g1 10 1 ≤ 6 ∧ g1 10 3 ≤ 8)) ∧
   ∀ σ5 : Mem, OKm σ5 → (toldC σ5 17 g1 ∧ Fr [17, 18, 19, 20, 21, 22, 23, 24, 25] σ σ5) →
   ∃ g8 : Mem, (nowC σ5 g8 ∧ σ5 1 8 = g8 10 0 ∧ σ5 1 9 = g8 10 1 ∧ Cnt g8 ∧ (0 ≤ (0 : Int) ∧ (0 : Int) + 65 ≤ 65)) ∧
   ∀ σ12 : Mem, OKm σ12 → (rowC σ12 26 (0 : Int) g8 ∧ Fr [26] σ5 σ12 ∧ ∀ i : Int, (i < (0 : Int) ∨ (0 : Int) + 65 ≤ i) → σ12 26 i = σ5 26 i) →
   ∃ g15 : List Mem, (stepsC σ12 15 g15) ∧
   ∀ σ19 : Mem, OKm σ19 → (stepsC σ19 27 g15 ∧ Fr [27, 28] σ12 σ19) →
   Q (σ19 10 7) σ19
theorem mt_X11_image {d : Nat} (hd : 1 ≤ d)  {σ : Mem} {Q : Int → Mem → Prop}  (hO : OKm σ) (h : wp_X11_image  σ Q) : Mt yX11_image cX11_image 1 (some .int) d [aR (0)] σ (QI Q) := by
  refine Mt.intro (by decide +kernel) (Nat.le_of_ble_eq_true rfl) [(0, aR (0))] rfl ?_
  unfold wp_X11_image at h
  refine G_aload_n 0 rfl rfl dX11_image_0 ?_
  refine G_get (k := 3) (kd := (2, 17)) (v := aR 17) gf_X11_30 rfl rfl rfl rfl dX11_image_1 ?_
  refine G_aload_n 0 rfl rfl dX11_image_4 ?_
  refine G_get (k := 0) (kd := (2, 1)) (v := aR 1) gf_X11_10 rfl rfl rfl rfl dX11_image_5 ?_
  obtain ⟨g1, c2, h⟩ := h
  refine G_callV (as := [_]) cf_X11_344 rfl rfl rfl (sp_X10_copyFrom_i (d - 1) (by omega) _ hO  g1 c2) (by omega) rfl rfl (Nat.le_of_ble_eq_true rfl) dX11_image_8 ?_
  rintro _ σ5 ⟨rfl, z7⟩ o4 r3
  have h := h _ o4 z7
  refine G_aload_n 0 rfl rfl dX11_image_11 ?_
  refine G_get (k := 1) (kd := (2, 10)) (v := aR 10) gf_X11_19 rfl rfl rfl rfl dX11_image_12 ?_
  refine G_aload_n 0 rfl rfl dX11_image_15 ?_
  refine G_get (k := 4) (kd := (2, 26)) (v := aR 26) gf_X11_33 rfl rfl rfl rfl dX11_image_16 ?_
  refine G_iconst dX11_image_19 ?_
  refine G_aload_n 0 rfl rfl dX11_image_20 ?_
  refine G_get (k := 0) (kd := (2, 1)) (v := aR 1) gf_X11_10 rfl rfl rfl rfl dX11_image_21 ?_
  obtain ⟨g8, c9, h⟩ := h
  refine G_callV (as := [_, _, _]) cf_X11_99 rfl rfl rfl (sp_X6_keep_i (d - 1) (by omega) _ o4 _ (rL 0 rfl) g8 c9) (by omega) rfl rfl (Nat.le_of_ble_eq_true rfl) dX11_image_24 ?_
  rintro _ σ12 ⟨rfl, z14⟩ o11 r10
  have h := h _ o11 z14
  refine G_aload_n 0 rfl rfl dX11_image_27 ?_
  refine G_get (k := 5) (kd := (2, 27)) (v := aR 27) gf_X11_37 rfl rfl rfl rfl dX11_image_28 ?_
  refine G_aload_n 0 rfl rfl dX11_image_31 ?_
  refine G_get (k := 2) (kd := (2, 15)) (v := aR 15) gf_X11_26 rfl rfl rfl rfl dX11_image_32 ?_
  obtain ⟨g15, c16, h⟩ := h
  refine G_callV (as := [_]) cf_X11_348 rfl rfl rfl (sp_X7_copyFrom_i (d - 1) (by omega) _ o11  g15 c16) (by omega) rfl rfl (Nat.le_of_ble_eq_true rfl) dX11_image_35 ?_
  rintro _ σ19 ⟨rfl, z21⟩ o18 r17
  have h := h _ o18 z21
  refine G_aload_n 0 rfl rfl dX11_image_38 ?_
  refine G_get (k := 1) (kd := (2, 10)) (v := aR 10) gf_X11_19 rfl rfl rfl rfl dX11_image_39 ?_
  refine G_get (k := 7) (kd := (0, 0)) (v := aI (σ19 10 7)) gf_X11_157 rfl rfl rfl rfl dX11_image_42 ?_
  exact G_iret rfl (OKm.i o18 10 7 rfl) dX11_image_45 ⟨_, rfl, h⟩ o18

theorem sp_X11_image (d : Nat) (hd : 1 ≤ d) (σ : Mem) (hO : OKm σ) (A : Mem) (L : List Mem) (IA : Mem) (IL : List Mem) (tx : Nat → Txt) (X : Mem) (hpre : fullC σ A L IA IL tx X) : Mt yX11_image cX11_image 1 (some .int) d [aR (0)] σ (QI (fun v σ' => v = A 0 2 ∧ fullC σ' A L A L tx X ∧ frC σ σ')) := mt_X11_image hd  hO (by
  unfold wp_X11_image
  obtain ⟨⟨hV, hL⟩, hI, hT, hN⟩ := hpre
  have hA := hV.2.2.1
  have hc := hA.1
  refine ⟨A, ⟨hV.1, by omega⟩, ?_⟩
  intro σ5 o5 ⟨q5, f5⟩
  have hV5 : vwC σ5 A tx := ⟨hV.1.congr (fun j hj => f5 _ (by simp; omega)), hV.2.1.congr (fun q h1 h2 => f5 q (by simp; omega)), hA, fun i hi => (hV.2.2.2 i hi).congr (fun j hj => f5 _ (by simp; omega))⟩
  refine ⟨A, ⟨hV5.2.1, hV5.1.1.1, hV5.1.1.2.1, hA.cnt, by omega⟩, ?_⟩
  intro σ12 o12 ⟨q12, f12, _⟩
  refine ⟨L, hL.congr (by rw [f12 15 (by simp), f5 15 (by simp)]) (by rw [f12 (15 + 1) (by simp), f5 (15 + 1) (by simp)]), ?_⟩
  intro σ19 o19 ⟨q19, f19⟩
  have f : ∀ q : Nat, (q < 17 ∨ 28 < q) → σ19 q = σ q := fun q hq => by rw [f19 q (by simp; omega), f12 q (by simp; omega), f5 q (by simp; omega)]
  refine ⟨by rw [f 10 (by omega)]; exact hV.2.1.1.2.2.1, ⟨⟨⟨hV.1.congr (fun j hj => f _ (by omega)), hV.2.1.congr (fun q h1 h2 => f q (by omega)), hA, fun i hi => (hV.2.2.2 i hi).congr (fun j hj => f _ (by omega))⟩, hL.congr (f 15 (by omega)) (f (15 + 1) (by omega))⟩, ⟨q5.congr (fun j hj => by rw [f19 _ (by simp; omega), f12 _ (by simp; omega)]), ?_, q19⟩, hT.fr (by rw [f 30 (by omega)]) (f 31 (by omega)) (by rw [f 35 (by omega)]) (by rw [f 35 (by omega)]), by unfold netC; rw [f 40 (by omega)]; exact hN⟩, fun q hq => f q (by omega)⟩
  unfold rowC at *; rw [f19 26 (by simp)]; exact q12)

def wp_X11_back  (σ : Mem) (Q : Int → Mem → Prop) : Prop :=
  ∃ g1 : Mem, (toldC σ 17 g1 ∧ (g1 10 0 ≤ 16 ∧ g1 10 1 ≤ 6 ∧ g1 10 3 ≤ 8)) ∧
   ∀ σ5 : Mem, OKm σ5 → (toldC σ5 1 g1 ∧ Fr [1, 2, 3, 4, 5, 6, 7, 8, 9] σ σ5) →
   ∃ g8 : Mem, (rowC σ5 26 (0 : Int) g8 ∧ Cnt g8 ∧ (0 ≤ (0 : Int) ∧ (0 : Int) + 65 ≤ 65)) ∧
   ∀ σ12 : Mem, OKm σ12 → (restC σ5 σ12 g8 ∧ Fr [10, 11, 12, 13, 14] σ5 σ12) →
   ∃ g15 : List Mem, (stepsC σ12 27 g15) ∧
   ∀ σ19 : Mem, OKm σ19 → (stepsC σ19 15 g15 ∧ Fr [15, 16] σ12 σ19) →
   Q (σ19 10 7) σ19
theorem mt_X11_back {d : Nat} (hd : 1 ≤ d)  {σ : Mem} {Q : Int → Mem → Prop}  (hO : OKm σ) (h : wp_X11_back  σ Q) : Mt yX11_back cX11_back 1 (some .int) d [aR (0)] σ (QI Q) := by
  refine Mt.intro (by decide +kernel) (Nat.le_of_ble_eq_true rfl) [(0, aR (0))] rfl ?_
  unfold wp_X11_back at h
  refine G_aload_n 0 rfl rfl dX11_back_0 ?_
  refine G_get (k := 0) (kd := (2, 1)) (v := aR 1) gf_X11_10 rfl rfl rfl rfl dX11_back_1 ?_
  refine G_aload_n 0 rfl rfl dX11_back_4 ?_
  refine G_get (k := 3) (kd := (2, 17)) (v := aR 17) gf_X11_30 rfl rfl rfl rfl dX11_back_5 ?_
  obtain ⟨g1, c2, h⟩ := h
  refine G_callV (as := [_]) cf_X11_344 rfl rfl rfl (sp_X10_copyFrom (d - 1) (by omega) _ hO  g1 c2) (by omega) rfl rfl (Nat.le_of_ble_eq_true rfl) dX11_back_8 ?_
  rintro _ σ5 ⟨rfl, z7⟩ o4 r3
  have h := h _ o4 z7
  refine G_aload_n 0 rfl rfl dX11_back_11 ?_
  refine G_get (k := 1) (kd := (2, 10)) (v := aR 10) gf_X11_19 rfl rfl rfl rfl dX11_back_12 ?_
  refine G_aload_n 0 rfl rfl dX11_back_15 ?_
  refine G_get (k := 4) (kd := (2, 26)) (v := aR 26) gf_X11_33 rfl rfl rfl rfl dX11_back_16 ?_
  refine G_iconst dX11_back_19 ?_
  obtain ⟨g8, c9, h⟩ := h
  refine G_callV (as := [_, _]) cf_X11_351 rfl rfl rfl (sp_X6_restore_i (d - 1) (by omega) _ o4 _ (rL 0 rfl) g8 c9) (by omega) rfl rfl (Nat.le_of_ble_eq_true rfl) dX11_back_20 ?_
  rintro _ σ12 ⟨rfl, z14⟩ o11 r10
  have h := h _ o11 z14
  refine G_aload_n 0 rfl rfl dX11_back_23 ?_
  refine G_get (k := 2) (kd := (2, 15)) (v := aR 15) gf_X11_26 rfl rfl rfl rfl dX11_back_24 ?_
  refine G_aload_n 0 rfl rfl dX11_back_27 ?_
  refine G_get (k := 5) (kd := (2, 27)) (v := aR 27) gf_X11_37 rfl rfl rfl rfl dX11_back_28 ?_
  obtain ⟨g15, c16, h⟩ := h
  refine G_callV (as := [_]) cf_X11_348 rfl rfl rfl (sp_X7_copyFrom (d - 1) (by omega) _ o11  g15 c16) (by omega) rfl rfl (Nat.le_of_ble_eq_true rfl) dX11_back_31 ?_
  rintro _ σ19 ⟨rfl, z21⟩ o18 r17
  have h := h _ o18 z21
  refine G_aload_n 0 rfl rfl dX11_back_34 ?_
  refine G_get (k := 1) (kd := (2, 10)) (v := aR 10) gf_X11_19 rfl rfl rfl rfl dX11_back_35 ?_
  refine G_get (k := 7) (kd := (0, 0)) (v := aI (σ19 10 7)) gf_X11_157 rfl rfl rfl rfl dX11_back_38 ?_
  exact G_iret rfl (OKm.i o18 10 7 rfl) dX11_back_41 ⟨_, rfl, h⟩ o18

theorem sp_X11_back (d : Nat) (hd : 1 ≤ d) (σ : Mem) (hO : OKm σ) (A : Mem) (L : List Mem) (IA : Mem) (IL : List Mem) (tx : Nat → Txt) (X : Mem) (hpre : fullC σ A L IA IL tx X ∧ InvA IA ∧ IA 10 2 ≤ A 10 2) : Mt yX11_back cX11_back 1 (some .int) d [aR (0)] σ (QI (fun v σ' => v = IA 0 2 ∧ fullC σ' IA IL IA IL tx X ∧ frC σ σ')) := mt_X11_back hd  hO (by
  unfold wp_X11_back
  obtain ⟨⟨⟨hV, hL⟩, ⟨i1, i2, i3⟩, hT, hN⟩, hIA, hle⟩ := hpre
  have hc := hIA.1
  have hA := hV.2.2.1.1
  refine ⟨IA, ⟨i1, by omega⟩, ?_⟩
  intro σ5 o5 ⟨q5, f5⟩
  refine ⟨IA, ⟨by unfold rowC at *; rw [f5 26 (by simp)]; exact i2, hIA.cnt, by omega⟩, ?_⟩
  intro σ12 o12 ⟨q12, f12⟩
  refine ⟨IL, i3.congr (by rw [f12 27 (by simp), f5 27 (by simp)]) (by rw [f12 (27 + 1) (by simp), f5 (27 + 1) (by simp)]), ?_⟩
  intro σ19 o19 ⟨q19, f19⟩
  have f : ∀ q : Nat, (q < 1 ∨ 16 < q) → σ19 q = σ q := fun q hq => by rw [f19 q (by simp; omega), f12 q (by simp; omega), f5 q (by simp; omega)]
  have hN19 : nowC σ19 IA := (restC_now q12).congr (fun q h1 h2 => f19 q (by simp; omega))
  refine ⟨hN19.1.2.2.1, ⟨⟨⟨q5.congr (fun j hj => by rw [f19 _ (by simp; omega), f12 _ (by simp; omega)]), hN19, hIA, fun i hi => (hV.2.2.2 i (by omega)).congr (fun j hj => f _ (by omega))⟩, q19⟩, ⟨i1.congr (fun j hj => f _ (by omega)), ?_, i3.congr (f 27 (by omega)) (f (27 + 1) (by omega))⟩, hT.fr (by rw [f 30 (by omega)]) (f 31 (by omega)) (by rw [f 35 (by omega)]) (by rw [f 35 (by omega)]), by unfold netC; rw [f 40 (by omega)]; exact hN⟩, fun q hq => f q (by omega)⟩
  unfold rowC at *; rw [f 26 (by omega)]; exact i2)

def wp_X12_image  (σ : Mem) (Q : Int → Mem → Prop) : Prop :=
  ∀ σ3 : Mem, OKm σ3 → ((∀ i : Int, 0 ≤ i → i < 2119 → σ3 76 i = σ 75 i) ∧ Fr [76] σ σ3) →
   Q (σ3 75 6) σ3
theorem mt_X12_image {d : Nat} (hd : 1 ≤ d)  {σ : Mem} {Q : Int → Mem → Prop}  (hO : OKm σ) (h : wp_X12_image  σ Q) : Mt yX12_image cX12_image 1 (some .int) d [aR (74)] σ (QI Q) := by
  refine Mt.intro (by decide +kernel) (Nat.le_of_ble_eq_true rfl) [(0, aR (74))] rfl ?_
  unfold wp_X12_image at h
  refine G_aload_n 0 rfl rfl dX12_image_0 ?_
  refine G_get (k := 0) (kd := (2, 75)) (v := aR 75) gf_X12_7 rfl rfl rfl rfl dX12_image_1 ?_
  refine G_aload_n 0 rfl rfl dX12_image_4 ?_
  refine G_get (k := 1) (kd := (2, 76)) (v := aR 76) gf_X12_13 rfl rfl rfl rfl dX12_image_5 ?_
  refine G_callS (as := [_, _]) cf_X12_77 rfl (sp_X12_copy (d - 1) (by omega) _ hO ) (by omega) rfl rfl (Nat.le_of_ble_eq_true rfl) dX12_image_8 ?_
  rintro _ σ3 ⟨rfl, z5⟩ o2 r1
  have h := h _ o2 z5
  refine G_aload_n 0 rfl rfl dX12_image_11 ?_
  refine G_get (k := 0) (kd := (2, 75)) (v := aR 75) gf_X12_7 rfl rfl rfl rfl dX12_image_12 ?_
  refine G_bipush (by decide) dX12_image_15 ?_
  refine G_iald (n := 2119) rfl (by decide) (by decide) dX12_image_17 ?_
  exact G_iret rfl (OKm.i o2 75 6 (isLg_row (show shp 75 = (1, 2119, []) from rfl) _)) dX12_image_18 ⟨_, rfl, h⟩ o2

theorem sp_X12_image (d : Nat) (hd : 1 ≤ d) (σ : Mem) (hO : OKm σ) (A : Mem) (L : List Mem) (IA : Mem) (IL : List Mem) (tx : Nat → Txt) (X : Mem) (hpre : fullM σ A L IA IL tx X) : Mt yX12_image cX12_image 1 (some .int) d [aR (74)] σ (QI (fun v σ' => v = A 0 2 ∧ fullM σ' A L A L tx X ∧ frM σ σ' ∧ σ' 74 = σ 74)) := mt_X12_image hd  hO (by
  unfold wp_X12_image
  obtain ⟨hS, hI, hT⟩ := hpre
  have hA := hS.1.2.2.1
  intro σ3 o3 ⟨q3, f3⟩
  have f : ∀ q : Nat, q ≠ 76 → σ3 q = σ q := fun q hq => f3 q (by simp; omega)
  obtain ⟨v1, v2, v3, v4, v5⟩ := hS.1
  refine ⟨by rw [f 75 (by omega)]; exact v2.1.1, ⟨⟨⟨by unfold toldM at *; rw [f 75 (by omega)]; exact v1, by unfold nowM at *; rw [f 75 (by omega)]; exact v2, hA, fun i hi => (v4 i hi).congr (by omega) (fun j _ _ => by rw [f 77 (by omega)]), by unfold nmOK; rw [f 80 (by omega)]; exact v5⟩, hS.2.1.keep (fun j _ => by rw [f 75 (by omega)]), by rw [f 74 (by omega)]; exact hS.2.2⟩, ⟨toldM_p v1 hA q3, nowM_p v2 hA q3, stepsM_p hS.2.1 q3⟩, hT.fr (by rw [f 74 (by omega)]) (f 78 (by omega)) (by rw [f 74 (by omega)]) (by rw [f 74 (by omega)])⟩, fun q hq => f q (by omega), by rw [f 74 (by omega)]⟩)

def wp_X12_back  (σ : Mem) (Q : Int → Mem → Prop) : Prop :=
  ∀ σ3 : Mem, OKm σ3 → ((∀ i : Int, 0 ≤ i → i < 2119 → σ3 75 i = σ 76 i) ∧ Fr [75] σ σ3) →
   Q (σ3 75 6) σ3
theorem mt_X12_back {d : Nat} (hd : 1 ≤ d)  {σ : Mem} {Q : Int → Mem → Prop}  (hO : OKm σ) (h : wp_X12_back  σ Q) : Mt yX12_back cX12_back 1 (some .int) d [aR (74)] σ (QI Q) := by
  refine Mt.intro (by decide +kernel) (Nat.le_of_ble_eq_true rfl) [(0, aR (74))] rfl ?_
  unfold wp_X12_back at h
  refine G_aload_n 0 rfl rfl dX12_back_0 ?_
  refine G_get (k := 1) (kd := (2, 76)) (v := aR 76) gf_X12_13 rfl rfl rfl rfl dX12_back_1 ?_
  refine G_aload_n 0 rfl rfl dX12_back_4 ?_
  refine G_get (k := 0) (kd := (2, 75)) (v := aR 75) gf_X12_7 rfl rfl rfl rfl dX12_back_5 ?_
  refine G_callS (as := [_, _]) cf_X12_77 rfl (sp_X12_copy_b (d - 1) (by omega) _ hO ) (by omega) rfl rfl (Nat.le_of_ble_eq_true rfl) dX12_back_8 ?_
  rintro _ σ3 ⟨rfl, z5⟩ o2 r1
  have h := h _ o2 z5
  refine G_aload_n 0 rfl rfl dX12_back_11 ?_
  refine G_get (k := 0) (kd := (2, 75)) (v := aR 75) gf_X12_7 rfl rfl rfl rfl dX12_back_12 ?_
  refine G_bipush (by decide) dX12_back_15 ?_
  refine G_iald (n := 2119) rfl (by decide) (by decide) dX12_back_17 ?_
  exact G_iret rfl (OKm.i o2 75 6 (isLg_row (show shp 75 = (1, 2119, []) from rfl) _)) dX12_back_18 ⟨_, rfl, h⟩ o2

theorem sp_X12_back (d : Nat) (hd : 1 ≤ d) (σ : Mem) (hO : OKm σ) (A : Mem) (L : List Mem) (IA : Mem) (IL : List Mem) (tx : Nat → Txt) (X : Mem) (hpre : fullM σ A L IA IL tx X ∧ InvA IA ∧ IA 10 2 ≤ A 10 2) : Mt yX12_back cX12_back 1 (some .int) d [aR (74)] σ (QI (fun v σ' => v = IA 0 2 ∧ fullM σ' IA IL IA IL tx X ∧ frM σ σ' ∧ σ' 74 = σ 74)) := mt_X12_back hd  hO (by
  unfold wp_X12_back
  obtain ⟨⟨hS, ⟨i1, i2, i3⟩, hT⟩, hIA, hle⟩ := hpre
  have hA := hS.1.2.2.1
  intro σ3 o3 ⟨q3, f3⟩
  have f : ∀ q : Nat, q ≠ 75 → σ3 q = σ q := fun q hq => f3 q (by simp; omega)
  obtain ⟨v1, v2, v3, v4, v5⟩ := hS.1
  have hN := nowM_p i2 hIA q3
  refine ⟨hN.1.1, ⟨⟨⟨toldM_p i1 hIA q3, hN, hIA, fun i hi => (v4 i (by omega)).congr (by omega) (fun j _ _ => by rw [f 77 (by omega)]), by unfold nmOK; rw [f 80 (by omega)]; exact v5⟩, stepsM_p i3 q3, by rw [f 74 (by omega)]; exact hS.2.2⟩, imgM.fr ⟨i1, i2, i3⟩ (f 76 (by omega)), hT.fr (by rw [f 74 (by omega)]) (f 78 (by omega)) (by rw [f 74 (by omega)]) (by rw [f 74 (by omega)])⟩, fun q hq => f q (by omega), by rw [f 74 (by omega)]⟩)
