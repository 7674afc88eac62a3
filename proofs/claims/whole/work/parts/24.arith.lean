theorem Mt.introF {y : MethodName} {cc : ByteArray} {nL : Nat} {rt : Option FieldType} {d : Nat} {as : List AV} {σ : Mem} {Q : Option AV → Mem → Prop} (hy : plainFor y = true) (hn : (as.map cat).sum ≤ nL) (lv : List (Nat × AV)) (hlv : lvA 0 as = lv) (h : G y cc nL rt d Q 0 lv [] σ) : Mt y cc nL rt d as σ Q := by
  intro l D E ad A
  refine va_MetF (cc := cc) (maxL := nL) (ret := rt) hy rfl ?_
  intro p e s m args below meth c s₁ B hml hv
  obtain ⟨rfl, hK, hH, hA, hE⟩ := hv
  have hts := atoms_spec (ws := Cond.code y cc nL rt :: tblG) B.pre
  have hown : s.vm.findClass y.cls = some m.cls := findClass_of_methodNamed B.named
  have hl := lv_entry (as.map (cv ad)) (n := nL) (by rw [slen]; exact hn)
  rw [lg_entry_eq]
  generalize (lg_sl (as.map (cv ad)) ++ List.replicate (nL - (lg_sl (as.map (cv ad))).length) Slot.unset).toArray = ls at hl ⊢
  rw [lvA_eq, hlv] at hl
  exact h l p e s m _ below meth c D E ad A s.heap [] ls ⟨B.exec, B.bytes, hml, B.returns, hown, fun w hw => hts w (List.mem_cons_of_mem _ hw), B.notSynchronized, hK, hA, hE⟩ hH va_S.rf hl

/-- the greatest number that parts both -/
def gcdI (a b : Int) : Int := ((Nat.gcd a.toNat b.toNat : Nat) : Int)
theorem gcdI_0 {a : Int} (h : 0 ≤ a) : gcdI a 0 = a := by unfold gcdI; simp; omega
theorem gcdI_s {f l : Int} (hf : 0 ≤ f) (hl : 0 < l) : gcdI l (f % l) = gcdI f l := by
  unfold gcdI
  obtain ⟨n, rfl⟩ : ∃ n : Nat, f = n := ⟨f.toNat, by omega⟩
  obtain ⟨m, rfl⟩ : ∃ m : Nat, l = m := ⟨l.toNat, by omega⟩
  have e : ((n : Int) % (m : Int)).toNat = n % m := by omega
  rw [e]
  simp only [Int.toNat_natCast]
  rw [Nat.gcd_comm n m, Nat.gcd_rec m n, Nat.gcd_comm]
theorem mod_r {f l : Int} (hl : 0 < l) : 0 ≤ f % l ∧ f % l < l := ⟨Int.emod_nonneg _ (by omega), Int.emod_lt_of_pos _ hl⟩
theorem mod_half {x y : Int} (hy : 0 < y) (h : y ≤ x) : 2 * (x % y) < x := by
  have h1 := mod_r (f := x) hy
  have h2 := Int.mul_ediv_add_emod x y
  have h3 : 1 ≤ x / y := by
    rw [Int.le_ediv_iff_mul_le hy]; omega
  have h4 : y * 1 ≤ y * (x / y) := Int.mul_le_mul_of_nonneg_left h3 (by omega)
  omega
def clip (x : Int) : Int := max (-1000000) (min 1000000 x)
theorem clip_r (x : Int) : -1000000 ≤ clip x ∧ clip x ≤ 1000000 := by unfold clip; omega
def iabs (x : Int) : Int := if 0 ≤ x then x else -x
/-- two values joined, by the class's codes -/
def jn (c a b : Int) : Int := if c = 18 then gcdI (iabs a) (iabs b) else if c = 25 then bOr a b else if c = 26 then bAnd a b else if c = 28 then bI (a < b) else if c = 29 then bI (b < a) else if c = 30 then bI (a = b) else if c = 32 then clip (a + b) else if c = 33 then clip (a - b) else if c = 34 then clip (a * b) else if c = 35 then (if b = 0 then 0 else Int.tdiv a b) else if c = 39 then bI (a ≤ b) else if c = 40 then bI (b ≤ a) else bI (a ≠ b)
theorem mul_b {a b : Int} (ha : -1000001 ≤ a ∧ a ≤ 1000001) (hb : -1000001 ≤ b ∧ b ≤ 1000001) : -1000002000001 ≤ a * b ∧ a * b ≤ 1000002000001 := by
  have h1 : (a * b).natAbs ≤ 1000001 * 1000001 := by
    rw [Int.natAbs_mul]
    exact Nat.mul_le_mul (by omega) (by omega)
  omega
theorem tdiv_b {a b : Int} (ha : -1000001 ≤ a ∧ a ≤ 1000001) : -1000001 ≤ Int.tdiv a b ∧ Int.tdiv a b ≤ 1000001 := by
  have h1 : (Int.tdiv a b).natAbs ≤ 1000001 := by
    rw [Int.natAbs_tdiv]
    exact Nat.le_trans (Nat.div_le_self _ _) (by omega)
  omega
theorem gcdI_nn (a b : Int) : 0 ≤ gcdI a b := by unfold gcdI; omega
theorem gcdI_le {a b : Int} {M : Int} (ha : 0 ≤ a ∧ a ≤ M) (hb : 0 ≤ b ∧ b ≤ M) : gcdI a b ≤ M := by
  unfold gcdI
  by_cases h : a.toNat = 0
  · rw [h]; simp; omega
  · have := Nat.le_of_dvd (by omega) (Nat.gcd_dvd_left a.toNat b.toNat)
    omega

def wp_J9_abs_0f7a4 (x1 : Int) (σ : Mem) (Q : Int → Mem → Prop) : Prop :=
  ((0 ≤ x1) →
    Q x1 σ) ∧
   ((x1 < 0) →
    R32 (-x1) ∧
    Q (-x1) σ)
theorem mt_J9_abs_0f7a4 {d : Nat} (hd : 0 ≤ d) {x1 : Int} {σ : Mem} {Q : Int → Mem → Prop} (hx1 : R32 x1) (hO : OKm σ) (h : wp_J9_abs_0f7a4 x1 σ Q) : Mt yJ9_abs_0f7a4 cJ9_abs_0f7a4 1 (some .int) d [aI (x1)] σ (QI Q) := by
  refine Mt.introF (by decide +kernel) (Nat.le_of_ble_eq_true rfl) [(0, aI (x1))] rfl ?_
  unfold wp_J9_abs_0f7a4 at h
  refine G_iload_n 0 rfl rfl dJ9_abs_0f7a4_0 ?_
  refine G_if_ge hx1 dJ9_abs_0f7a4_1 (tgt := 9) (by decide) (fun c1 => ?_) (fun c1 => ?_)
  · have h := h.1 c1
    refine G_iload_n 0 rfl rfl dJ9_abs_0f7a4_9 ?_
    exact G_iret rfl hx1 dJ9_abs_0f7a4_10 ⟨_, rfl, h⟩ hO
  · have h := h.2 c1
    refine G_iload_n 0 rfl rfl dJ9_abs_0f7a4_4 ?_
    refine G_ineg dJ9_abs_0f7a4_5 ?_
    refine G_goto (tgt := 10) dJ9_abs_0f7a4_6 (by decide) ?_
    obtain ⟨c2, h⟩ := h
    exact G_iret rfl c2 dJ9_abs_0f7a4_10 ⟨_, rfl, h⟩ hO

theorem sp_J9_abs_0f7a4 (d : Nat) (hd : 0 ≤ d) (σ : Mem) (hO : OKm σ) (x1 : Int) (hx1 : R32 x1) (hpre : -2147483648 < x1) : Mt yJ9_abs_0f7a4 cJ9_abs_0f7a4 1 (some .int) d [aI (x1)] σ (QI (fun v σ' => (iabs x1) = v ∧ σ = σ')) := mt_J9_abs_0f7a4 hd hx1 hO (by
  unfold wp_J9_abs_0f7a4
  unfold R32 at *
  unfold iabs
  grind)

def wp_X2_commonPart (x1 : Int) (x2 : Int) (σ : Mem) (Q : Int → Mem → Prop) : Prop :=
 ∀ P9 : Int → Int → Int → Mem → Prop,
 (∀ (v4 : Int) (v6 : Int) (v8 : Int) (σ : Mem), (R64 v4 → R64 v6 → R32 v8 → OKm σ →
   ((130 ≤ v8) →
     Q v4 σ) ∧
    ((v8 < 130) →
     ((v6 ≤ 0) →
      Q v4 σ) ∧
     ((0 < v6) →
      (v6 ≠ 0) ∧
      R64 (Int.tmod v4 v6) ∧ R32 (v8 + 1) ∧ P9 v6 (Int.tmod v4 v6) (v8 + 1) σ))) → P9 v4 v6 v8 σ) →
  P9 x1 x2 0 σ
theorem mt_X2_commonPart {d : Nat} (hd : 0 ≤ d) {x1 : Int} {x2 : Int} {σ : Mem} {Q : Int → Mem → Prop} (hx1 : R64 x1) (hx2 : R64 x2) (hO : OKm σ) (h : wp_X2_commonPart x1 x2 σ Q) : Mt yX2_commonPart cX2_commonPart 11 (some .long) d [aL (x1), aL (x2)] σ (QL Q) := by
  refine Mt.intro (by decide +kernel) (Nat.le_of_ble_eq_true rfl) [(0, aL (x1)), (2, aL (x2))] rfl ?_
  unfold wp_X2_commonPart at h
  have h := h (fun (v4 : Int) (v6 : Int) (v8 : Int) (σ : Mem) => R64 v4 → R64 v6 → R32 v8 → OKm σ → G yX2_commonPart cX2_commonPart 11 (some .long) d (QL Q) 9 [(4, aL (v4)), (6, aL (v6)), (8, aI (v8))] [] σ) ?_
  · refine G_lload_n 0 rfl rfl dX2_commonPart_0 ?_
    refine G_lstore (lv' := [(4, aL (x1)), (0, aL (x1)), (2, aL (x2))]) rfl (by decide) dX2_commonPart_1 ?_
    refine G_lload_n 2 rfl rfl dX2_commonPart_3 ?_
    refine G_lstore (lv' := [(6, aL (x2)), (4, aL (x1)), (0, aL (x1)), (2, aL (x2))]) rfl (by decide) dX2_commonPart_4 ?_
    refine G_iconst dX2_commonPart_6 ?_
    refine G_istore (lv' := [(8, aI (0)), (6, aL (x2)), (4, aL (x1)), (0, aL (x1)), (2, aL (x2))]) rfl (by decide) dX2_commonPart_7 ?_
    exact G_pick [2, 1, 0] rfl (h hx1 hx2 (rL 0 rfl) hO)
  · intro v4 v6 v8 σ h hv4 hv6 hv8 hO
    have h := h hv4 hv6 hv8 hO
    refine G_iload 2 rfl dX2_commonPart_9 ?_
    refine G_sipush (by decide) dX2_commonPart_11 ?_
    refine G_icmp_ge hv8 (rL 130 rfl) dX2_commonPart_14 (tgt := 45) (by decide) (fun c1 => ?_) (fun c1 => ?_)
    · have h := h.1 c1
      refine G_lload 0 rfl dX2_commonPart_45 ?_
      exact G_lret rfl hv4 dX2_commonPart_47 ⟨_, rfl, h⟩ hO
    · have h := h.2 c1
      refine G_lload 1 rfl dX2_commonPart_17 ?_
      refine G_lconst (n := 0) (by decide) dX2_commonPart_19 ?_
      refine G_lcmp_le hv6 (rLL 0 rfl) dX2_commonPart_20 dX2_commonPart_21 (tgt := 45) (by decide) (fun c2 => ?_) (fun c2 => ?_)
      · have h := h.1 c2
        refine G_lload 0 rfl dX2_commonPart_45 ?_
        exact G_lret rfl hv4 dX2_commonPart_47 ⟨_, rfl, h⟩ hO
      · have h := h.2 c2
        refine G_lload 0 rfl dX2_commonPart_24 ?_
        refine G_lload 1 rfl dX2_commonPart_26 ?_
        obtain ⟨c3, h⟩ := h
        refine G_lrem hv4 hv6 c3 dX2_commonPart_28 ?_
        refine G_lstore (lv' := [(9, aL ((Int.tmod v4 v6))), (4, aL (v4)), (6, aL (v6)), (8, aI (v8))]) rfl (by decide) dX2_commonPart_29 ?_
        refine G_lload 2 rfl dX2_commonPart_31 ?_
        refine G_lstore (lv' := [(4, aL (v6)), (9, aL ((Int.tmod v4 v6))), (6, aL (v6)), (8, aI (v8))]) rfl (by decide) dX2_commonPart_33 ?_
        refine G_lload 1 rfl dX2_commonPart_35 ?_
        refine G_lstore (lv' := [(6, aL ((Int.tmod v4 v6))), (4, aL (v6)), (9, aL ((Int.tmod v4 v6))), (8, aI (v8))]) rfl (by decide) dX2_commonPart_37 ?_
        refine G_iinc (lv' := [(8, aI ((v8 + 1))), (6, aL ((Int.tmod v4 v6))), (4, aL (v6)), (9, aL ((Int.tmod v4 v6)))]) (k := 3) rfl rfl (by decide) dX2_commonPart_39 ?_
        refine G_goto (tgt := 9) dX2_commonPart_42 (by decide) ?_
        obtain ⟨c4, h⟩ := h
        obtain ⟨c5, h⟩ := h
        exact G_pick [2, 1, 0] rfl (h hv6 c4 c5 hO)

theorem sp_X2_commonPart (d : Nat) (hd : 0 ≤ d) (σ : Mem) (hO : OKm σ) (x1 : Int) (hx1 : R64 x1) (x2 : Int) (hx2 : R64 x2) (hpre : 0 ≤ x1 ∧ 0 ≤ x2) : Mt yX2_commonPart cX2_commonPart 11 (some .long) d [aL (x1), aL (x2)] σ (QL (fun v σ' => (gcdI x1 x2) = v ∧ σ = σ')) := mt_X2_commonPart hd hx1 hx2 hO (by
  unfold wp_X2_commonPart
  intro P9 h9
  have H : ∀ (m : Nat) (k f l : Int) (τ : Mem), 0 ≤ f → 0 ≤ l → l < 2 ^ m → R64 f → 0 ≤ k → k + 2 * m ≤ 128 → gcdI f l = gcdI x1 x2 → τ = σ → P9 f l k τ := by
    intro m
    induction m with
    | zero =>
      intro k f l τ hf hl hm _ h0 hk hg ht
      refine h9 _ _ _ _ (fun _ _ _ _ => ⟨fun h => absurd h (by omega), fun _ => ⟨fun _ => ⟨?_, ht.symm⟩, fun h => absurd h (by simp at hm; omega)⟩⟩)
      have : l = 0 := by simp at hm; omega
      rw [← hg, this, gcdI_0 hf]
    | succ m ih =>
      intro k f l τ hf hl hm hfr h0 hk hg ht
      refine h9 _ _ _ _ (fun _ hlr _ _ => ⟨fun h => absurd h (by omega), fun _ => ⟨fun h => ⟨?_, ht.symm⟩, fun h => ?_⟩⟩)
      · have : l = 0 := by omega
        rw [← hg, this, gcdI_0 hf]
      · have e := tmodP (a := f) (b := l) hf
        have hr := mod_r (f := f) h
        rw [e]
        have hR : R64 (f % l) := by unfold R64 at *; omega
        refine ⟨by omega, hR, by unfold R32; omega, ?_⟩
        refine h9 _ _ _ _ (fun _ _ _ _ => ⟨fun h => absurd h (by omega), fun _ => ⟨fun h2 => ⟨?_, ht.symm⟩, fun h2 => ?_⟩⟩)
        · have : f % l = 0 := by omega
          rw [← hg, ← gcdI_s hf h, this, gcdI_0 (by omega)]
        · have e2 := tmodP (a := l) (b := f % l) (by omega)
          have hr2 := mod_r (f := l) h2
          have hh := mod_half h2 (by omega : f % l ≤ l)
          have hm2 : l < 2 * 2 ^ m := by rw [Int.pow_succ] at hm; omega
          rw [e2]
          refine ⟨by omega, by unfold R64 at *; omega, by unfold R32; omega, ?_⟩
          exact ih _ _ _ τ (by omega) (by omega) (by omega) hR (by omega) (by omega) (by rw [gcdI_s (by omega) h2, gcdI_s hf h, hg]) ht
  exact H 63 0 x1 x2 σ hpre.1 hpre.2 (by have := hx2.2; omega) hx1 (by omega) (by omega) rfl rfl)

def wp_X12_commonOf (x1 : Int) (x2 : Int) (σ : Mem) (Q : Int → Mem → Prop) : Prop :=
 ∀ P28 : Int → Int → Mem → Prop,
 (∀ (v4 : Int) (v6 : Int) (σ : Mem), (R64 v4 → R64 v6 → OKm σ →
   ((v6 = 0) →
     Q v4 σ) ∧
    ((v6 ≠ 0) →
     (v6 ≠ 0) ∧
     R64 (Int.tmod v4 v6) ∧ P28 v6 (Int.tmod v4 v6) σ)) → P28 v4 v6 σ) →
  ((0 ≤ x1) →
    ((0 ≤ x2) →
     P28 x1 x2 σ) ∧
    ((x2 < 0) →
     R64 (-x2) ∧ P28 x1 (-x2) σ)) ∧
   ((x1 < 0) →
    ((0 ≤ x2) →
     R64 (-x1) ∧ P28 (-x1) x2 σ) ∧
    ((x2 < 0) →
     R64 (-x1) ∧ R64 (-x2) ∧ P28 (-x1) (-x2) σ))
theorem mt_X12_commonOf {d : Nat} (hd : 0 ≤ d) {x1 : Int} {x2 : Int} {σ : Mem} {Q : Int → Mem → Prop} (hx1 : R64 x1) (hx2 : R64 x2) (hO : OKm σ) (h : wp_X12_commonOf x1 x2 σ Q) : Mt yX12_commonOf cX12_commonOf 10 (some .long) d [aL (x1), aL (x2)] σ (QL Q) := by
  refine Mt.intro (by decide +kernel) (Nat.le_of_ble_eq_true rfl) [(0, aL (x1)), (2, aL (x2))] rfl ?_
  unfold wp_X12_commonOf at h
  have h := h (fun (v4 : Int) (v6 : Int) (σ : Mem) => R64 v4 → R64 v6 → OKm σ → G yX12_commonOf cX12_commonOf 10 (some .long) d (QL Q) 28 [(4, aL (v4)), (6, aL (v6))] [] σ) ?_
  · refine G_lload_n 0 rfl rfl dX12_commonOf_0 ?_
    refine G_lconst (n := 0) (by decide) dX12_commonOf_1 ?_
    refine G_lcmp_ge hx1 (rLL 0 rfl) dX12_commonOf_2 dX12_commonOf_3 (tgt := 11) (by decide) (fun c1 => ?_) (fun c1 => ?_)
    · have h := h.1 c1
      refine G_lload_n 0 rfl rfl dX12_commonOf_11 ?_
      refine G_lstore (lv' := [(4, aL (x1)), (0, aL (x1)), (2, aL (x2))]) rfl (by decide) dX12_commonOf_12 ?_
      refine G_lload_n 2 rfl rfl dX12_commonOf_14 ?_
      refine G_lconst (n := 0) (by decide) dX12_commonOf_15 ?_
      refine G_lcmp_ge hx2 (rLL 0 rfl) dX12_commonOf_16 dX12_commonOf_17 (tgt := 25) (by decide) (fun c2 => ?_) (fun c2 => ?_)
      · have h := h.1 c2
        refine G_lload_n 2 rfl rfl dX12_commonOf_25 ?_
        refine G_lstore (lv' := [(6, aL (x2)), (4, aL (x1)), (0, aL (x1)), (2, aL (x2))]) rfl (by decide) dX12_commonOf_26 ?_
        exact G_pick [1, 0] rfl (h hx1 hx2 hO)
      · have h := h.2 c2
        refine G_lload_n 2 rfl rfl dX12_commonOf_20 ?_
        refine G_lneg dX12_commonOf_21 ?_
        refine G_goto (tgt := 26) dX12_commonOf_22 (by decide) ?_
        refine G_lstore (lv' := [(6, aL ((-x2))), (4, aL (x1)), (0, aL (x1)), (2, aL (x2))]) rfl (by decide) dX12_commonOf_26 ?_
        obtain ⟨c3, h⟩ := h
        exact G_pick [1, 0] rfl (h hx1 c3 hO)
    · have h := h.2 c1
      refine G_lload_n 0 rfl rfl dX12_commonOf_6 ?_
      refine G_lneg dX12_commonOf_7 ?_
      refine G_goto (tgt := 12) dX12_commonOf_8 (by decide) ?_
      refine G_lstore (lv' := [(4, aL ((-x1))), (0, aL (x1)), (2, aL (x2))]) rfl (by decide) dX12_commonOf_12 ?_
      refine G_lload_n 2 rfl rfl dX12_commonOf_14 ?_
      refine G_lconst (n := 0) (by decide) dX12_commonOf_15 ?_
      refine G_lcmp_ge hx2 (rLL 0 rfl) dX12_commonOf_16 dX12_commonOf_17 (tgt := 25) (by decide) (fun c4 => ?_) (fun c4 => ?_)
      · have h := h.1 c4
        refine G_lload_n 2 rfl rfl dX12_commonOf_25 ?_
        refine G_lstore (lv' := [(6, aL (x2)), (4, aL ((-x1))), (0, aL (x1)), (2, aL (x2))]) rfl (by decide) dX12_commonOf_26 ?_
        obtain ⟨c5, h⟩ := h
        exact G_pick [1, 0] rfl (h c5 hx2 hO)
      · have h := h.2 c4
        refine G_lload_n 2 rfl rfl dX12_commonOf_20 ?_
        refine G_lneg dX12_commonOf_21 ?_
        refine G_goto (tgt := 26) dX12_commonOf_22 (by decide) ?_
        refine G_lstore (lv' := [(6, aL ((-x2))), (4, aL ((-x1))), (0, aL (x1)), (2, aL (x2))]) rfl (by decide) dX12_commonOf_26 ?_
        obtain ⟨c6, h⟩ := h
        obtain ⟨c7, h⟩ := h
        exact G_pick [1, 0] rfl (h c6 c7 hO)
  · intro v4 v6 σ h hv4 hv6 hO
    have h := h hv4 hv6 hO
    refine G_lload 1 rfl dX12_commonOf_28 ?_
    refine G_lconst (n := 0) (by decide) dX12_commonOf_30 ?_
    refine G_lcmp_eq hv6 (rLL 0 rfl) dX12_commonOf_31 dX12_commonOf_32 (tgt := 53) (by decide) (fun c8 => ?_) (fun c8 => ?_)
    · have h := h.1 c8
      refine G_lload 0 rfl dX12_commonOf_53 ?_
      exact G_lret rfl hv4 dX12_commonOf_55 ⟨_, rfl, h⟩ hO
    · have h := h.2 c8
      refine G_lload 0 rfl dX12_commonOf_35 ?_
      refine G_lload 1 rfl dX12_commonOf_37 ?_
      obtain ⟨c9, h⟩ := h
      refine G_lrem hv4 hv6 c9 dX12_commonOf_39 ?_
      refine G_lstore (lv' := [(8, aL ((Int.tmod v4 v6))), (4, aL (v4)), (6, aL (v6))]) rfl (by decide) dX12_commonOf_40 ?_
      refine G_lload 2 rfl dX12_commonOf_42 ?_
      refine G_lstore (lv' := [(4, aL (v6)), (8, aL ((Int.tmod v4 v6))), (6, aL (v6))]) rfl (by decide) dX12_commonOf_44 ?_
      refine G_lload 1 rfl dX12_commonOf_46 ?_
      refine G_lstore (lv' := [(6, aL ((Int.tmod v4 v6))), (4, aL (v6)), (8, aL ((Int.tmod v4 v6)))]) rfl (by decide) dX12_commonOf_48 ?_
      refine G_goto (tgt := 28) dX12_commonOf_50 (by decide) ?_
      obtain ⟨c10, h⟩ := h
      exact G_pick [1, 0] rfl (h hv6 c10 hO)

theorem sp_X12_commonOf (d : Nat) (hd : 0 ≤ d) (σ : Mem) (hO : OKm σ) (x1 : Int) (hx1 : R64 x1) (x2 : Int) (hx2 : R64 x2) (hpre : -9223372036854775808 < x1 ∧ -9223372036854775808 < x2) : Mt yX12_commonOf cX12_commonOf 10 (some .long) d [aL (x1), aL (x2)] σ (QL (fun v σ' => (gcdI (iabs x1) (iabs x2)) = v ∧ σ = σ')) := mt_X12_commonOf hd hx1 hx2 hO (by
  unfold wp_X12_commonOf
  intro P28 h28
  have H : ∀ (n : Nat) (f l : Int) (τ : Mem), l.toNat < n → 0 ≤ f → 0 ≤ l → R64 f → R64 l → gcdI f l = gcdI (iabs x1) (iabs x2) → τ = σ → P28 f l τ := by
    intro n
    induction n with
    | zero => intro f l τ h; omega
    | succ n ih =>
      intro f l τ hn hf hl hfr hlr hg ht
      refine h28 _ _ _ (fun _ _ _ => ⟨fun h => ⟨?_, ht.symm⟩, fun h => ?_⟩)
      · rw [← hg, h, gcdI_0 hf]
      · have e := tmodP (a := f) (b := l) hf
        have hr := mod_r (f := f) (by omega : 0 < l)
        rw [e]
        refine ⟨h, by unfold R64 at *; omega, ?_⟩
        exact ih _ _ τ (by omega) (by omega) (by omega) hlr (by unfold R64 at *; omega) (by rw [gcdI_s hf (by omega), hg]) ht
  have a1 : ∀ x, 0 ≤ x → iabs x = x := fun x h => by unfold iabs; rw [if_pos h]
  have a2 : ∀ x, x < 0 → iabs x = -x := fun x h => by unfold iabs; rw [if_neg (by omega)]
  have F : ∀ f l : Int, f = iabs x1 → l = iabs x2 → 0 ≤ f → 0 ≤ l → R64 f → R64 l → P28 f l σ := fun f l h1 h2 h3 h4 h5 h6 => H (l.toNat + 1) f l σ (by omega) h3 h4 h5 h6 (by rw [h1, h2]) rfl
  refine ⟨fun h1 => ⟨fun h2 => ?_, fun h2 => ?_⟩, fun h1 => ⟨fun h2 => ?_, fun h2 => ?_⟩⟩
  · exact F _ _ (a1 _ h1).symm (a1 _ h2).symm h1 h2 hx1 hx2
  · have hR : R64 (-x2) := by unfold R64 at *; omega
    exact ⟨hR, F _ _ (a1 _ h1).symm (a2 _ h2).symm h1 (by omega) hx1 hR⟩
  · have hR : R64 (-x1) := by unfold R64 at *; omega
    exact ⟨hR, F _ _ (a2 _ h1).symm (a1 _ h2).symm (by omega) h2 hR hx2⟩
  · have hR : R64 (-x1) := by unfold R64 at *; omega
    have hR2 : R64 (-x2) := by unfold R64 at *; omega
    exact ⟨hR, hR2, F _ _ (a2 _ h1).symm (a2 _ h2).symm (by omega) (by omega) hR hR2⟩)

def wp_X2_joined (x1 : Int) (x2 : Int) (x3 : Int) (σ : Mem) (Q : Int → Mem → Prop) : Prop :=
  (x1 = 18 →
    (-2147483648 < x2) ∧
    (-2147483648 < x3) ∧
    (0 ≤ (iabs x2) ∧ 0 ≤ (iabs x3)) ∧
    R32 (gcdI (iabs x2) (iabs x3)) ∧
    Q (gcdI (iabs x2) (iabs x3)) σ) ∧
   (x1 ≠ 18 →
    (x1 = 25 →
     Q (bOr x2 x3) σ) ∧
    (x1 ≠ 25 →
     (x1 = 26 →
      Q (bAnd x2 x3) σ) ∧
     (x1 ≠ 26 →
      (x1 = 28 →
       ((x3 ≤ x2) →
        Q 0 σ) ∧
       ((x2 < x3) →
        Q 1 σ)) ∧
      (x1 ≠ 28 →
       (x1 = 29 →
        ((x2 ≤ x3) →
         Q 0 σ) ∧
        ((x3 < x2) →
         Q 1 σ)) ∧
       (x1 ≠ 29 →
        (x1 = 30 →
         ((x2 ≠ x3) →
          Q 0 σ) ∧
         ((x2 = x3) →
          Q 1 σ)) ∧
        (x1 ≠ 30 →
         (x1 = 32 →
          R64 (x2 + x3) ∧
          R32 (max (-1000000) (min 1000000 (x2 + x3))) ∧
          Q (max (-1000000) (min 1000000 (x2 + x3))) σ) ∧
         (x1 ≠ 32 →
          (x1 = 33 →
           R64 (x2 - x3) ∧
           R32 (max (-1000000) (min 1000000 (x2 - x3))) ∧
           Q (max (-1000000) (min 1000000 (x2 - x3))) σ) ∧
          (x1 ≠ 33 →
           (x1 = 34 →
            R64 (x2 * x3) ∧
            R32 (max (-1000000) (min 1000000 (x2 * x3))) ∧
            Q (max (-1000000) (min 1000000 (x2 * x3))) σ) ∧
           (x1 ≠ 34 →
            (x1 = 35 →
             ((x3 ≠ 0) →
              (x3 ≠ 0) ∧
              R32 (Int.tdiv x2 x3) ∧
              Q (Int.tdiv x2 x3) σ) ∧
             ((x3 = 0) →
              Q 0 σ)) ∧
            (x1 ≠ 35 →
             (x1 = 39 →
              ((x3 < x2) →
               Q 0 σ) ∧
              ((x2 ≤ x3) →
               Q 1 σ)) ∧
             (x1 ≠ 39 →
              (x1 = 40 →
               ((x2 < x3) →
                Q 0 σ) ∧
               ((x3 ≤ x2) →
                Q 1 σ)) ∧
              (x1 ≠ 40 →
               ((x2 = x3) →
                Q 0 σ) ∧
               ((x2 ≠ x3) →
                Q 1 σ)))))))))))))
theorem mt_X2_joined {d : Nat} (hd : 1 ≤ d) {x1 : Int} {x2 : Int} {x3 : Int} {σ : Mem} {Q : Int → Mem → Prop} (hx1 : R32 x1) (hx2 : R32 x2) (hx3 : R32 x3) (hO : OKm σ) (h : wp_X2_joined x1 x2 x3 σ Q) : Mt yX2_joined cX2_joined 3 (some .int) d [aI (x1), aI (x2), aI (x3)] σ (QI Q) := by
  refine Mt.intro (by decide +kernel) (Nat.le_of_ble_eq_true rfl) [(0, aI (x1)), (1, aI (x2)), (2, aI (x3))] rfl ?_
  unfold wp_X2_joined at h
  refine G_iload_n 0 rfl rfl dX2_joined_0 ?_
  refine G_tsw (tgt := 177) 0 18 (by decide) (rL _ rfl) (by decide) rfl (by decide) hx1 dX2_joined_1 (fun n38 => ?_) (fun n38 => ?_)
  · have h := h.1 n38
    refine G_iload_n 1 rfl rfl dX2_joined_177 ?_
    obtain ⟨c2, h⟩ := h
    refine G_callS (as := [_]) cf_X2_140 rfl (sp_J9_abs_0f7a4 (d - 1) (by omega) _ hO _ hx2 c2) (by omega) rfl rfl (Nat.le_of_ble_eq_true rfl) dX2_joined_178 ?_
    rintro _ _ ⟨_, rfl, rfl, rfl⟩ o4 r3
    refine G_i2l (r3 _ rfl) dX2_joined_181 ?_
    refine G_iload_n 2 rfl rfl dX2_joined_182 ?_
    obtain ⟨c5, h⟩ := h
    refine G_callS (as := [_]) cf_X2_140 rfl (sp_J9_abs_0f7a4 (d - 1) (by omega) _ hO _ hx3 c5) (by omega) rfl rfl (Nat.le_of_ble_eq_true rfl) dX2_joined_183 ?_
    rintro _ _ ⟨_, rfl, rfl, rfl⟩ o7 r6
    refine G_i2l (r6 _ rfl) dX2_joined_186 ?_
    obtain ⟨c8, h⟩ := h
    refine G_callS (as := [_, _]) cf_X2_144 rfl (sp_X2_commonPart (d - 1) (by omega) _ hO _ (r32_64 (r3 _ rfl)) _ (r32_64 (r6 _ rfl)) c8) (by omega) rfl rfl (Nat.le_of_ble_eq_true rfl) dX2_joined_187 ?_
    rintro _ _ ⟨_, rfl, rfl, rfl⟩ o10 r9
    refine G_l2i dX2_joined_190 ?_
    obtain ⟨c11, h⟩ := h
    exact G_iret rfl c11 dX2_joined_191 ⟨_, rfl, h⟩ hO
  · have h := h.2 n38
    have n39 : (19 : Int) ≤ x1 ∨ x1 < 18 := tsw_next (by decide) (tsw_0 _ _) n38
    refine G_tsw (tgt := 255) 1 19 (by decide) (rL _ rfl) (by decide) rfl (by decide) hx1 dX2_joined_1 (fun n40 => ?_) (fun n40 => ?_)
    · have h := (((((((((((h).2 (tsw_ne n40 (by decide))).2 (tsw_ne n40 (by decide))).2 (tsw_ne n40 (by decide))).2 (tsw_ne n40 (by decide))).2 (tsw_ne n40 (by decide))).2 (tsw_ne n40 (by decide))).2 (tsw_ne n40 (by decide))).2 (tsw_ne n40 (by decide))).2 (tsw_ne n40 (by decide))).2 (tsw_ne n40 (by decide))).2 (tsw_ne n40 (by decide))
      refine G_iload_n 1 rfl rfl dX2_joined_255 ?_
      refine G_iload_n 2 rfl rfl dX2_joined_256 ?_
      refine G_icmp_eq hx2 hx3 dX2_joined_257 (tgt := 264) (by decide) (fun c37 => ?_) (fun c37 => ?_)
      · have h := h.1 c37
        refine G_iconst dX2_joined_264 ?_
        exact G_iret rfl (rL 0 rfl) dX2_joined_265 ⟨_, rfl, h⟩ hO
      · have h := h.2 c37
        refine G_iconst dX2_joined_260 ?_
        refine G_goto (tgt := 265) dX2_joined_261 (by decide) ?_
        exact G_iret rfl (rL 1 rfl) dX2_joined_265 ⟨_, rfl, h⟩ hO
    · have n41 : (20 : Int) ≤ x1 ∨ x1 < 18 := tsw_next (by decide) n39 n40
      refine G_tsw (tgt := 255) 2 20 (by decide) (rL _ rfl) (by decide) rfl (by decide) hx1 dX2_joined_1 (fun n42 => ?_) (fun n42 => ?_)
      · have h := (((((((((((h).2 (tsw_ne n42 (by decide))).2 (tsw_ne n42 (by decide))).2 (tsw_ne n42 (by decide))).2 (tsw_ne n42 (by decide))).2 (tsw_ne n42 (by decide))).2 (tsw_ne n42 (by decide))).2 (tsw_ne n42 (by decide))).2 (tsw_ne n42 (by decide))).2 (tsw_ne n42 (by decide))).2 (tsw_ne n42 (by decide))).2 (tsw_ne n42 (by decide))
        refine G_iload_n 1 rfl rfl dX2_joined_255 ?_
        refine G_iload_n 2 rfl rfl dX2_joined_256 ?_
        refine G_icmp_eq hx2 hx3 dX2_joined_257 (tgt := 264) (by decide) (fun c37 => ?_) (fun c37 => ?_)
        · have h := h.1 c37
          refine G_iconst dX2_joined_264 ?_
          exact G_iret rfl (rL 0 rfl) dX2_joined_265 ⟨_, rfl, h⟩ hO
        · have h := h.2 c37
          refine G_iconst dX2_joined_260 ?_
          refine G_goto (tgt := 265) dX2_joined_261 (by decide) ?_
          exact G_iret rfl (rL 1 rfl) dX2_joined_265 ⟨_, rfl, h⟩ hO
      · have n43 : (21 : Int) ≤ x1 ∨ x1 < 18 := tsw_next (by decide) n41 n42
        refine G_tsw (tgt := 255) 3 21 (by decide) (rL _ rfl) (by decide) rfl (by decide) hx1 dX2_joined_1 (fun n44 => ?_) (fun n44 => ?_)
        · have h := (((((((((((h).2 (tsw_ne n44 (by decide))).2 (tsw_ne n44 (by decide))).2 (tsw_ne n44 (by decide))).2 (tsw_ne n44 (by decide))).2 (tsw_ne n44 (by decide))).2 (tsw_ne n44 (by decide))).2 (tsw_ne n44 (by decide))).2 (tsw_ne n44 (by decide))).2 (tsw_ne n44 (by decide))).2 (tsw_ne n44 (by decide))).2 (tsw_ne n44 (by decide))
          refine G_iload_n 1 rfl rfl dX2_joined_255 ?_
          refine G_iload_n 2 rfl rfl dX2_joined_256 ?_
          refine G_icmp_eq hx2 hx3 dX2_joined_257 (tgt := 264) (by decide) (fun c37 => ?_) (fun c37 => ?_)
          · have h := h.1 c37
            refine G_iconst dX2_joined_264 ?_
            exact G_iret rfl (rL 0 rfl) dX2_joined_265 ⟨_, rfl, h⟩ hO
          · have h := h.2 c37
            refine G_iconst dX2_joined_260 ?_
            refine G_goto (tgt := 265) dX2_joined_261 (by decide) ?_
            exact G_iret rfl (rL 1 rfl) dX2_joined_265 ⟨_, rfl, h⟩ hO
        · have n45 : (22 : Int) ≤ x1 ∨ x1 < 18 := tsw_next (by decide) n43 n44
          refine G_tsw (tgt := 255) 4 22 (by decide) (rL _ rfl) (by decide) rfl (by decide) hx1 dX2_joined_1 (fun n46 => ?_) (fun n46 => ?_)
          · have h := (((((((((((h).2 (tsw_ne n46 (by decide))).2 (tsw_ne n46 (by decide))).2 (tsw_ne n46 (by decide))).2 (tsw_ne n46 (by decide))).2 (tsw_ne n46 (by decide))).2 (tsw_ne n46 (by decide))).2 (tsw_ne n46 (by decide))).2 (tsw_ne n46 (by decide))).2 (tsw_ne n46 (by decide))).2 (tsw_ne n46 (by decide))).2 (tsw_ne n46 (by decide))
            refine G_iload_n 1 rfl rfl dX2_joined_255 ?_
            refine G_iload_n 2 rfl rfl dX2_joined_256 ?_
            refine G_icmp_eq hx2 hx3 dX2_joined_257 (tgt := 264) (by decide) (fun c37 => ?_) (fun c37 => ?_)
            · have h := h.1 c37
              refine G_iconst dX2_joined_264 ?_
              exact G_iret rfl (rL 0 rfl) dX2_joined_265 ⟨_, rfl, h⟩ hO
            · have h := h.2 c37
              refine G_iconst dX2_joined_260 ?_
              refine G_goto (tgt := 265) dX2_joined_261 (by decide) ?_
              exact G_iret rfl (rL 1 rfl) dX2_joined_265 ⟨_, rfl, h⟩ hO
          · have n47 : (23 : Int) ≤ x1 ∨ x1 < 18 := tsw_next (by decide) n45 n46
            refine G_tsw (tgt := 255) 5 23 (by decide) (rL _ rfl) (by decide) rfl (by decide) hx1 dX2_joined_1 (fun n48 => ?_) (fun n48 => ?_)
            · have h := (((((((((((h).2 (tsw_ne n48 (by decide))).2 (tsw_ne n48 (by decide))).2 (tsw_ne n48 (by decide))).2 (tsw_ne n48 (by decide))).2 (tsw_ne n48 (by decide))).2 (tsw_ne n48 (by decide))).2 (tsw_ne n48 (by decide))).2 (tsw_ne n48 (by decide))).2 (tsw_ne n48 (by decide))).2 (tsw_ne n48 (by decide))).2 (tsw_ne n48 (by decide))
              refine G_iload_n 1 rfl rfl dX2_joined_255 ?_
              refine G_iload_n 2 rfl rfl dX2_joined_256 ?_
              refine G_icmp_eq hx2 hx3 dX2_joined_257 (tgt := 264) (by decide) (fun c37 => ?_) (fun c37 => ?_)
              · have h := h.1 c37
                refine G_iconst dX2_joined_264 ?_
                exact G_iret rfl (rL 0 rfl) dX2_joined_265 ⟨_, rfl, h⟩ hO
              · have h := h.2 c37
                refine G_iconst dX2_joined_260 ?_
                refine G_goto (tgt := 265) dX2_joined_261 (by decide) ?_
                exact G_iret rfl (rL 1 rfl) dX2_joined_265 ⟨_, rfl, h⟩ hO
            · have n49 : (24 : Int) ≤ x1 ∨ x1 < 18 := tsw_next (by decide) n47 n48
              refine G_tsw (tgt := 255) 6 24 (by decide) (rL _ rfl) (by decide) rfl (by decide) hx1 dX2_joined_1 (fun n50 => ?_) (fun n50 => ?_)
              · have h := (((((((((((h).2 (tsw_ne n50 (by decide))).2 (tsw_ne n50 (by decide))).2 (tsw_ne n50 (by decide))).2 (tsw_ne n50 (by decide))).2 (tsw_ne n50 (by decide))).2 (tsw_ne n50 (by decide))).2 (tsw_ne n50 (by decide))).2 (tsw_ne n50 (by decide))).2 (tsw_ne n50 (by decide))).2 (tsw_ne n50 (by decide))).2 (tsw_ne n50 (by decide))
                refine G_iload_n 1 rfl rfl dX2_joined_255 ?_
                refine G_iload_n 2 rfl rfl dX2_joined_256 ?_
                refine G_icmp_eq hx2 hx3 dX2_joined_257 (tgt := 264) (by decide) (fun c37 => ?_) (fun c37 => ?_)
                · have h := h.1 c37
                  refine G_iconst dX2_joined_264 ?_
                  exact G_iret rfl (rL 0 rfl) dX2_joined_265 ⟨_, rfl, h⟩ hO
                · have h := h.2 c37
                  refine G_iconst dX2_joined_260 ?_
                  refine G_goto (tgt := 265) dX2_joined_261 (by decide) ?_
                  exact G_iret rfl (rL 1 rfl) dX2_joined_265 ⟨_, rfl, h⟩ hO
              · have n51 : (25 : Int) ≤ x1 ∨ x1 < 18 := tsw_next (by decide) n49 n50
                refine G_tsw (tgt := 192) 7 25 (by decide) (rL _ rfl) (by decide) rfl (by decide) hx1 dX2_joined_1 (fun n52 => ?_) (fun n52 => ?_)
                · have h := h.1 n52
                  refine G_iload_n 1 rfl rfl dX2_joined_192 ?_
                  refine G_iload_n 2 rfl rfl dX2_joined_193 ?_
                  refine G_ior dX2_joined_194 ?_
                  exact G_iret rfl (r32_of _) dX2_joined_195 ⟨_, rfl, h⟩ hO
                · have h := h.2 n52
                  have n53 : (26 : Int) ≤ x1 ∨ x1 < 18 := tsw_next (by decide) n51 n52
                  refine G_tsw (tgt := 196) 8 26 (by decide) (rL _ rfl) (by decide) rfl (by decide) hx1 dX2_joined_1 (fun n54 => ?_) (fun n54 => ?_)
                  · have h := h.1 n54
                    refine G_iload_n 1 rfl rfl dX2_joined_196 ?_
                    refine G_iload_n 2 rfl rfl dX2_joined_197 ?_
                    refine G_iand dX2_joined_198 ?_
                    exact G_iret rfl (r32_of _) dX2_joined_199 ⟨_, rfl, h⟩ hO
                  · have h := h.2 n54
                    have n55 : (27 : Int) ≤ x1 ∨ x1 < 18 := tsw_next (by decide) n53 n54
                    refine G_tsw (tgt := 255) 9 27 (by decide) (rL _ rfl) (by decide) rfl (by decide) hx1 dX2_joined_1 (fun n56 => ?_) (fun n56 => ?_)
                    · have h := (((((((((h).2 (tsw_ne n56 (by decide))).2 (tsw_ne n56 (by decide))).2 (tsw_ne n56 (by decide))).2 (tsw_ne n56 (by decide))).2 (tsw_ne n56 (by decide))).2 (tsw_ne n56 (by decide))).2 (tsw_ne n56 (by decide))).2 (tsw_ne n56 (by decide))).2 (tsw_ne n56 (by decide))
                      refine G_iload_n 1 rfl rfl dX2_joined_255 ?_
                      refine G_iload_n 2 rfl rfl dX2_joined_256 ?_
                      refine G_icmp_eq hx2 hx3 dX2_joined_257 (tgt := 264) (by decide) (fun c37 => ?_) (fun c37 => ?_)
                      · have h := h.1 c37
                        refine G_iconst dX2_joined_264 ?_
                        exact G_iret rfl (rL 0 rfl) dX2_joined_265 ⟨_, rfl, h⟩ hO
                      · have h := h.2 c37
                        refine G_iconst dX2_joined_260 ?_
                        refine G_goto (tgt := 265) dX2_joined_261 (by decide) ?_
                        exact G_iret rfl (rL 1 rfl) dX2_joined_265 ⟨_, rfl, h⟩ hO
                    · have n57 : (28 : Int) ≤ x1 ∨ x1 < 18 := tsw_next (by decide) n55 n56
                      refine G_tsw (tgt := 200) 10 28 (by decide) (rL _ rfl) (by decide) rfl (by decide) hx1 dX2_joined_1 (fun n58 => ?_) (fun n58 => ?_)
                      · have h := h.1 n58
                        refine G_iload_n 1 rfl rfl dX2_joined_200 ?_
                        refine G_iload_n 2 rfl rfl dX2_joined_201 ?_
                        refine G_icmp_ge hx2 hx3 dX2_joined_202 (tgt := 209) (by decide) (fun c15 => ?_) (fun c15 => ?_)
                        · have h := h.1 c15
                          refine G_iconst dX2_joined_209 ?_
                          exact G_iret rfl (rL 0 rfl) dX2_joined_210 ⟨_, rfl, h⟩ hO
                        · have h := h.2 c15
                          refine G_iconst dX2_joined_205 ?_
                          refine G_goto (tgt := 210) dX2_joined_206 (by decide) ?_
                          exact G_iret rfl (rL 1 rfl) dX2_joined_210 ⟨_, rfl, h⟩ hO
                      · have h := h.2 n58
                        have n59 : (29 : Int) ≤ x1 ∨ x1 < 18 := tsw_next (by decide) n57 n58
                        refine G_tsw (tgt := 222) 11 29 (by decide) (rL _ rfl) (by decide) rfl (by decide) hx1 dX2_joined_1 (fun n60 => ?_) (fun n60 => ?_)
                        · have h := h.1 n60
                          refine G_iload_n 1 rfl rfl dX2_joined_222 ?_
                          refine G_iload_n 2 rfl rfl dX2_joined_223 ?_
                          refine G_icmp_le hx2 hx3 dX2_joined_224 (tgt := 231) (by decide) (fun c17 => ?_) (fun c17 => ?_)
                          · have h := h.1 c17
                            refine G_iconst dX2_joined_231 ?_
                            exact G_iret rfl (rL 0 rfl) dX2_joined_232 ⟨_, rfl, h⟩ hO
                          · have h := h.2 c17
                            refine G_iconst dX2_joined_227 ?_
                            refine G_goto (tgt := 232) dX2_joined_228 (by decide) ?_
                            exact G_iret rfl (rL 1 rfl) dX2_joined_232 ⟨_, rfl, h⟩ hO
                        · have h := h.2 n60
                          have n61 : (30 : Int) ≤ x1 ∨ x1 < 18 := tsw_next (by decide) n59 n60
                          refine G_tsw (tgt := 244) 12 30 (by decide) (rL _ rfl) (by decide) rfl (by decide) hx1 dX2_joined_1 (fun n62 => ?_) (fun n62 => ?_)
                          · have h := h.1 n62
                            refine G_iload_n 1 rfl rfl dX2_joined_244 ?_
                            refine G_iload_n 2 rfl rfl dX2_joined_245 ?_
                            refine G_icmp_ne hx2 hx3 dX2_joined_246 (tgt := 253) (by decide) (fun c19 => ?_) (fun c19 => ?_)
                            · have h := h.1 c19
                              refine G_iconst dX2_joined_253 ?_
                              exact G_iret rfl (rL 0 rfl) dX2_joined_254 ⟨_, rfl, h⟩ hO
                            · have h := h.2 c19
                              refine G_iconst dX2_joined_249 ?_
                              refine G_goto (tgt := 254) dX2_joined_250 (by decide) ?_
                              exact G_iret rfl (rL 1 rfl) dX2_joined_254 ⟨_, rfl, h⟩ hO
                          · have h := h.2 n62
                            have n63 : (31 : Int) ≤ x1 ∨ x1 < 18 := tsw_next (by decide) n61 n62
                            refine G_tsw (tgt := 255) 13 31 (by decide) (rL _ rfl) (by decide) rfl (by decide) hx1 dX2_joined_1 (fun n64 => ?_) (fun n64 => ?_)
                            · have h := ((((((h).2 (tsw_ne n64 (by decide))).2 (tsw_ne n64 (by decide))).2 (tsw_ne n64 (by decide))).2 (tsw_ne n64 (by decide))).2 (tsw_ne n64 (by decide))).2 (tsw_ne n64 (by decide))
                              refine G_iload_n 1 rfl rfl dX2_joined_255 ?_
                              refine G_iload_n 2 rfl rfl dX2_joined_256 ?_
                              refine G_icmp_eq hx2 hx3 dX2_joined_257 (tgt := 264) (by decide) (fun c37 => ?_) (fun c37 => ?_)
                              · have h := h.1 c37
                                refine G_iconst dX2_joined_264 ?_
                                exact G_iret rfl (rL 0 rfl) dX2_joined_265 ⟨_, rfl, h⟩ hO
                              · have h := h.2 c37
                                refine G_iconst dX2_joined_260 ?_
                                refine G_goto (tgt := 265) dX2_joined_261 (by decide) ?_
                                exact G_iret rfl (rL 1 rfl) dX2_joined_265 ⟨_, rfl, h⟩ hO
                            · have n65 : (32 : Int) ≤ x1 ∨ x1 < 18 := tsw_next (by decide) n63 n64
                              refine G_tsw (tgt := 108) 14 32 (by decide) (rL _ rfl) (by decide) rfl (by decide) hx1 dX2_joined_1 (fun n66 => ?_) (fun n66 => ?_)
                              · have h := h.1 n66
                                refine G_ldc2 (n := (-1000000)) rfl (by decide) kc_X2_131 dX2_joined_108 ?_
                                refine G_ldc2 (n := 1000000) rfl (by decide) kc_X2_133 dX2_joined_111 ?_
                                refine G_iload_n 1 rfl rfl dX2_joined_114 ?_
                                refine G_i2l hx2 dX2_joined_115 ?_
                                refine G_iload_n 2 rfl rfl dX2_joined_116 ?_
                                refine G_i2l hx3 dX2_joined_117 ?_
                                refine G_ladd dX2_joined_118 ?_
                                obtain ⟨c21, h⟩ := h
                                refine G_mminL rfl (rLL 1000000 rfl) c21 (Nat.le_of_ble_eq_true rfl) sf_X2_135 dX2_joined_119 ?_
                                refine G_mmaxL rfl (rLL (-1000000) rfl) (r64_min (rLL 1000000 rfl) c21) (Nat.le_of_ble_eq_true rfl) sf_X2_138 dX2_joined_122 ?_
                                refine G_l2i dX2_joined_125 ?_
                                obtain ⟨c22, h⟩ := h
                                exact G_iret rfl c22 dX2_joined_126 ⟨_, rfl, h⟩ hO
                              · have h := h.2 n66
                                have n67 : (33 : Int) ≤ x1 ∨ x1 < 18 := tsw_next (by decide) n65 n66
                                refine G_tsw (tgt := 127) 15 33 (by decide) (rL _ rfl) (by decide) rfl (by decide) hx1 dX2_joined_1 (fun n68 => ?_) (fun n68 => ?_)
                                · have h := h.1 n68
                                  refine G_ldc2 (n := (-1000000)) rfl (by decide) kc_X2_131 dX2_joined_127 ?_
                                  refine G_ldc2 (n := 1000000) rfl (by decide) kc_X2_133 dX2_joined_130 ?_
                                  refine G_iload_n 1 rfl rfl dX2_joined_133 ?_
                                  refine G_i2l hx2 dX2_joined_134 ?_
                                  refine G_iload_n 2 rfl rfl dX2_joined_135 ?_
                                  refine G_i2l hx3 dX2_joined_136 ?_
                                  refine G_lsub dX2_joined_137 ?_
                                  obtain ⟨c24, h⟩ := h
                                  refine G_mminL rfl (rLL 1000000 rfl) c24 (Nat.le_of_ble_eq_true rfl) sf_X2_135 dX2_joined_138 ?_
                                  refine G_mmaxL rfl (rLL (-1000000) rfl) (r64_min (rLL 1000000 rfl) c24) (Nat.le_of_ble_eq_true rfl) sf_X2_138 dX2_joined_141 ?_
                                  refine G_l2i dX2_joined_144 ?_
                                  obtain ⟨c25, h⟩ := h
                                  exact G_iret rfl c25 dX2_joined_145 ⟨_, rfl, h⟩ hO
                                · have h := h.2 n68
                                  have n69 : (34 : Int) ≤ x1 ∨ x1 < 18 := tsw_next (by decide) n67 n68
                                  refine G_tsw (tgt := 146) 16 34 (by decide) (rL _ rfl) (by decide) rfl (by decide) hx1 dX2_joined_1 (fun n70 => ?_) (fun n70 => ?_)
                                  · have h := h.1 n70
                                    refine G_ldc2 (n := (-1000000)) rfl (by decide) kc_X2_131 dX2_joined_146 ?_
                                    refine G_ldc2 (n := 1000000) rfl (by decide) kc_X2_133 dX2_joined_149 ?_
                                    refine G_iload_n 1 rfl rfl dX2_joined_152 ?_
                                    refine G_i2l hx2 dX2_joined_153 ?_
                                    refine G_iload_n 2 rfl rfl dX2_joined_154 ?_
                                    refine G_i2l hx3 dX2_joined_155 ?_
                                    refine G_lmul dX2_joined_156 ?_
                                    obtain ⟨c27, h⟩ := h
                                    refine G_mminL rfl (rLL 1000000 rfl) c27 (Nat.le_of_ble_eq_true rfl) sf_X2_135 dX2_joined_157 ?_
                                    refine G_mmaxL rfl (rLL (-1000000) rfl) (r64_min (rLL 1000000 rfl) c27) (Nat.le_of_ble_eq_true rfl) sf_X2_138 dX2_joined_160 ?_
                                    refine G_l2i dX2_joined_163 ?_
                                    obtain ⟨c28, h⟩ := h
                                    exact G_iret rfl c28 dX2_joined_164 ⟨_, rfl, h⟩ hO
                                  · have h := h.2 n70
                                    have n71 : (35 : Int) ≤ x1 ∨ x1 < 18 := tsw_next (by decide) n69 n70
                                    refine G_tsw (tgt := 165) 17 35 (by decide) (rL _ rfl) (by decide) rfl (by decide) hx1 dX2_joined_1 (fun n72 => ?_) (fun n72 => ?_)
                                    · have h := h.1 n72
                                      refine G_iload_n 2 rfl rfl dX2_joined_165 ?_
                                      refine G_if_ne hx3 dX2_joined_166 (tgt := 173) (by decide) (fun c30 => ?_) (fun c30 => ?_)
                                      · have h := h.1 c30
                                        refine G_iload_n 1 rfl rfl dX2_joined_173 ?_
                                        refine G_iload_n 2 rfl rfl dX2_joined_174 ?_
                                        obtain ⟨c31, h⟩ := h
                                        refine G_idiv hx2 hx3 c31 dX2_joined_175 ?_
                                        obtain ⟨c32, h⟩ := h
                                        exact G_iret rfl c32 dX2_joined_176 ⟨_, rfl, h⟩ hO
                                      · have h := h.2 c30
                                        refine G_iconst dX2_joined_169 ?_
                                        refine G_goto (tgt := 176) dX2_joined_170 (by decide) ?_
                                        exact G_iret rfl (rL 0 rfl) dX2_joined_176 ⟨_, rfl, h⟩ hO
                                    · have h := h.2 n72
                                      have n73 : (36 : Int) ≤ x1 ∨ x1 < 18 := tsw_next (by decide) n71 n72
                                      refine G_tsw (tgt := 255) 18 36 (by decide) (rL _ rfl) (by decide) rfl (by decide) hx1 dX2_joined_1 (fun n74 => ?_) (fun n74 => ?_)
                                      · have h := ((h).2 (tsw_ne n74 (by decide))).2 (tsw_ne n74 (by decide))
                                        refine G_iload_n 1 rfl rfl dX2_joined_255 ?_
                                        refine G_iload_n 2 rfl rfl dX2_joined_256 ?_
                                        refine G_icmp_eq hx2 hx3 dX2_joined_257 (tgt := 264) (by decide) (fun c37 => ?_) (fun c37 => ?_)
                                        · have h := h.1 c37
                                          refine G_iconst dX2_joined_264 ?_
                                          exact G_iret rfl (rL 0 rfl) dX2_joined_265 ⟨_, rfl, h⟩ hO
                                        · have h := h.2 c37
                                          refine G_iconst dX2_joined_260 ?_
                                          refine G_goto (tgt := 265) dX2_joined_261 (by decide) ?_
                                          exact G_iret rfl (rL 1 rfl) dX2_joined_265 ⟨_, rfl, h⟩ hO
                                      · have n75 : (37 : Int) ≤ x1 ∨ x1 < 18 := tsw_next (by decide) n73 n74
                                        refine G_tsw (tgt := 255) 19 37 (by decide) (rL _ rfl) (by decide) rfl (by decide) hx1 dX2_joined_1 (fun n76 => ?_) (fun n76 => ?_)
                                        · have h := ((h).2 (tsw_ne n76 (by decide))).2 (tsw_ne n76 (by decide))
                                          refine G_iload_n 1 rfl rfl dX2_joined_255 ?_
                                          refine G_iload_n 2 rfl rfl dX2_joined_256 ?_
                                          refine G_icmp_eq hx2 hx3 dX2_joined_257 (tgt := 264) (by decide) (fun c37 => ?_) (fun c37 => ?_)
                                          · have h := h.1 c37
                                            refine G_iconst dX2_joined_264 ?_
                                            exact G_iret rfl (rL 0 rfl) dX2_joined_265 ⟨_, rfl, h⟩ hO
                                          · have h := h.2 c37
                                            refine G_iconst dX2_joined_260 ?_
                                            refine G_goto (tgt := 265) dX2_joined_261 (by decide) ?_
                                            exact G_iret rfl (rL 1 rfl) dX2_joined_265 ⟨_, rfl, h⟩ hO
                                        · have n77 : (38 : Int) ≤ x1 ∨ x1 < 18 := tsw_next (by decide) n75 n76
                                          refine G_tsw (tgt := 255) 20 38 (by decide) (rL _ rfl) (by decide) rfl (by decide) hx1 dX2_joined_1 (fun n78 => ?_) (fun n78 => ?_)
                                          · have h := ((h).2 (tsw_ne n78 (by decide))).2 (tsw_ne n78 (by decide))
                                            refine G_iload_n 1 rfl rfl dX2_joined_255 ?_
                                            refine G_iload_n 2 rfl rfl dX2_joined_256 ?_
                                            refine G_icmp_eq hx2 hx3 dX2_joined_257 (tgt := 264) (by decide) (fun c37 => ?_) (fun c37 => ?_)
                                            · have h := h.1 c37
                                              refine G_iconst dX2_joined_264 ?_
                                              exact G_iret rfl (rL 0 rfl) dX2_joined_265 ⟨_, rfl, h⟩ hO
                                            · have h := h.2 c37
                                              refine G_iconst dX2_joined_260 ?_
                                              refine G_goto (tgt := 265) dX2_joined_261 (by decide) ?_
                                              exact G_iret rfl (rL 1 rfl) dX2_joined_265 ⟨_, rfl, h⟩ hO
                                          · have n79 : (39 : Int) ≤ x1 ∨ x1 < 18 := tsw_next (by decide) n77 n78
                                            refine G_tsw (tgt := 211) 21 39 (by decide) (rL _ rfl) (by decide) rfl (by decide) hx1 dX2_joined_1 (fun n80 => ?_) (fun n80 => ?_)
                                            · have h := h.1 n80
                                              refine G_iload_n 1 rfl rfl dX2_joined_211 ?_
                                              refine G_iload_n 2 rfl rfl dX2_joined_212 ?_
                                              refine G_icmp_gt hx2 hx3 dX2_joined_213 (tgt := 220) (by decide) (fun c34 => ?_) (fun c34 => ?_)
                                              · have h := h.1 c34
                                                refine G_iconst dX2_joined_220 ?_
                                                exact G_iret rfl (rL 0 rfl) dX2_joined_221 ⟨_, rfl, h⟩ hO
                                              · have h := h.2 c34
                                                refine G_iconst dX2_joined_216 ?_
                                                refine G_goto (tgt := 221) dX2_joined_217 (by decide) ?_
                                                exact G_iret rfl (rL 1 rfl) dX2_joined_221 ⟨_, rfl, h⟩ hO
                                            · have h := h.2 n80
                                              have n81 : (40 : Int) ≤ x1 ∨ x1 < 18 := tsw_next (by decide) n79 n80
                                              refine G_tsw (tgt := 233) 22 40 (by decide) (rL _ rfl) (by decide) rfl (by decide) hx1 dX2_joined_1 (fun n82 => ?_) (fun n82 => ?_)
                                              · have h := h.1 n82
                                                refine G_iload_n 1 rfl rfl dX2_joined_233 ?_
                                                refine G_iload_n 2 rfl rfl dX2_joined_234 ?_
                                                refine G_icmp_lt hx2 hx3 dX2_joined_235 (tgt := 242) (by decide) (fun c36 => ?_) (fun c36 => ?_)
                                                · have h := h.1 c36
                                                  refine G_iconst dX2_joined_242 ?_
                                                  exact G_iret rfl (rL 0 rfl) dX2_joined_243 ⟨_, rfl, h⟩ hO
                                                · have h := h.2 c36
                                                  refine G_iconst dX2_joined_238 ?_
                                                  refine G_goto (tgt := 243) dX2_joined_239 (by decide) ?_
                                                  exact G_iret rfl (rL 1 rfl) dX2_joined_243 ⟨_, rfl, h⟩ hO
                                              · have h := h.2 n82
                                                have n83 : (41 : Int) ≤ x1 ∨ x1 < 18 := tsw_next (by decide) n81 n82
                                                refine G_tswd (tgt := 255) hx1 (tsw_out n83) (by decide) dX2_joined_1 ?_
                                                refine G_iload_n 1 rfl rfl dX2_joined_255 ?_
                                                refine G_iload_n 2 rfl rfl dX2_joined_256 ?_
                                                refine G_icmp_eq hx2 hx3 dX2_joined_257 (tgt := 264) (by decide) (fun c37 => ?_) (fun c37 => ?_)
                                                · have h := h.1 c37
                                                  refine G_iconst dX2_joined_264 ?_
                                                  exact G_iret rfl (rL 0 rfl) dX2_joined_265 ⟨_, rfl, h⟩ hO
                                                · have h := h.2 c37
                                                  refine G_iconst dX2_joined_260 ?_
                                                  refine G_goto (tgt := 265) dX2_joined_261 (by decide) ?_
                                                  exact G_iret rfl (rL 1 rfl) dX2_joined_265 ⟨_, rfl, h⟩ hO

theorem sp_X2_joined (d : Nat) (hd : 1 ≤ d) (σ : Mem) (hO : OKm σ) (x1 : Int) (hx1 : R32 x1) (x2 : Int) (hx2 : R32 x2) (x3 : Int) (hx3 : R32 x3) (hpre : -1000001 ≤ x2 ∧ x2 ≤ 1000001 ∧ -1000001 ≤ x3 ∧ x3 ≤ 1000001) : Mt yX2_joined cX2_joined 3 (some .int) d [aI (x1), aI (x2), aI (x3)] σ (QI (fun v σ' => (jn x1 x2 x3) = v ∧ σ = σ')) := mt_X2_joined hd hx1 hx2 hx3 hO (by
  unfold wp_X2_joined
  have hm := mul_b (a := x2) (b := x3) (by omega) (by omega)
  have h0 : 0 ≤ iabs x2 ∧ 0 ≤ iabs x3 ∧ iabs x2 ≤ 1000001 ∧ iabs x3 ≤ 1000001 := by unfold iabs; (repeat' split) <;> omega
  have hg1 := gcdI_nn (iabs x2) (iabs x3)
  have hg2 := gcdI_le (M := 1000001) ⟨h0.1, h0.2.2.1⟩ ⟨h0.2.1, h0.2.2.2⟩
  have hd1 := tdiv_b (a := x2) (b := x3) (by omega)
  have c1 := clip_r (x2 + x3)
  have c2 := clip_r (x2 - x3)
  have c3 := clip_r (x2 * x3)
  unfold clip at c1 c2 c3
  unfold R32 R64 at *
  unfold jn
  refine And.intro (fun h => ?_) (fun h => ?_)
  · rw [if_pos h]; clear h
    first | exact ⟨by omega, by omega, by omega, by omega, rfl, rfl⟩ | (refine ⟨?_, ?_, ?_, ?_⟩ <;> first | omega | exact ⟨rfl, rfl⟩)
  rw [if_neg h]; clear h
  refine And.intro (fun h => ?_) (fun h => ?_)
  · rw [if_pos h]; clear h
    exact ⟨rfl, rfl⟩
  rw [if_neg h]; clear h
  refine And.intro (fun h => ?_) (fun h => ?_)
  · rw [if_pos h]; clear h
    exact ⟨rfl, rfl⟩
  rw [if_neg h]; clear h
  refine And.intro (fun h => ?_) (fun h => ?_)
  · rw [if_pos h]; clear h
    grind [bI]
  rw [if_neg h]; clear h
  refine And.intro (fun h => ?_) (fun h => ?_)
  · rw [if_pos h]; clear h
    grind [bI]
  rw [if_neg h]; clear h
  refine And.intro (fun h => ?_) (fun h => ?_)
  · rw [if_pos h]; clear h
    grind [bI]
  rw [if_neg h]; clear h
  refine And.intro (fun h => ?_) (fun h => ?_)
  · rw [if_pos h]; clear h
    unfold clip; grind
  rw [if_neg h]; clear h
  refine And.intro (fun h => ?_) (fun h => ?_)
  · rw [if_pos h]; clear h
    unfold clip; grind
  rw [if_neg h]; clear h
  refine And.intro (fun h => ?_) (fun h => ?_)
  · rw [if_pos h]; clear h
    unfold clip; grind
  rw [if_neg h]; clear h
  refine And.intro (fun h => ?_) (fun h => ?_)
  · rw [if_pos h]; clear h
    grind
  rw [if_neg h]; clear h
  refine And.intro (fun h => ?_) (fun h => ?_)
  · rw [if_pos h]; clear h
    grind [bI]
  rw [if_neg h]; clear h
  refine And.intro (fun h => ?_) (fun h => ?_)
  · rw [if_pos h]; clear h
    grind [bI]
  rw [if_neg h]; clear h
  grind [bI])

/-- one value alone, by the class's codes -/
def aln (th : Int → Int) (c a : Int) : Int := if c = 27 then 1 - a else if c = 44 then -a else th a
/-- how thick a road is, 0 if there is none such -/
def thk0 (n : Int) (th : Int → Int) (q : Int) : Int := if 0 ≤ q ∧ q < n then th q else 0
def nmC (σ : Mem) (k g r : Int) : Int := if k = 0 then σ 10 7 else if k = 1 then σ 10 6 else if k = 2 then r else if k = 3 then σ 4 r else if k = 4 then σ 11 r else if k = 8 then σ 5 r else if 0 ≤ g ∧ g < σ 1 9 then (if k = 5 then σ 6 g else if k = 7 then σ 13 g else g) else 0

def wp_X2_alone (x1 : Int) (x2 : Int) (σ : Mem) (Q : Int → Mem → Prop) : Prop :=
  (x1 = 27 →
    R32 (1 - x2) ∧
    Q (1 - x2) σ) ∧
   (x1 ≠ 27 →
    (x1 = 44 →
     R32 (-x2) ∧
     Q (-x2) σ) ∧
    (x1 ≠ 44 →
     ((¬ (0 ≤ x2 ∧ x2 < σ 1 8)) →
      Q 0 σ) ∧
     ((0 ≤ x2 ∧ x2 < σ 1 8) →
      (0 ≤ x2 ∧ x2 < 16) ∧
      Q (σ 11 x2) σ)))
theorem mt_X2_alone {d : Nat} (hd : 1 ≤ d) {x1 : Int} {x2 : Int} {σ : Mem} {Q : Int → Mem → Prop} (hx1 : R32 x1) (hx2 : R32 x2) (hO : OKm σ) (h : wp_X2_alone x1 x2 σ Q) : Mt yX2_alone cX2_alone 3 (some .int) d [aR (36), aI (x1), aI (x2)] σ (QI Q) := by
  refine Mt.intro (by decide +kernel) (Nat.le_of_ble_eq_true rfl) [(0, aR (36)), (1, aI (x1)), (2, aI (x2))] rfl ?_
  unfold wp_X2_alone at h
  refine G_iload_n 1 rfl rfl dX2_alone_0 ?_
  refine G_lsw (tgt := 31) 27 (by decide) rfl (by decide) hx1 dX2_alone_1 (fun c1 => ?_) (fun c1 => ?_)
  · have h := h.1 c1
    refine G_iconst dX2_alone_31 ?_
    refine G_iload_n 2 rfl rfl dX2_alone_32 ?_
    refine G_isub dX2_alone_33 ?_
    obtain ⟨c2, h⟩ := h
    exact G_iret rfl c2 dX2_alone_34 ⟨_, rfl, h⟩ hO
  · have h := h.2 c1
    refine G_lsw (tgt := 28) 44 (by decide) rfl (by decide) hx1 dX2_alone_1 (fun c3 => ?_) (fun c3 => ?_)
    · have h := h.1 c3
      refine G_iload_n 2 rfl rfl dX2_alone_28 ?_
      refine G_ineg dX2_alone_29 ?_
      obtain ⟨c4, h⟩ := h
      exact G_iret rfl c4 dX2_alone_30 ⟨_, rfl, h⟩ hO
    · have h := h.2 c3
      refine G_lswd (tgt := 35) (by decide) (by simp [Op.lookupswitch.offset, Ne.symm c1, c1, Ne.symm c3, c3]) (by decide) hx1 dX2_alone_1 ?_
      refine G_aload_n 0 rfl rfl dX2_alone_35 ?_
      refine G_get (k := 0) (kd := (2, 1)) (v := aR 1) gf_X2_15 rfl rfl rfl rfl dX2_alone_36 ?_
      refine G_iload_n 2 rfl rfl dX2_alone_39 ?_
      refine G_callV (as := [_]) cf_X2_128 rfl rfl rfl (sp_X10_hasRoad (d - 1) (by omega) _ hO _ hx2) (by omega) rfl rfl (Nat.le_of_ble_eq_true rfl) dX2_alone_40 ?_
      rintro _ _ ⟨_, rfl, rfl, rfl⟩ o6 r5
      refine G_if_eq (bI_R _) dX2_alone_43 (tgt := 58) (by decide) (fun c7 => ?_) (fun c7 => ?_)
      · have h := h.1 ((bI_0 _).mp c7)
        refine G_iconst dX2_alone_58 ?_
        exact G_iret rfl (rL 0 rfl) dX2_alone_59 ⟨_, rfl, h⟩ hO
      · have h := h.2 (bI_ne c7)
        refine G_aload_n 0 rfl rfl dX2_alone_46 ?_
        refine G_get (k := 1) (kd := (2, 10)) (v := aR 10) gf_X2_19 rfl rfl rfl rfl dX2_alone_47 ?_
        refine G_get (k := 0) (kd := (3, 1)) (v := aR (11)) gf_X2_115 rfl rfl rfl rfl dX2_alone_50 ?_
        refine G_iload_n 2 rfl rfl dX2_alone_53 ?_
        obtain ⟨c8, h⟩ := h
        refine G_iald (n := 16) rfl c8.1 c8.2 dX2_alone_54 ?_
        refine G_goto (tgt := 59) dX2_alone_55 (by decide) ?_
        exact G_iret rfl (OKm.i hO 11 x2 (isLg_row (show shp 11 = (1, 16, []) from rfl) _)) dX2_alone_59 ⟨_, rfl, h⟩ hO

theorem sp_X2_alone (d : Nat) (hd : 1 ≤ d) (σ : Mem) (hO : OKm σ) (x1 : Int) (hx1 : R32 x1) (x2 : Int) (hx2 : R32 x2) (hpre : -1000001 ≤ x2 ∧ x2 ≤ 1000001 ∧ σ 1 8 ≤ 16) : Mt yX2_alone cX2_alone 3 (some .int) d [aR (36), aI (x1), aI (x2)] σ (QI (fun v σ' => (aln (thk0 (σ 1 8) (σ 11)) x1 x2) = v ∧ σ = σ')) := mt_X2_alone hd hx1 hx2 hO (by
  unfold wp_X2_alone
  unfold R32 at *
  unfold aln thk0
  grind)

def wp_X2_named (x1 : Int) (x2 : Int) (x3 : Int) (σ : Mem) (Q : Int → Mem → Prop) : Prop :=
  (x1 = 0 →
    Q (σ 10 7) σ) ∧
   (x1 ≠ 0 →
    (x1 = 1 →
     Q (σ 10 6) σ) ∧
    (x1 ≠ 1 →
     (x1 = 2 →
      Q x3 σ) ∧
     (x1 ≠ 2 →
      (x1 = 3 →
       (0 ≤ x3 ∧ x3 < 16) ∧
       Q (σ 4 x3) σ) ∧
      (x1 ≠ 3 →
       (x1 = 4 →
        (0 ≤ x3 ∧ x3 < 16) ∧
        Q (σ 11 x3) σ) ∧
       (x1 ≠ 4 →
        (x1 = 8 →
         (0 ≤ x3 ∧ x3 < 16) ∧
         Q (σ 5 x3) σ) ∧
        (x1 ≠ 8 →
         ((0 ≤ x2 ∧ x2 < σ 1 9) →
          (x1 = 5 →
           (0 ≤ x2 ∧ x2 < 6) ∧
           Q (σ 6 x2) σ) ∧
          (x1 ≠ 5 →
           (x1 = 7 →
            (0 ≤ x2 ∧ x2 < 6) ∧
            Q (σ 13 x2) σ) ∧
           (x1 ≠ 7 →
            Q x2 σ))) ∧
         ((¬ (0 ≤ x2 ∧ x2 < σ 1 9)) →
          Q 0 σ)))))))
theorem mt_X2_named {d : Nat} (hd : 1 ≤ d) {x1 : Int} {x2 : Int} {x3 : Int} {σ : Mem} {Q : Int → Mem → Prop} (hx1 : R32 x1) (hx2 : R32 x2) (hx3 : R32 x3) (hO : OKm σ) (h : wp_X2_named x1 x2 x3 σ Q) : Mt yX2_named cX2_named 4 (some .int) d [aR (36), aI (x1), aI (x2), aI (x3)] σ (QI Q) := by
  refine Mt.intro (by decide +kernel) (Nat.le_of_ble_eq_true rfl) [(0, aR (36)), (1, aI (x1)), (2, aI (x2)), (3, aI (x3))] rfl ?_
  unfold wp_X2_named at h
  refine G_iload_n 1 rfl rfl dX2_named_0 ?_
  refine G_tsw (tgt := 52) 0 0 (by decide) (rL _ rfl) (by decide) rfl (by decide) hx1 dX2_named_1 (fun n17 => ?_) (fun n17 => ?_)
  · have h := h.1 n17
    refine G_aload_n 0 rfl rfl dX2_named_52 ?_
    refine G_get (k := 1) (kd := (2, 10)) (v := aR 10) gf_X2_19 rfl rfl rfl rfl dX2_named_53 ?_
    refine G_get (k := 7) (kd := (0, 0)) (v := aI (σ 10 7)) gf_X2_109 rfl rfl rfl rfl dX2_named_56 ?_
    exact G_iret rfl (OKm.i hO 10 7 rfl) dX2_named_59 ⟨_, rfl, h⟩ hO
  · have h := h.2 n17
    have n18 : (1 : Int) ≤ x1 ∨ x1 < 0 := tsw_next (by decide) (tsw_0 _ _) n17
    refine G_tsw (tgt := 60) 1 1 (by decide) (rL _ rfl) (by decide) rfl (by decide) hx1 dX2_named_1 (fun n19 => ?_) (fun n19 => ?_)
    · have h := h.1 n19
      refine G_aload_n 0 rfl rfl dX2_named_60 ?_
      refine G_get (k := 1) (kd := (2, 10)) (v := aR 10) gf_X2_19 rfl rfl rfl rfl dX2_named_61 ?_
      refine G_get (k := 6) (kd := (0, 0)) (v := aI (σ 10 6)) gf_X2_64 rfl rfl rfl rfl dX2_named_64 ?_
      exact G_iret rfl (OKm.i hO 10 6 rfl) dX2_named_67 ⟨_, rfl, h⟩ hO
    · have h := h.2 n19
      have n20 : (2 : Int) ≤ x1 ∨ x1 < 0 := tsw_next (by decide) n18 n19
      refine G_tsw (tgt := 68) 2 2 (by decide) (rL _ rfl) (by decide) rfl (by decide) hx1 dX2_named_1 (fun n21 => ?_) (fun n21 => ?_)
      · have h := h.1 n21
        refine G_iload_n 3 rfl rfl dX2_named_68 ?_
        exact G_iret rfl hx3 dX2_named_69 ⟨_, rfl, h⟩ hO
      · have h := h.2 n21
        have n22 : (3 : Int) ≤ x1 ∨ x1 < 0 := tsw_next (by decide) n20 n21
        refine G_tsw (tgt := 70) 3 3 (by decide) (rL _ rfl) (by decide) rfl (by decide) hx1 dX2_named_1 (fun n23 => ?_) (fun n23 => ?_)
        · have h := h.1 n23
          refine G_aload_n 0 rfl rfl dX2_named_70 ?_
          refine G_get (k := 0) (kd := (2, 1)) (v := aR 1) gf_X2_15 rfl rfl rfl rfl dX2_named_71 ?_
          refine G_get (k := 2) (kd := (3, 3)) (v := aR (4)) gf_X2_112 rfl rfl rfl rfl dX2_named_74 ?_
          refine G_iload_n 3 rfl rfl dX2_named_77 ?_
          obtain ⟨c5, h⟩ := h
          refine G_iald (n := 16) rfl c5.1 c5.2 dX2_named_78 ?_
          exact G_iret rfl (OKm.i hO 4 x3 (isLg_row (show shp 4 = (1, 16, []) from rfl) _)) dX2_named_79 ⟨_, rfl, h⟩ hO
        · have h := h.2 n23
          have n24 : (4 : Int) ≤ x1 ∨ x1 < 0 := tsw_next (by decide) n22 n23
          refine G_tsw (tgt := 80) 4 4 (by decide) (rL _ rfl) (by decide) rfl (by decide) hx1 dX2_named_1 (fun n25 => ?_) (fun n25 => ?_)
          · have h := h.1 n25
            refine G_aload_n 0 rfl rfl dX2_named_80 ?_
            refine G_get (k := 1) (kd := (2, 10)) (v := aR 10) gf_X2_19 rfl rfl rfl rfl dX2_named_81 ?_
            refine G_get (k := 0) (kd := (3, 1)) (v := aR (11)) gf_X2_115 rfl rfl rfl rfl dX2_named_84 ?_
            refine G_iload_n 3 rfl rfl dX2_named_87 ?_
            obtain ⟨c7, h⟩ := h
            refine G_iald (n := 16) rfl c7.1 c7.2 dX2_named_88 ?_
            exact G_iret rfl (OKm.i hO 11 x3 (isLg_row (show shp 11 = (1, 16, []) from rfl) _)) dX2_named_89 ⟨_, rfl, h⟩ hO
          · have h := h.2 n25
            have n26 : (5 : Int) ≤ x1 ∨ x1 < 0 := tsw_next (by decide) n24 n25
            refine G_tsw (tgt := 100) 5 5 (by decide) (rL _ rfl) (by decide) rfl (by decide) hx1 dX2_named_1 (fun n27 => ?_) (fun n27 => ?_)
            · have h := (h).2 (tsw_ne n27 (by decide))
              refine G_aload_n 0 rfl rfl dX2_named_100 ?_
              refine G_get (k := 0) (kd := (2, 1)) (v := aR 1) gf_X2_15 rfl rfl rfl rfl dX2_named_101 ?_
              refine G_iload_n 2 rfl rfl dX2_named_104 ?_
              refine G_callV (as := [_]) cf_X2_121 rfl rfl rfl (sp_X10_hasGoer (d - 1) (by omega) _ hO _ hx2) (by omega) rfl rfl (Nat.le_of_ble_eq_true rfl) dX2_named_105 ?_
              rintro _ _ ⟨_, rfl, rfl, rfl⟩ o11 r10
              refine G_if_ne (bI_R _) dX2_named_108 (tgt := 113) (by decide) (fun c12 => ?_) (fun c12 => ?_)
              · have h := h.1 (bI_ne c12)
                refine G_iload_n 1 rfl rfl dX2_named_113 ?_
                refine G_lsw (tgt := 140) 5 (by decide) rfl (by decide) hx1 dX2_named_114 (fun c13 => ?_) (fun c13 => ?_)
                · have h := h.1 c13
                  refine G_aload_n 0 rfl rfl dX2_named_140 ?_
                  refine G_get (k := 0) (kd := (2, 1)) (v := aR 1) gf_X2_15 rfl rfl rfl rfl dX2_named_141 ?_
                  refine G_get (k := 4) (kd := (3, 5)) (v := aR (6)) gf_X2_37 rfl rfl rfl rfl dX2_named_144 ?_
                  refine G_iload_n 2 rfl rfl dX2_named_147 ?_
                  obtain ⟨c14, h⟩ := h
                  refine G_iald (n := 6) rfl c14.1 c14.2 dX2_named_148 ?_
                  exact G_iret rfl (OKm.i hO 6 x2 (isLg_row (show shp 6 = (1, 6, []) from rfl) _)) dX2_named_149 ⟨_, rfl, h⟩ hO
                · have h := h.2 c13
                  refine G_lsw (tgt := 150) 7 (by decide) rfl (by decide) hx1 dX2_named_114 (fun c15 => ?_) (fun c15 => ?_)
                  · have h := h.1 c15
                    refine G_aload_n 0 rfl rfl dX2_named_150 ?_
                    refine G_get (k := 1) (kd := (2, 10)) (v := aR 10) gf_X2_19 rfl rfl rfl rfl dX2_named_151 ?_
                    refine G_get (k := 2) (kd := (3, 3)) (v := aR (13)) gf_X2_125 rfl rfl rfl rfl dX2_named_154 ?_
                    refine G_iload_n 2 rfl rfl dX2_named_157 ?_
                    obtain ⟨c16, h⟩ := h
                    refine G_iald (n := 6) rfl c16.1 c16.2 dX2_named_158 ?_
                    exact G_iret rfl (OKm.i hO 13 x2 (isLg_row (show shp 13 = (1, 6, []) from rfl) _)) dX2_named_159 ⟨_, rfl, h⟩ hO
                  · have h := h.2 c15
                    refine G_lswd (tgt := 160) (by decide) (by simp [Op.lookupswitch.offset, Ne.symm c13, c13, Ne.symm c15, c15]) (by decide) hx1 dX2_named_114 ?_
                    refine G_iload_n 2 rfl rfl dX2_named_160 ?_
                    exact G_iret rfl hx2 dX2_named_161 ⟨_, rfl, h⟩ hO
              · have h := h.2 ((bI_0 _).mp c12)
                refine G_iconst dX2_named_111 ?_
                exact G_iret rfl (rL 0 rfl) dX2_named_112 ⟨_, rfl, h⟩ hO
            · have n28 : (6 : Int) ≤ x1 ∨ x1 < 0 := tsw_next (by decide) n26 n27
              refine G_tsw (tgt := 100) 6 6 (by decide) (rL _ rfl) (by decide) rfl (by decide) hx1 dX2_named_1 (fun n29 => ?_) (fun n29 => ?_)
              · have h := (h).2 (tsw_ne n29 (by decide))
                refine G_aload_n 0 rfl rfl dX2_named_100 ?_
                refine G_get (k := 0) (kd := (2, 1)) (v := aR 1) gf_X2_15 rfl rfl rfl rfl dX2_named_101 ?_
                refine G_iload_n 2 rfl rfl dX2_named_104 ?_
                refine G_callV (as := [_]) cf_X2_121 rfl rfl rfl (sp_X10_hasGoer (d - 1) (by omega) _ hO _ hx2) (by omega) rfl rfl (Nat.le_of_ble_eq_true rfl) dX2_named_105 ?_
                rintro _ _ ⟨_, rfl, rfl, rfl⟩ o11 r10
                refine G_if_ne (bI_R _) dX2_named_108 (tgt := 113) (by decide) (fun c12 => ?_) (fun c12 => ?_)
                · have h := h.1 (bI_ne c12)
                  refine G_iload_n 1 rfl rfl dX2_named_113 ?_
                  refine G_lsw (tgt := 140) 5 (by decide) rfl (by decide) hx1 dX2_named_114 (fun c13 => ?_) (fun c13 => ?_)
                  · have h := h.1 c13
                    refine G_aload_n 0 rfl rfl dX2_named_140 ?_
                    refine G_get (k := 0) (kd := (2, 1)) (v := aR 1) gf_X2_15 rfl rfl rfl rfl dX2_named_141 ?_
                    refine G_get (k := 4) (kd := (3, 5)) (v := aR (6)) gf_X2_37 rfl rfl rfl rfl dX2_named_144 ?_
                    refine G_iload_n 2 rfl rfl dX2_named_147 ?_
                    obtain ⟨c14, h⟩ := h
                    refine G_iald (n := 6) rfl c14.1 c14.2 dX2_named_148 ?_
                    exact G_iret rfl (OKm.i hO 6 x2 (isLg_row (show shp 6 = (1, 6, []) from rfl) _)) dX2_named_149 ⟨_, rfl, h⟩ hO
                  · have h := h.2 c13
                    refine G_lsw (tgt := 150) 7 (by decide) rfl (by decide) hx1 dX2_named_114 (fun c15 => ?_) (fun c15 => ?_)
                    · have h := h.1 c15
                      refine G_aload_n 0 rfl rfl dX2_named_150 ?_
                      refine G_get (k := 1) (kd := (2, 10)) (v := aR 10) gf_X2_19 rfl rfl rfl rfl dX2_named_151 ?_
                      refine G_get (k := 2) (kd := (3, 3)) (v := aR (13)) gf_X2_125 rfl rfl rfl rfl dX2_named_154 ?_
                      refine G_iload_n 2 rfl rfl dX2_named_157 ?_
                      obtain ⟨c16, h⟩ := h
                      refine G_iald (n := 6) rfl c16.1 c16.2 dX2_named_158 ?_
                      exact G_iret rfl (OKm.i hO 13 x2 (isLg_row (show shp 13 = (1, 6, []) from rfl) _)) dX2_named_159 ⟨_, rfl, h⟩ hO
                    · have h := h.2 c15
                      refine G_lswd (tgt := 160) (by decide) (by simp [Op.lookupswitch.offset, Ne.symm c13, c13, Ne.symm c15, c15]) (by decide) hx1 dX2_named_114 ?_
                      refine G_iload_n 2 rfl rfl dX2_named_160 ?_
                      exact G_iret rfl hx2 dX2_named_161 ⟨_, rfl, h⟩ hO
                · have h := h.2 ((bI_0 _).mp c12)
                  refine G_iconst dX2_named_111 ?_
                  exact G_iret rfl (rL 0 rfl) dX2_named_112 ⟨_, rfl, h⟩ hO
              · have n30 : (7 : Int) ≤ x1 ∨ x1 < 0 := tsw_next (by decide) n28 n29
                refine G_tsw (tgt := 100) 7 7 (by decide) (rL _ rfl) (by decide) rfl (by decide) hx1 dX2_named_1 (fun n31 => ?_) (fun n31 => ?_)
                · have h := (h).2 (tsw_ne n31 (by decide))
                  refine G_aload_n 0 rfl rfl dX2_named_100 ?_
                  refine G_get (k := 0) (kd := (2, 1)) (v := aR 1) gf_X2_15 rfl rfl rfl rfl dX2_named_101 ?_
                  refine G_iload_n 2 rfl rfl dX2_named_104 ?_
                  refine G_callV (as := [_]) cf_X2_121 rfl rfl rfl (sp_X10_hasGoer (d - 1) (by omega) _ hO _ hx2) (by omega) rfl rfl (Nat.le_of_ble_eq_true rfl) dX2_named_105 ?_
                  rintro _ _ ⟨_, rfl, rfl, rfl⟩ o11 r10
                  refine G_if_ne (bI_R _) dX2_named_108 (tgt := 113) (by decide) (fun c12 => ?_) (fun c12 => ?_)
                  · have h := h.1 (bI_ne c12)
                    refine G_iload_n 1 rfl rfl dX2_named_113 ?_
                    refine G_lsw (tgt := 140) 5 (by decide) rfl (by decide) hx1 dX2_named_114 (fun c13 => ?_) (fun c13 => ?_)
                    · have h := h.1 c13
                      refine G_aload_n 0 rfl rfl dX2_named_140 ?_
                      refine G_get (k := 0) (kd := (2, 1)) (v := aR 1) gf_X2_15 rfl rfl rfl rfl dX2_named_141 ?_
                      refine G_get (k := 4) (kd := (3, 5)) (v := aR (6)) gf_X2_37 rfl rfl rfl rfl dX2_named_144 ?_
                      refine G_iload_n 2 rfl rfl dX2_named_147 ?_
                      obtain ⟨c14, h⟩ := h
                      refine G_iald (n := 6) rfl c14.1 c14.2 dX2_named_148 ?_
                      exact G_iret rfl (OKm.i hO 6 x2 (isLg_row (show shp 6 = (1, 6, []) from rfl) _)) dX2_named_149 ⟨_, rfl, h⟩ hO
                    · have h := h.2 c13
                      refine G_lsw (tgt := 150) 7 (by decide) rfl (by decide) hx1 dX2_named_114 (fun c15 => ?_) (fun c15 => ?_)
                      · have h := h.1 c15
                        refine G_aload_n 0 rfl rfl dX2_named_150 ?_
                        refine G_get (k := 1) (kd := (2, 10)) (v := aR 10) gf_X2_19 rfl rfl rfl rfl dX2_named_151 ?_
                        refine G_get (k := 2) (kd := (3, 3)) (v := aR (13)) gf_X2_125 rfl rfl rfl rfl dX2_named_154 ?_
                        refine G_iload_n 2 rfl rfl dX2_named_157 ?_
                        obtain ⟨c16, h⟩ := h
                        refine G_iald (n := 6) rfl c16.1 c16.2 dX2_named_158 ?_
                        exact G_iret rfl (OKm.i hO 13 x2 (isLg_row (show shp 13 = (1, 6, []) from rfl) _)) dX2_named_159 ⟨_, rfl, h⟩ hO
                      · have h := h.2 c15
                        refine G_lswd (tgt := 160) (by decide) (by simp [Op.lookupswitch.offset, Ne.symm c13, c13, Ne.symm c15, c15]) (by decide) hx1 dX2_named_114 ?_
                        refine G_iload_n 2 rfl rfl dX2_named_160 ?_
                        exact G_iret rfl hx2 dX2_named_161 ⟨_, rfl, h⟩ hO
                  · have h := h.2 ((bI_0 _).mp c12)
                    refine G_iconst dX2_named_111 ?_
                    exact G_iret rfl (rL 0 rfl) dX2_named_112 ⟨_, rfl, h⟩ hO
                · have n32 : (8 : Int) ≤ x1 ∨ x1 < 0 := tsw_next (by decide) n30 n31
                  refine G_tsw (tgt := 90) 8 8 (by decide) (rL _ rfl) (by decide) rfl (by decide) hx1 dX2_named_1 (fun n33 => ?_) (fun n33 => ?_)
                  · have h := h.1 n33
                    refine G_aload_n 0 rfl rfl dX2_named_90 ?_
                    refine G_get (k := 0) (kd := (2, 1)) (v := aR 1) gf_X2_15 rfl rfl rfl rfl dX2_named_91 ?_
                    refine G_get (k := 3) (kd := (3, 4)) (v := aR (5)) gf_X2_118 rfl rfl rfl rfl dX2_named_94 ?_
                    refine G_iload_n 3 rfl rfl dX2_named_97 ?_
                    obtain ⟨c9, h⟩ := h
                    refine G_iald (n := 16) rfl c9.1 c9.2 dX2_named_98 ?_
                    exact G_iret rfl (OKm.i hO 5 x3 (isLg_row (show shp 5 = (1, 16, []) from rfl) _)) dX2_named_99 ⟨_, rfl, h⟩ hO
                  · have h := h.2 n33
                    have n34 : (9 : Int) ≤ x1 ∨ x1 < 0 := tsw_next (by decide) n32 n33
                    refine G_tswd (tgt := 100) hx1 (tsw_out n34) (by decide) dX2_named_1 ?_
                    refine G_aload_n 0 rfl rfl dX2_named_100 ?_
                    refine G_get (k := 0) (kd := (2, 1)) (v := aR 1) gf_X2_15 rfl rfl rfl rfl dX2_named_101 ?_
                    refine G_iload_n 2 rfl rfl dX2_named_104 ?_
                    refine G_callV (as := [_]) cf_X2_121 rfl rfl rfl (sp_X10_hasGoer (d - 1) (by omega) _ hO _ hx2) (by omega) rfl rfl (Nat.le_of_ble_eq_true rfl) dX2_named_105 ?_
                    rintro _ _ ⟨_, rfl, rfl, rfl⟩ o11 r10
                    refine G_if_ne (bI_R _) dX2_named_108 (tgt := 113) (by decide) (fun c12 => ?_) (fun c12 => ?_)
                    · have h := h.1 (bI_ne c12)
                      refine G_iload_n 1 rfl rfl dX2_named_113 ?_
                      refine G_lsw (tgt := 140) 5 (by decide) rfl (by decide) hx1 dX2_named_114 (fun c13 => ?_) (fun c13 => ?_)
                      · have h := h.1 c13
                        refine G_aload_n 0 rfl rfl dX2_named_140 ?_
                        refine G_get (k := 0) (kd := (2, 1)) (v := aR 1) gf_X2_15 rfl rfl rfl rfl dX2_named_141 ?_
                        refine G_get (k := 4) (kd := (3, 5)) (v := aR (6)) gf_X2_37 rfl rfl rfl rfl dX2_named_144 ?_
                        refine G_iload_n 2 rfl rfl dX2_named_147 ?_
                        obtain ⟨c14, h⟩ := h
                        refine G_iald (n := 6) rfl c14.1 c14.2 dX2_named_148 ?_
                        exact G_iret rfl (OKm.i hO 6 x2 (isLg_row (show shp 6 = (1, 6, []) from rfl) _)) dX2_named_149 ⟨_, rfl, h⟩ hO
                      · have h := h.2 c13
                        refine G_lsw (tgt := 150) 7 (by decide) rfl (by decide) hx1 dX2_named_114 (fun c15 => ?_) (fun c15 => ?_)
                        · have h := h.1 c15
                          refine G_aload_n 0 rfl rfl dX2_named_150 ?_
                          refine G_get (k := 1) (kd := (2, 10)) (v := aR 10) gf_X2_19 rfl rfl rfl rfl dX2_named_151 ?_
                          refine G_get (k := 2) (kd := (3, 3)) (v := aR (13)) gf_X2_125 rfl rfl rfl rfl dX2_named_154 ?_
                          refine G_iload_n 2 rfl rfl dX2_named_157 ?_
                          obtain ⟨c16, h⟩ := h
                          refine G_iald (n := 6) rfl c16.1 c16.2 dX2_named_158 ?_
                          exact G_iret rfl (OKm.i hO 13 x2 (isLg_row (show shp 13 = (1, 6, []) from rfl) _)) dX2_named_159 ⟨_, rfl, h⟩ hO
                        · have h := h.2 c15
                          refine G_lswd (tgt := 160) (by decide) (by simp [Op.lookupswitch.offset, Ne.symm c13, c13, Ne.symm c15, c15]) (by decide) hx1 dX2_named_114 ?_
                          refine G_iload_n 2 rfl rfl dX2_named_160 ?_
                          exact G_iret rfl hx2 dX2_named_161 ⟨_, rfl, h⟩ hO
                    · have h := h.2 ((bI_0 _).mp c12)
                      refine G_iconst dX2_named_111 ?_
                      exact G_iret rfl (rL 0 rfl) dX2_named_112 ⟨_, rfl, h⟩ hO

theorem sp_X2_named (d : Nat) (hd : 1 ≤ d) (σ : Mem) (hO : OKm σ) (x1 : Int) (hx1 : R32 x1) (x2 : Int) (hx2 : R32 x2) (x3 : Int) (hx3 : R32 x3) (hpre : 0 ≤ x3 ∧ x3 < 16 ∧ σ 1 9 ≤ 6) : Mt yX2_named cX2_named 4 (some .int) d [aR (36), aI (x1), aI (x2), aI (x3)] σ (QI (fun v σ' => (nmC σ x1 x2 x3) = v ∧ σ = σ')) := mt_X2_named hd hx1 hx2 hx3 hO (by
  unfold wp_X2_named
  unfold nmC
  refine And.intro (fun h => ?_) (fun h => ?_)
  · rw [if_pos h]; clear h
    exact ⟨rfl, rfl⟩
  rw [if_neg h]; clear h
  refine And.intro (fun h => ?_) (fun h => ?_)
  · rw [if_pos h]; clear h
    exact ⟨rfl, rfl⟩
  rw [if_neg h]; clear h
  refine And.intro (fun h => ?_) (fun h => ?_)
  · rw [if_pos h]; clear h
    exact ⟨rfl, rfl⟩
  rw [if_neg h]; clear h
  refine And.intro (fun h => ?_) (fun h => ?_)
  · rw [if_pos h]; clear h
    exact ⟨⟨hpre.1, hpre.2.1⟩, rfl, rfl⟩
  rw [if_neg h]; clear h
  refine And.intro (fun h => ?_) (fun h => ?_)
  · rw [if_pos h]; clear h
    exact ⟨⟨hpre.1, hpre.2.1⟩, rfl, rfl⟩
  rw [if_neg h]; clear h
  refine And.intro (fun h => ?_) (fun h => ?_)
  · rw [if_pos h]; clear h
    exact ⟨⟨hpre.1, hpre.2.1⟩, rfl, rfl⟩
  rw [if_neg h]; clear h
  refine And.intro (fun h => ?_) (fun h => ?_)
  · rw [if_pos h]
    refine And.intro (fun h2 => ?_) (fun h2 => ?_)
    · rw [if_pos h2]; exact ⟨⟨h.1, by omega⟩, rfl, rfl⟩
    rw [if_neg h2]
    refine And.intro (fun h3 => ?_) (fun h3 => ?_)
    · rw [if_pos h3]; exact ⟨⟨h.1, by omega⟩, rfl, rfl⟩
    rw [if_neg h3]; exact ⟨rfl, rfl⟩
  · rw [if_neg h]; exact ⟨rfl, rfl⟩)

def wp_X12_clip (x1 : Int) (σ : Mem) (Q : Int → Mem → Prop) : Prop :=
  ((x1 ≤ 1000000) →
    (((-1000000) ≤ x1) →
     Q x1 σ) ∧
    ((x1 < (-1000000)) →
     Q (-1000000) σ)) ∧
   ((1000000 < x1) →
    Q 1000000 σ)
theorem mt_X12_clip {d : Nat} (hd : 0 ≤ d) {x1 : Int} {σ : Mem} {Q : Int → Mem → Prop} (hx1 : R64 x1) (hO : OKm σ) (h : wp_X12_clip x1 σ Q) : Mt yX12_clip cX12_clip 2 (some .long) d [aL (x1)] σ (QL Q) := by
  refine Mt.intro (by decide +kernel) (Nat.le_of_ble_eq_true rfl) [(0, aL (x1))] rfl ?_
  unfold wp_X12_clip at h
  refine G_lload_n 0 rfl rfl dX12_clip_0 ?_
  refine G_ldc2 (n := 1000000) rfl (by decide) kc_X12_271 dX12_clip_1 ?_
  refine G_lcmp_le hx1 (rLL 1000000 rfl) dX12_clip_4 dX12_clip_5 (tgt := 14) (by decide) (fun c1 => ?_) (fun c1 => ?_)
  · have h := h.1 c1
    refine G_lload_n 0 rfl rfl dX12_clip_14 ?_
    refine G_ldc2 (n := (-1000000)) rfl (by decide) kc_X12_273 dX12_clip_15 ?_
    refine G_lcmp_ge hx1 (rLL (-1000000) rfl) dX12_clip_18 dX12_clip_19 (tgt := 28) (by decide) (fun c2 => ?_) (fun c2 => ?_)
    · have h := h.1 c2
      refine G_lload_n 0 rfl rfl dX12_clip_28 ?_
      exact G_lret rfl hx1 dX12_clip_29 ⟨_, rfl, h⟩ hO
    · have h := h.2 c2
      refine G_ldc2 (n := (-1000000)) rfl (by decide) kc_X12_273 dX12_clip_22 ?_
      refine G_goto (tgt := 29) dX12_clip_25 (by decide) ?_
      exact G_lret rfl (rLL (-1000000) rfl) dX12_clip_29 ⟨_, rfl, h⟩ hO
  · have h := h.2 c1
    refine G_ldc2 (n := 1000000) rfl (by decide) kc_X12_271 dX12_clip_8 ?_
    refine G_goto (tgt := 29) dX12_clip_11 (by decide) ?_
    exact G_lret rfl (rLL 1000000 rfl) dX12_clip_29 ⟨_, rfl, h⟩ hO

theorem sp_X12_clip (d : Nat) (hd : 0 ≤ d) (σ : Mem) (hO : OKm σ) (x1 : Int) (hx1 : R64 x1) : Mt yX12_clip cX12_clip 2 (some .long) d [aL (x1)] σ (QL (fun v σ' => (clip x1) = v ∧ σ = σ')) := mt_X12_clip hd hx1 hO (by
  unfold wp_X12_clip
  unfold R64 at *
  unfold clip
  grind)

def two' (o x y : Int) : Int := if o = 6 then clip (x + y) else if o = 7 then clip (x - y) else if o = 8 then clip (x * y) else if y = 0 then 0 else clip (Int.tdiv x y)
def ask' (o x y : Int) : Prop := if o = 10 then x < y else if o = 11 then x ≤ y else if o = 12 then y < x else if o = 13 then y ≤ x else if o = 14 then x = y else x ≠ y
def askI (o x y : Int) : Int := if o = 10 then bI (x < y) else if o = 11 then bI (x ≤ y) else if o = 12 then bI (y < x) else if o = 13 then bI (y ≤ x) else if o = 14 then bI (x = y) else bI (x ≠ y)

def wp_X12_two (x1 : Int) (x2 : Int) (x3 : Int) (σ : Mem) (Q : Int → Mem → Prop) : Prop :=
  (x1 = 6 →
    R64 (x2 + x3) ∧
    Q (clip (x2 + x3)) σ) ∧
   (x1 ≠ 6 →
    (x1 = 7 →
     R64 (x2 - x3) ∧
     Q (clip (x2 - x3)) σ) ∧
    (x1 ≠ 7 →
     (x1 = 8 →
      R64 (x2 * x3) ∧
      Q (clip (x2 * x3)) σ) ∧
     (x1 ≠ 8 →
      ((x3 ≠ 0) →
       (x3 ≠ 0) ∧
       R64 (Int.tdiv x2 x3) ∧
       Q (clip (Int.tdiv x2 x3)) σ) ∧
      ((x3 = 0) →
       Q 0 σ))))
theorem mt_X12_two {d : Nat} (hd : 1 ≤ d) {x1 : Int} {x2 : Int} {x3 : Int} {σ : Mem} {Q : Int → Mem → Prop} (hx1 : R32 x1) (hx2 : R64 x2) (hx3 : R64 x3) (hO : OKm σ) (h : wp_X12_two x1 x2 x3 σ Q) : Mt yX12_two cX12_two 5 (some .long) d [aI (x1), aL (x2), aL (x3)] σ (QL Q) := by
  refine Mt.intro (by decide +kernel) (Nat.le_of_ble_eq_true rfl) [(0, aI (x1)), (1, aL (x2)), (3, aL (x3))] rfl ?_
  unfold wp_X12_two at h
  refine G_iload_n 0 rfl rfl dX12_two_0 ?_
  refine G_tsw (tgt := 28) 0 6 (by decide) (rL _ rfl) (by decide) rfl (by decide) hx1 dX12_two_1 (fun n18 => ?_) (fun n18 => ?_)
  · have h := h.1 n18
    refine G_lload_n 1 rfl rfl dX12_two_28 ?_
    refine G_lload_n 2 rfl rfl dX12_two_29 ?_
    refine G_ladd dX12_two_30 ?_
    obtain ⟨c2, h⟩ := h
    refine G_callS (as := [_]) cf_X12_275 rfl (sp_X12_clip (d - 1) (by omega) _ hO _ c2) (by omega) rfl rfl (Nat.le_of_ble_eq_true rfl) dX12_two_31 ?_
    rintro _ _ ⟨_, rfl, rfl, rfl⟩ o4 r3
    exact G_lret rfl (r3 _ rfl) dX12_two_34 ⟨_, rfl, h⟩ hO
  · have h := h.2 n18
    have n19 : (7 : Int) ≤ x1 ∨ x1 < 6 := tsw_next (by decide) (tsw_0 _ _) n18
    refine G_tsw (tgt := 35) 1 7 (by decide) (rL _ rfl) (by decide) rfl (by decide) hx1 dX12_two_1 (fun n20 => ?_) (fun n20 => ?_)
    · have h := h.1 n20
      refine G_lload_n 1 rfl rfl dX12_two_35 ?_
      refine G_lload_n 2 rfl rfl dX12_two_36 ?_
      refine G_lsub dX12_two_37 ?_
      obtain ⟨c6, h⟩ := h
      refine G_callS (as := [_]) cf_X12_275 rfl (sp_X12_clip (d - 1) (by omega) _ hO _ c6) (by omega) rfl rfl (Nat.le_of_ble_eq_true rfl) dX12_two_38 ?_
      rintro _ _ ⟨_, rfl, rfl, rfl⟩ o8 r7
      exact G_lret rfl (r7 _ rfl) dX12_two_41 ⟨_, rfl, h⟩ hO
    · have h := h.2 n20
      have n21 : (8 : Int) ≤ x1 ∨ x1 < 6 := tsw_next (by decide) n19 n20
      refine G_tsw (tgt := 42) 2 8 (by decide) (rL _ rfl) (by decide) rfl (by decide) hx1 dX12_two_1 (fun n22 => ?_) (fun n22 => ?_)
      · have h := h.1 n22
        refine G_lload_n 1 rfl rfl dX12_two_42 ?_
        refine G_lload_n 2 rfl rfl dX12_two_43 ?_
        refine G_lmul dX12_two_44 ?_
        obtain ⟨c10, h⟩ := h
        refine G_callS (as := [_]) cf_X12_275 rfl (sp_X12_clip (d - 1) (by omega) _ hO _ c10) (by omega) rfl rfl (Nat.le_of_ble_eq_true rfl) dX12_two_45 ?_
        rintro _ _ ⟨_, rfl, rfl, rfl⟩ o12 r11
        exact G_lret rfl (r11 _ rfl) dX12_two_48 ⟨_, rfl, h⟩ hO
      · have h := h.2 n22
        have n23 : (9 : Int) ≤ x1 ∨ x1 < 6 := tsw_next (by decide) n21 n22
        refine G_tswd (tgt := 49) hx1 (tsw_out n23) (by decide) dX12_two_1 ?_
        refine G_lload_n 2 rfl rfl dX12_two_49 ?_
        refine G_lconst (n := 0) (by decide) dX12_two_50 ?_
        refine G_lcmp_ne hx3 (rLL 0 rfl) dX12_two_51 dX12_two_52 (tgt := 59) (by decide) (fun c13 => ?_) (fun c13 => ?_)
        · have h := h.1 c13
          refine G_lload_n 1 rfl rfl dX12_two_59 ?_
          refine G_lload_n 2 rfl rfl dX12_two_60 ?_
          obtain ⟨c14, h⟩ := h
          refine G_ldiv hx2 hx3 c14 dX12_two_61 ?_
          obtain ⟨c15, h⟩ := h
          refine G_callS (as := [_]) cf_X12_275 rfl (sp_X12_clip (d - 1) (by omega) _ hO _ c15) (by omega) rfl rfl (Nat.le_of_ble_eq_true rfl) dX12_two_62 ?_
          rintro _ _ ⟨_, rfl, rfl, rfl⟩ o17 r16
          exact G_lret rfl (r16 _ rfl) dX12_two_65 ⟨_, rfl, h⟩ hO
        · have h := h.2 c13
          refine G_lconst (n := 0) (by decide) dX12_two_55 ?_
          refine G_goto (tgt := 65) dX12_two_56 (by decide) ?_
          exact G_lret rfl (rLL 0 rfl) dX12_two_65 ⟨_, rfl, h⟩ hO

theorem sp_X12_two (d : Nat) (hd : 1 ≤ d) (σ : Mem) (hO : OKm σ) (x1 : Int) (hx1 : R32 x1) (x2 : Int) (hx2 : R64 x2) (x3 : Int) (hx3 : R64 x3) (hpre : -1000001 ≤ x2 ∧ x2 ≤ 1000001 ∧ -1000001 ≤ x3 ∧ x3 ≤ 1000001) : Mt yX12_two cX12_two 5 (some .long) d [aI (x1), aL (x2), aL (x3)] σ (QL (fun v σ' => (two' x1 x2 x3) = v ∧ σ = σ')) := mt_X12_two hd hx1 hx2 hx3 hO (by
  unfold wp_X12_two
  have hm := mul_b (a := x2) (b := x3) (by omega) (by omega)
  have hd1 := tdiv_b (a := x2) (b := x3) (by omega)
  unfold R64 at *
  unfold two'
  grind)

def wp_X12_isAsked (x1 : Int) (x2 : Int) (x3 : Int) (σ : Mem) (Q : Int → Mem → Prop) : Prop :=
  ((x1 ≠ 10) →
    ((x1 ≠ 11) →
     ((x1 ≠ 12) →
      ((x1 ≠ 13) →
       ((x1 ≠ 14) →
        ((x2 = x3) →
         Q 0 σ) ∧
        ((x2 ≠ x3) →
         Q 1 σ)) ∧
       ((x1 = 14) →
        ((x2 ≠ x3) →
         Q 0 σ) ∧
        ((x2 = x3) →
         Q 1 σ))) ∧
      ((x1 = 13) →
       ((x2 < x3) →
        Q 0 σ) ∧
       ((x3 ≤ x2) →
        Q 1 σ))) ∧
     ((x1 = 12) →
      ((x2 ≤ x3) →
       Q 0 σ) ∧
      ((x3 < x2) →
       Q 1 σ))) ∧
    ((x1 = 11) →
     ((x3 < x2) →
      Q 0 σ) ∧
     ((x2 ≤ x3) →
      Q 1 σ))) ∧
   ((x1 = 10) →
    ((x3 ≤ x2) →
     Q 0 σ) ∧
    ((x2 < x3) →
     Q 1 σ))
theorem mt_X12_isAsked {d : Nat} (hd : 0 ≤ d) {x1 : Int} {x2 : Int} {x3 : Int} {σ : Mem} {Q : Int → Mem → Prop} (hx1 : R32 x1) (hx2 : R64 x2) (hx3 : R64 x3) (hO : OKm σ) (h : wp_X12_isAsked x1 x2 x3 σ Q) : Mt yX12_isAsked cX12_isAsked 5 (some .boolean) d [aI (x1), aL (x2), aL (x3)] σ (QI Q) := by
  refine Mt.intro (by decide +kernel) (Nat.le_of_ble_eq_true rfl) [(0, aI (x1)), (1, aL (x2)), (3, aL (x3))] rfl ?_
  unfold wp_X12_isAsked at h
  refine G_iload_n 0 rfl rfl dX12_isAsked_0 ?_
  refine G_bipush (by decide) dX12_isAsked_1 ?_
  refine G_icmp_ne hx1 (rL 10 rfl) dX12_isAsked_3 (tgt := 20) (by decide) (fun c1 => ?_) (fun c1 => ?_)
  · have h := h.1 c1
    refine G_iload_n 0 rfl rfl dX12_isAsked_20 ?_
    refine G_bipush (by decide) dX12_isAsked_21 ?_
    refine G_icmp_ne hx1 (rL 11 rfl) dX12_isAsked_23 (tgt := 40) (by decide) (fun c2 => ?_) (fun c2 => ?_)
    · have h := h.1 c2
      refine G_iload_n 0 rfl rfl dX12_isAsked_40 ?_
      refine G_bipush (by decide) dX12_isAsked_41 ?_
      refine G_icmp_ne hx1 (rL 12 rfl) dX12_isAsked_43 (tgt := 60) (by decide) (fun c3 => ?_) (fun c3 => ?_)
      · have h := h.1 c3
        refine G_iload_n 0 rfl rfl dX12_isAsked_60 ?_
        refine G_bipush (by decide) dX12_isAsked_61 ?_
        refine G_icmp_ne hx1 (rL 13 rfl) dX12_isAsked_63 (tgt := 80) (by decide) (fun c4 => ?_) (fun c4 => ?_)
        · have h := h.1 c4
          refine G_iload_n 0 rfl rfl dX12_isAsked_80 ?_
          refine G_bipush (by decide) dX12_isAsked_81 ?_
          refine G_icmp_ne hx1 (rL 14 rfl) dX12_isAsked_83 (tgt := 100) (by decide) (fun c5 => ?_) (fun c5 => ?_)
          · have h := h.1 c5
            refine G_lload_n 1 rfl rfl dX12_isAsked_100 ?_
            refine G_lload_n 2 rfl rfl dX12_isAsked_101 ?_
            refine G_lcmp_eq hx2 hx3 dX12_isAsked_102 dX12_isAsked_103 (tgt := 110) (by decide) (fun c6 => ?_) (fun c6 => ?_)
            · have h := h.1 c6
              refine G_iconst dX12_isAsked_110 ?_
              exact G_zret rfl (by decide) dX12_isAsked_111 ⟨_, rfl, h⟩ hO
            · have h := h.2 c6
              refine G_iconst dX12_isAsked_106 ?_
              refine G_goto (tgt := 111) dX12_isAsked_107 (by decide) ?_
              exact G_zret rfl (by decide) dX12_isAsked_111 ⟨_, rfl, h⟩ hO
          · have h := h.2 c5
            refine G_lload_n 1 rfl rfl dX12_isAsked_86 ?_
            refine G_lload_n 2 rfl rfl dX12_isAsked_87 ?_
            refine G_lcmp_ne hx2 hx3 dX12_isAsked_88 dX12_isAsked_89 (tgt := 96) (by decide) (fun c7 => ?_) (fun c7 => ?_)
            · have h := h.1 c7
              refine G_iconst dX12_isAsked_96 ?_
              refine G_goto (tgt := 111) dX12_isAsked_97 (by decide) ?_
              exact G_zret rfl (by decide) dX12_isAsked_111 ⟨_, rfl, h⟩ hO
            · have h := h.2 c7
              refine G_iconst dX12_isAsked_92 ?_
              refine G_goto (tgt := 111) dX12_isAsked_93 (by decide) ?_
              exact G_zret rfl (by decide) dX12_isAsked_111 ⟨_, rfl, h⟩ hO
        · have h := h.2 c4
          refine G_lload_n 1 rfl rfl dX12_isAsked_66 ?_
          refine G_lload_n 2 rfl rfl dX12_isAsked_67 ?_
          refine G_lcmp_lt hx2 hx3 dX12_isAsked_68 dX12_isAsked_69 (tgt := 76) (by decide) (fun c8 => ?_) (fun c8 => ?_)
          · have h := h.1 c8
            refine G_iconst dX12_isAsked_76 ?_
            refine G_goto (tgt := 111) dX12_isAsked_77 (by decide) ?_
            exact G_zret rfl (by decide) dX12_isAsked_111 ⟨_, rfl, h⟩ hO
          · have h := h.2 c8
            refine G_iconst dX12_isAsked_72 ?_
            refine G_goto (tgt := 111) dX12_isAsked_73 (by decide) ?_
            exact G_zret rfl (by decide) dX12_isAsked_111 ⟨_, rfl, h⟩ hO
      · have h := h.2 c3
        refine G_lload_n 1 rfl rfl dX12_isAsked_46 ?_
        refine G_lload_n 2 rfl rfl dX12_isAsked_47 ?_
        refine G_lcmp_le hx2 hx3 dX12_isAsked_48 dX12_isAsked_49 (tgt := 56) (by decide) (fun c9 => ?_) (fun c9 => ?_)
        · have h := h.1 c9
          refine G_iconst dX12_isAsked_56 ?_
          refine G_goto (tgt := 111) dX12_isAsked_57 (by decide) ?_
          exact G_zret rfl (by decide) dX12_isAsked_111 ⟨_, rfl, h⟩ hO
        · have h := h.2 c9
          refine G_iconst dX12_isAsked_52 ?_
          refine G_goto (tgt := 111) dX12_isAsked_53 (by decide) ?_
          exact G_zret rfl (by decide) dX12_isAsked_111 ⟨_, rfl, h⟩ hO
    · have h := h.2 c2
      refine G_lload_n 1 rfl rfl dX12_isAsked_26 ?_
      refine G_lload_n 2 rfl rfl dX12_isAsked_27 ?_
      refine G_lcmp_gt hx2 hx3 dX12_isAsked_28 dX12_isAsked_29 (tgt := 36) (by decide) (fun c10 => ?_) (fun c10 => ?_)
      · have h := h.1 c10
        refine G_iconst dX12_isAsked_36 ?_
        refine G_goto (tgt := 111) dX12_isAsked_37 (by decide) ?_
        exact G_zret rfl (by decide) dX12_isAsked_111 ⟨_, rfl, h⟩ hO
      · have h := h.2 c10
        refine G_iconst dX12_isAsked_32 ?_
        refine G_goto (tgt := 111) dX12_isAsked_33 (by decide) ?_
        exact G_zret rfl (by decide) dX12_isAsked_111 ⟨_, rfl, h⟩ hO
  · have h := h.2 c1
    refine G_lload_n 1 rfl rfl dX12_isAsked_6 ?_
    refine G_lload_n 2 rfl rfl dX12_isAsked_7 ?_
    refine G_lcmp_ge hx2 hx3 dX12_isAsked_8 dX12_isAsked_9 (tgt := 16) (by decide) (fun c11 => ?_) (fun c11 => ?_)
    · have h := h.1 c11
      refine G_iconst dX12_isAsked_16 ?_
      refine G_goto (tgt := 111) dX12_isAsked_17 (by decide) ?_
      exact G_zret rfl (by decide) dX12_isAsked_111 ⟨_, rfl, h⟩ hO
    · have h := h.2 c11
      refine G_iconst dX12_isAsked_12 ?_
      refine G_goto (tgt := 111) dX12_isAsked_13 (by decide) ?_
      exact G_zret rfl (by decide) dX12_isAsked_111 ⟨_, rfl, h⟩ hO

theorem sp_X12_isAsked (d : Nat) (hd : 0 ≤ d) (σ : Mem) (hO : OKm σ) (x1 : Int) (hx1 : R32 x1) (x2 : Int) (hx2 : R64 x2) (x3 : Int) (hx3 : R64 x3) : Mt yX12_isAsked cX12_isAsked 5 (some .boolean) d [aI (x1), aL (x2), aL (x3)] σ (QI (fun v σ' => (askI x1 x2 x3) = v ∧ σ = σ')) := mt_X12_isAsked hd hx1 hx2 hx3 hO (by
  unfold wp_X12_isAsked
  unfold askI bI
  grind)

def wp_X12_roadsOf (x1 : Int) (σ : Mem) (Q : Int → Mem → Prop) : Prop :=
  ((x1 < 0) →
    Q 0 σ) ∧
   ((0 ≤ x1) →
    (((σ 75 0) ≤ x1) →
     Q 0 σ) ∧
    ((x1 < (σ 75 0)) →
     (0 ≤ (11 + x1) ∧ (11 + x1) < 2119) ∧
     Q (σ 75 (11 + x1)) σ))
theorem mt_X12_roadsOf {d : Nat} (hd : 0 ≤ d) {x1 : Int} {σ : Mem} {Q : Int → Mem → Prop} (hx1 : R64 x1) (hO : OKm σ) (h : wp_X12_roadsOf x1 σ Q) : Mt yX12_roadsOf cX12_roadsOf 3 (some .long) d [aR (74), aL (x1)] σ (QL Q) := by
  refine Mt.intro (by decide +kernel) (Nat.le_of_ble_eq_true rfl) [(0, aR (74)), (1, aL (x1))] rfl ?_
  unfold wp_X12_roadsOf at h
  refine G_lload_n 1 rfl rfl dX12_roadsOf_0 ?_
  refine G_lconst (n := 0) (by decide) dX12_roadsOf_1 ?_
  refine G_lcmp_lt hx1 (rLL 0 rfl) dX12_roadsOf_2 dX12_roadsOf_3 (tgt := 32) (by decide) (fun c1 => ?_) (fun c1 => ?_)
  · have h := h.1 c1
    refine G_lconst (n := 0) (by decide) dX12_roadsOf_32 ?_
    exact G_lret rfl (rLL 0 rfl) dX12_roadsOf_33 ⟨_, rfl, h⟩ hO
  · have h := h.2 c1
    refine G_lload_n 1 rfl rfl dX12_roadsOf_6 ?_
    refine G_aload_n 0 rfl rfl dX12_roadsOf_7 ?_
    refine G_get (k := 0) (kd := (2, 75)) (v := aR 75) gf_X12_7 rfl rfl rfl rfl dX12_roadsOf_8 ?_
    refine G_iconst dX12_roadsOf_11 ?_
    refine G_iald (n := 2119) rfl (by decide) (by decide) dX12_roadsOf_12 ?_
    refine G_i2l (OKm.i hO 75 0 (isLg_row (show shp 75 = (1, 2119, []) from rfl) _)) dX12_roadsOf_13 ?_
    refine G_lcmp_ge hx1 (r32_64 (OKm.i hO 75 0 (isLg_row (show shp 75 = (1, 2119, []) from rfl) _))) dX12_roadsOf_14 dX12_roadsOf_15 (tgt := 32) (by decide) (fun c2 => ?_) (fun c2 => ?_)
    · have h := h.1 c2
      refine G_lconst (n := 0) (by decide) dX12_roadsOf_32 ?_
      exact G_lret rfl (rLL 0 rfl) dX12_roadsOf_33 ⟨_, rfl, h⟩ hO
    · have h := h.2 c2
      refine G_aload_n 0 rfl rfl dX12_roadsOf_18 ?_
      refine G_get (k := 0) (kd := (2, 75)) (v := aR 75) gf_X12_7 rfl rfl rfl rfl dX12_roadsOf_19 ?_
      refine G_bipush (by decide) dX12_roadsOf_22 ?_
      refine G_lload_n 1 rfl rfl dX12_roadsOf_24 ?_
      refine G_l2i dX12_roadsOf_25 ?_
      refine G_iadd dX12_roadsOf_26 ?_
      obtain ⟨c3, h⟩ := h
      refine G_iald (n := 2119) rfl c3.1 c3.2 dX12_roadsOf_27 ?_
      refine G_i2l (OKm.i hO 75 (11 + x1) (isLg_row (show shp 75 = (1, 2119, []) from rfl) _)) dX12_roadsOf_28 ?_
      refine G_goto (tgt := 33) dX12_roadsOf_29 (by decide) ?_
      exact G_lret rfl (r32_64 (OKm.i hO 75 (11 + x1) (isLg_row (show shp 75 = (1, 2119, []) from rfl) _))) dX12_roadsOf_33 ⟨_, rfl, h⟩ hO

theorem sp_X12_roadsOf (d : Nat) (hd : 0 ≤ d) (σ : Mem) (hO : OKm σ) (x1 : Int) (hx1 : R64 x1) (hpre : σ 75 0 ≤ 16) : Mt yX12_roadsOf cX12_roadsOf 3 (some .long) d [aR (74), aL (x1)] σ (QL (fun v σ' => (thk0 (σ 75 0) (fun r => σ 75 (11 + r)) x1) = v ∧ σ = σ')) := mt_X12_roadsOf hd hx1 hO (by
  unfold wp_X12_roadsOf
  have := hO.i 75 0 rfl
  unfold R32 R64 at *
  unfold thk0
  grind)

def wp_X12_joined (x1 : Int) (x2 : Int) (x3 : Int) (σ : Mem) (Q : Int → Mem → Prop) : Prop :=
  ((x1 ≠ 21) →
    ((x2 ≠ 0) →
     Q 1 σ) ∧
    ((x2 = 0) →
     ((x3 = 0) →
      Q 0 σ) ∧
     ((x3 ≠ 0) →
      Q 1 σ))) ∧
   ((x1 = 21) →
    ((x2 = 0) →
     Q 0 σ) ∧
    ((x2 ≠ 0) →
     ((x3 = 0) →
      Q 0 σ) ∧
     ((x3 ≠ 0) →
      Q 1 σ)))
theorem mt_X12_joined {d : Nat} (hd : 0 ≤ d) {x1 : Int} {x2 : Int} {x3 : Int} {σ : Mem} {Q : Int → Mem → Prop} (hx1 : R32 x1) (hx2 : R32 x2) (hx3 : R32 x3) (hO : OKm σ) (h : wp_X12_joined x1 x2 x3 σ Q) : Mt yX12_joined cX12_joined 3 (some .boolean) d [aI (x1), aI (x2), aI (x3)] σ (QI Q) := by
  refine Mt.intro (by decide +kernel) (Nat.le_of_ble_eq_true rfl) [(0, aI (x1)), (1, aI (x2)), (2, aI (x3))] rfl ?_
  unfold wp_X12_joined at h
  refine G_iload_n 0 rfl rfl dX12_joined_0 ?_
  refine G_bipush (by decide) dX12_joined_1 ?_
  refine G_icmp_ne hx1 (rL 21 rfl) dX12_joined_3 (tgt := 22) (by decide) (fun c1 => ?_) (fun c1 => ?_)
  · have h := h.1 c1
    refine G_iload_n 1 rfl rfl dX12_joined_22 ?_
    refine G_if_ne hx2 dX12_joined_23 (tgt := 30) (by decide) (fun c2 => ?_) (fun c2 => ?_)
    · have h := h.1 c2
      refine G_iconst dX12_joined_30 ?_
      refine G_goto (tgt := 35) dX12_joined_31 (by decide) ?_
      exact G_zret rfl (by decide) dX12_joined_35 ⟨_, rfl, h⟩ hO
    · have h := h.2 c2
      refine G_iload_n 2 rfl rfl dX12_joined_26 ?_
      refine G_if_eq hx3 dX12_joined_27 (tgt := 34) (by decide) (fun c3 => ?_) (fun c3 => ?_)
      · have h := h.1 c3
        refine G_iconst dX12_joined_34 ?_
        exact G_zret rfl (by decide) dX12_joined_35 ⟨_, rfl, h⟩ hO
      · have h := h.2 c3
        refine G_iconst dX12_joined_30 ?_
        refine G_goto (tgt := 35) dX12_joined_31 (by decide) ?_
        exact G_zret rfl (by decide) dX12_joined_35 ⟨_, rfl, h⟩ hO
  · have h := h.2 c1
    refine G_iload_n 1 rfl rfl dX12_joined_6 ?_
    refine G_if_eq hx2 dX12_joined_7 (tgt := 18) (by decide) (fun c4 => ?_) (fun c4 => ?_)
    · have h := h.1 c4
      refine G_iconst dX12_joined_18 ?_
      refine G_goto (tgt := 35) dX12_joined_19 (by decide) ?_
      exact G_zret rfl (by decide) dX12_joined_35 ⟨_, rfl, h⟩ hO
    · have h := h.2 c4
      refine G_iload_n 2 rfl rfl dX12_joined_10 ?_
      refine G_if_eq hx3 dX12_joined_11 (tgt := 18) (by decide) (fun c5 => ?_) (fun c5 => ?_)
      · have h := h.1 c5
        refine G_iconst dX12_joined_18 ?_
        refine G_goto (tgt := 35) dX12_joined_19 (by decide) ?_
        exact G_zret rfl (by decide) dX12_joined_35 ⟨_, rfl, h⟩ hO
      · have h := h.2 c5
        refine G_iconst dX12_joined_14 ?_
        refine G_goto (tgt := 35) dX12_joined_15 (by decide) ?_
        exact G_zret rfl (by decide) dX12_joined_35 ⟨_, rfl, h⟩ hO

theorem sp_X12_joined (d : Nat) (hd : 0 ≤ d) (σ : Mem) (hO : OKm σ) (x1 : Int) (hx1 : R32 x1) (x2 : Int) (hx2 : R32 x2) (x3 : Int) (hx3 : R32 x3) : Mt yX12_joined cX12_joined 3 (some .boolean) d [aI (x1), aI (x2), aI (x3)] σ (QI (fun v σ' => (if x1 = 21 then bI (x2 ≠ 0 ∧ x3 ≠ 0) else bI (x2 ≠ 0 ∨ x3 ≠ 0)) = v ∧ σ = σ')) := mt_X12_joined hd hx1 hx2 hx3 hO (by
  unfold wp_X12_joined
  unfold bI
  grind)
