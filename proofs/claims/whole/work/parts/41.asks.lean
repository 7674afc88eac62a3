/-- a set of numbers below n, as bits -/
def bitsN (f : Nat → Bool) : Nat → Int
  | 0 => 0
  | n + 1 => bitsN f n + (if f n = true then 2 ^ n else 0)
theorem bitsN_r (f : Nat → Bool) : ∀ n : Nat, 0 ≤ bitsN f n ∧ bitsN f n < 2 ^ n
  | 0 => by simp [bitsN]
  | n + 1 => by
    have := bitsN_r f n
    have hp := pow_pos' n
    unfold bitsN
    rw [Int.pow_succ]
    split <;> omega
theorem bitsN_t {f : Nat → Bool} {n : Nat} (h : f n = true) : bitsN f (n + 1) = bitsN f n + 2 ^ n := by unfold bitsN; rw [if_pos h]; cases n <;> rfl
theorem bitsN_f {f : Nat → Bool} {n : Nat} (h : f n = false) : bitsN f (n + 1) = bitsN f n := by
  show bitsN f n + (if f n = true then 2 ^ n else 0) = _
  rw [h]; simp
theorem bitsN_or {f : Nat → Bool} {n : Nat} (hn : n ≤ 30) (h : f n = true) : bOr (bitsN f n) (bShl 1 (n : Int)) = bitsN f (n + 1) := by
  have hr := bitsN_r f n
  rw [bitsN_t h, bOr_bit hr.1 (by omega) (by omega) (by simpa using hr.2)]
  simp
theorem bitsN_or0 {f : Nat → Bool} {n : Nat} (hn : n ≤ 30) (h : f n = false) : bOr (bitsN f n) 0 = bitsN f (n + 1) := by
  have hr := bitsN_r f n
  have := pow_le' hn
  rw [bitsN_f h, bOr_0 (by unfold R32; omega)]
theorem bitsN_bit (f : Nat → Bool) : ∀ (n r : Nat), (bitsN f n).toNat.testBit r = (decide (r < n) && f r)
  | 0, r => by simp [bitsN]
  | n + 1, r => by
    have hr := bitsN_r f n
    have e2 : ((2 : Int) ^ n) = ((2 ^ n : Nat) : Int) := by push_cast; rfl
    have hlt : (bitsN f n).toNat < 2 ^ n := by omega
    have ih := bitsN_bit f n r
    cases hf : f n with
    | false =>
      rw [bitsN_f hf, ih]
      by_cases h1 : r < n
      · rw [decide_eq_true h1, decide_eq_true (show r < n + 1 by omega)]
      · by_cases h2 : r = n
        · subst h2; rw [hf]; simp
        · rw [decide_eq_false h1, decide_eq_false (show ¬ r < n + 1 by omega)]
    | true =>
      rw [bitsN_t hf]
      have e : (bitsN f n + 2 ^ n).toNat = 2 ^ n * 1 + (bitsN f n).toNat := by omega
      rw [e, Nat.testBit_two_pow_mul_add _ hlt]
      by_cases h1 : r < n
      · rw [if_pos h1, ih, decide_eq_true h1, decide_eq_true (show r < n + 1 by omega)]
      · rw [if_neg h1]
        by_cases h2 : r = n
        · subst h2; simp [hf]
        · have : 0 < r - n := by omega
          obtain ⟨i, hi⟩ : ∃ i, r - n = i + 1 := ⟨r - n - 1, by omega⟩
          rw [hi, Nat.testBit_succ, decide_eq_false (show ¬ r < n + 1 by omega)]; simp
theorem bitsN_congr {f g : Nat → Bool} : ∀ n : Nat, (∀ r, r < n → f r = g r) → bitsN f n = bitsN g n
  | 0, _ => rfl
  | n + 1, h => by unfold bitsN; rw [bitsN_congr n (fun r hr => h r (by omega)), h n (by omega)]
abbrev A80 : List Nat := [80, 81, 82]
def ofS (A : Mem) (tx : Nat → Txt) (r w : Int) : Int := if 0 ≤ r ∧ r < A 10 0 then (if w = 0 then A 11 r else if w = 1 then A 12 r else if w = 2 then A 13 r else if w = 3 then A 1 r else if w = 4 then A 14 r else if w = 5 then swS A tx r else -1) else -1
def ofGS (A : Mem) (tx : Nat → Txt) (g w : Int) : Int := if 0 ≤ g ∧ g < A 10 1 then (if w = 0 then A 2 g else if w = 1 then A 15 g else if w = 2 then A 3 g else if w = 3 then opS A tx g else -1) else -1
def sucksS (A : Mem) (tx : Nat → Txt) (g r : Int) : Int := if (0 ≤ g ∧ g < A 10 1) ∧ (0 ≤ r ∧ r < A 10 0) then skS A tx (A 10 4) g r else -1
def isS (A : Mem) (w : Int) : Int := if w = 0 then A 0 2 else if w = 1 then A 0 3 else if w = 2 then A 0 1 else if w = 3 then A 0 0 else -2
def bookS (A : Mem) (i w : Int) : Int := if i = -1 then A 0 4 else if 0 ≤ i ∧ i < A 0 4 then (if w = 0 then A 4 i else if w = 1 then A 5 i else if w = 2 then A 6 i else if w = 3 then A 7 i else -2) else -2

def wp_X11_of (x1 : Int) (x2 : Int) (σ : Mem) (Q : Int → Mem → Prop) : Prop :=
  ((0 ≤ x1 ∧ x1 < σ 1 8) →
    (x2 = 0 →
     (0 ≤ x1 ∧ x1 < 16) ∧
     Q (σ 2 x1) σ) ∧
    (x2 ≠ 0 →
     (x2 = 1 →
      (0 ≤ x1 ∧ x1 < 16) ∧
      Q (σ 3 x1) σ) ∧
     (x2 ≠ 1 →
      (x2 = 2 →
       (0 ≤ x1 ∧ x1 < 16) ∧
       Q (σ 4 x1) σ) ∧
      (x2 ≠ 2 →
       (x2 = 3 →
        (0 ≤ x1 ∧ x1 < 16) ∧
        Q (σ 11 x1) σ) ∧
       (x2 ≠ 3 →
        (x2 = 4 →
         (0 ≤ x1 ∧ x1 < 16) ∧
         Q (σ 5 x1) σ) ∧
        (x2 ≠ 4 →
         (x2 = 5 →
          ∃ g15 : Mem, ∃ g16 : Nat → Txt, (vwC σ g15 g16 ∧ (0 ≤ x1 ∧ x1 < g15 10 0)) ∧
          ∀ (u21 : Int) (σ20 : Mem), R32 u21 → OKm σ20 → (u21 = swS g15 g16 x1 ∧ Fr [37] σ σ20) →
          Q u21 σ20) ∧
         (x2 ≠ 5 →
          Q (-1) σ))))))) ∧
   ((¬ (0 ≤ x1 ∧ x1 < σ 1 8)) →
    Q (-1) σ)
theorem mt_X11_of {d : Nat} (hd : 4 ≤ d) {x1 : Int} {x2 : Int} {σ : Mem} {Q : Int → Mem → Prop} (hx1 : R32 x1) (hx2 : R32 x2) (hO : OKm σ) (h : wp_X11_of x1 x2 σ Q) : Mt yX11_of cX11_of 3 (some .int) d [aR (0), aI (x1), aI (x2)] σ (QI Q) := by
  refine Mt.intro (by decide +kernel) (Nat.le_of_ble_eq_true rfl) [(0, aR (0)), (1, aI (x1)), (2, aI (x2))] rfl ?_
  unfold wp_X11_of at h
  refine G_aload_n 0 rfl rfl dX11_of_0 ?_
  refine G_get (k := 0) (kd := (2, 1)) (v := aR 1) gf_X11_10 rfl rfl rfl rfl dX11_of_1 ?_
  refine G_iload_n 1 rfl rfl dX11_of_4 ?_
  refine G_callV (as := [_]) cf_X11_188 rfl rfl rfl (sp_X10_hasRoad (d - 1) (by omega) _ hO _ hx1) (by omega) rfl rfl (Nat.le_of_ble_eq_true rfl) dX11_of_5 ?_
  rintro _ _ ⟨_, rfl, rfl, rfl⟩ o2 r1
  refine G_if_ne (bI_R _) dX11_of_8 (tgt := 13) (by decide) (fun c3 => ?_) (fun c3 => ?_)
  · have h := h.1 (bI_ne c3)
    refine G_iload_n 2 rfl rfl dX11_of_13 ?_
    refine G_tsw (tgt := 52) 0 0 (by decide) (rL _ rfl) (by decide) rfl (by decide) hx2 dX11_of_14 (fun n23 => ?_) (fun n23 => ?_)
    · have h := h.1 n23
      refine G_aload_n 0 rfl rfl dX11_of_52 ?_
      refine G_get (k := 0) (kd := (2, 1)) (v := aR 1) gf_X11_10 rfl rfl rfl rfl dX11_of_53 ?_
      refine G_get (k := 0) (kd := (3, 1)) (v := aR (2)) gf_X11_191 rfl rfl rfl rfl dX11_of_56 ?_
      refine G_iload_n 1 rfl rfl dX11_of_59 ?_
      obtain ⟨c5, h⟩ := h
      refine G_iald (n := 16) rfl c5.1 c5.2 dX11_of_60 ?_
      exact G_iret rfl (OKm.i hO 2 x1 (isLg_row (show shp 2 = (1, 16, []) from rfl) _)) dX11_of_61 ⟨_, rfl, h⟩ hO
    · have h := h.2 n23
      have n24 : (1 : Int) ≤ x2 ∨ x2 < 0 := tsw_next (by decide) (tsw_0 _ _) n23
      refine G_tsw (tgt := 62) 1 1 (by decide) (rL _ rfl) (by decide) rfl (by decide) hx2 dX11_of_14 (fun n25 => ?_) (fun n25 => ?_)
      · have h := h.1 n25
        refine G_aload_n 0 rfl rfl dX11_of_62 ?_
        refine G_get (k := 0) (kd := (2, 1)) (v := aR 1) gf_X11_10 rfl rfl rfl rfl dX11_of_63 ?_
        refine G_get (k := 1) (kd := (3, 2)) (v := aR (3)) gf_X11_194 rfl rfl rfl rfl dX11_of_66 ?_
        refine G_iload_n 1 rfl rfl dX11_of_69 ?_
        obtain ⟨c7, h⟩ := h
        refine G_iald (n := 16) rfl c7.1 c7.2 dX11_of_70 ?_
        exact G_iret rfl (OKm.i hO 3 x1 (isLg_row (show shp 3 = (1, 16, []) from rfl) _)) dX11_of_71 ⟨_, rfl, h⟩ hO
      · have h := h.2 n25
        have n26 : (2 : Int) ≤ x2 ∨ x2 < 0 := tsw_next (by decide) n24 n25
        refine G_tsw (tgt := 72) 2 2 (by decide) (rL _ rfl) (by decide) rfl (by decide) hx2 dX11_of_14 (fun n27 => ?_) (fun n27 => ?_)
        · have h := h.1 n27
          refine G_aload_n 0 rfl rfl dX11_of_72 ?_
          refine G_get (k := 0) (kd := (2, 1)) (v := aR 1) gf_X11_10 rfl rfl rfl rfl dX11_of_73 ?_
          refine G_get (k := 2) (kd := (3, 3)) (v := aR (4)) gf_X11_197 rfl rfl rfl rfl dX11_of_76 ?_
          refine G_iload_n 1 rfl rfl dX11_of_79 ?_
          obtain ⟨c9, h⟩ := h
          refine G_iald (n := 16) rfl c9.1 c9.2 dX11_of_80 ?_
          exact G_iret rfl (OKm.i hO 4 x1 (isLg_row (show shp 4 = (1, 16, []) from rfl) _)) dX11_of_81 ⟨_, rfl, h⟩ hO
        · have h := h.2 n27
          have n28 : (3 : Int) ≤ x2 ∨ x2 < 0 := tsw_next (by decide) n26 n27
          refine G_tsw (tgt := 82) 3 3 (by decide) (rL _ rfl) (by decide) rfl (by decide) hx2 dX11_of_14 (fun n29 => ?_) (fun n29 => ?_)
          · have h := h.1 n29
            refine G_aload_n 0 rfl rfl dX11_of_82 ?_
            refine G_get (k := 1) (kd := (2, 10)) (v := aR 10) gf_X11_19 rfl rfl rfl rfl dX11_of_83 ?_
            refine G_get (k := 0) (kd := (3, 1)) (v := aR (11)) gf_X11_199 rfl rfl rfl rfl dX11_of_86 ?_
            refine G_iload_n 1 rfl rfl dX11_of_89 ?_
            obtain ⟨c11, h⟩ := h
            refine G_iald (n := 16) rfl c11.1 c11.2 dX11_of_90 ?_
            exact G_iret rfl (OKm.i hO 11 x1 (isLg_row (show shp 11 = (1, 16, []) from rfl) _)) dX11_of_91 ⟨_, rfl, h⟩ hO
          · have h := h.2 n29
            have n30 : (4 : Int) ≤ x2 ∨ x2 < 0 := tsw_next (by decide) n28 n29
            refine G_tsw (tgt := 92) 4 4 (by decide) (rL _ rfl) (by decide) rfl (by decide) hx2 dX11_of_14 (fun n31 => ?_) (fun n31 => ?_)
            · have h := h.1 n31
              refine G_aload_n 0 rfl rfl dX11_of_92 ?_
              refine G_get (k := 0) (kd := (2, 1)) (v := aR 1) gf_X11_10 rfl rfl rfl rfl dX11_of_93 ?_
              refine G_get (k := 3) (kd := (3, 4)) (v := aR (5)) gf_X11_202 rfl rfl rfl rfl dX11_of_96 ?_
              refine G_iload_n 1 rfl rfl dX11_of_99 ?_
              obtain ⟨c13, h⟩ := h
              refine G_iald (n := 16) rfl c13.1 c13.2 dX11_of_100 ?_
              exact G_iret rfl (OKm.i hO 5 x1 (isLg_row (show shp 5 = (1, 16, []) from rfl) _)) dX11_of_101 ⟨_, rfl, h⟩ hO
            · have h := h.2 n31
              have n32 : (5 : Int) ≤ x2 ∨ x2 < 0 := tsw_next (by decide) n30 n31
              refine G_tsw (tgt := 102) 5 5 (by decide) (rL _ rfl) (by decide) rfl (by decide) hx2 dX11_of_14 (fun n33 => ?_) (fun n33 => ?_)
              · have h := h.1 n33
                refine G_aload_n 0 rfl rfl dX11_of_102 ?_
                refine G_get (k := 9) (kd := (2, 36)) (v := aR 36) gf_X11_67 rfl rfl rfl rfl dX11_of_103 ?_
                refine G_iload_n 1 rfl rfl dX11_of_106 ?_
                obtain ⟨g15, g16, c17, h⟩ := h
                refine G_callV (as := [_]) cf_X11_205 rfl rfl rfl (sp_X2_swelling (d - 1) (by omega) _ hO _ hx1 g15 g16 c17) (by omega) rfl rfl (Nat.le_of_ble_eq_true rfl) dX11_of_107 ?_
                rintro _ σ20 ⟨u21, rfl, z22⟩ o19 r18
                have h := h _ _ (r18 _ rfl) o19 z22
                exact G_iret rfl (r18 _ rfl) dX11_of_110 ⟨_, rfl, h⟩ o19
              · have h := h.2 n33
                have n34 : (6 : Int) ≤ x2 ∨ x2 < 0 := tsw_next (by decide) n32 n33
                refine G_tswd (tgt := 111) hx2 (tsw_out n34) (by decide) dX11_of_14 ?_
                refine G_iconst dX11_of_111 ?_
                exact G_iret rfl (rL (-1) rfl) dX11_of_112 ⟨_, rfl, h⟩ hO
  · have h := h.2 ((bI_0 _).mp c3)
    refine G_iconst dX11_of_11 ?_
    exact G_iret rfl (rL (-1) rfl) dX11_of_12 ⟨_, rfl, h⟩ hO

theorem sp_X11_of (d : Nat) (hd : 4 ≤ d) (σ : Mem) (hO : OKm σ) (x1 : Int) (hx1 : R32 x1) (x2 : Int) (hx2 : R32 x2) (A : Mem) (tx : Nat → Txt) (hpre : vwC σ A tx) : Mt yX11_of cX11_of 3 (some .int) d [aR (0), aI (x1), aI (x2)] σ (QI (fun v σ' => v = ofS A tx x1 x2 ∧ Fr ScrC σ σ')) := mt_X11_of hd hx1 hx2 hO (by
  unfold wp_X11_of
  have hV := hpre
  have hI := hV.2.2.1
  have hc := hI.1
  have e8 : σ 1 8 = A 10 0 := hV.1.1.1
  have e9 : σ 1 9 = A 10 1 := hV.1.1.2.1
  rw [e8]
  unfold ofS
  refine ⟨fun hr => ?_, fun h => ⟨by rw [if_neg h], Fr.rf _ _⟩⟩
  rw [if_pos hr]
  have t1 := hV.1.2.1 x1 hr.1 hr.2
  have n1 := hV.2.1.2.1 x1 hr.1 hr.2
  have s2 : σ 2 x1 = A 11 x1 := t1.1
  have s3 : σ 3 x1 = A 12 x1 := t1.2.1
  have s4 : σ 4 x1 = A 13 x1 := t1.2.2.1
  have s5 : σ 5 x1 = A 14 x1 := t1.2.2.2
  rw [s2, s3, s4, s5, n1]
  have b : 0 ≤ x1 ∧ x1 < 16 := by omega
  refine ⟨fun h => ⟨b, by rw [if_pos h], Fr.rf _ _⟩, fun h0 => ⟨fun h => ⟨b, by rw [if_neg h0, if_pos h], Fr.rf _ _⟩, fun h1 => ⟨fun h => ⟨b, by rw [if_neg h0, if_neg h1, if_pos h], Fr.rf _ _⟩, fun h2 => ⟨fun h => ⟨b, by rw [if_neg h0, if_neg h1, if_neg h2, if_pos h], Fr.rf _ _⟩, fun h3 => ⟨fun h => ⟨b, by rw [if_neg h0, if_neg h1, if_neg h2, if_neg h3, if_pos h], Fr.rf _ _⟩, fun h4 => ⟨fun h => ⟨A, tx, ⟨hV, hr⟩, ?_⟩, fun h5 => ⟨by rw [if_neg h0, if_neg h1, if_neg h2, if_neg h3, if_neg h4, if_neg h5], Fr.rf _ _⟩⟩⟩⟩⟩⟩⟩
  intro u σ1 hu hO1 ⟨eu, hF⟩
  exact ⟨by rw [if_neg h0, if_neg h1, if_neg h2, if_neg h3, if_neg h4, if_pos h]; exact eu, fr37 hF⟩)

def wp_X12_of (x1 : Int) (x2 : Int) (σ : Mem) (Q : Int → Mem → Prop) : Prop :=
  (0 ≤ σ 75 0) ∧
   ((0 ≤ x1 ∧ x1 < σ 75 0) →
    ((¬ ((0 : Int) ≤ x2 ∧ x2 ≤ (2 : Int))) →
     ((x2 ≠ 3) →
      ((x2 ≠ 4) →
       ((x2 ≠ 5) →
        Q (-1) σ) ∧
       ((x2 = 5) →
        ∃ g11 : Mem, ∃ g12 : Nat → Txt, (vwM σ g11 g12 ∧ (0 ≤ x1 ∧ x1 < g11 10 0)) ∧
        ∀ (u17 : Int) (σ16 : Mem), R32 u17 → OKm σ16 → (u17 = swS g11 g12 x1 ∧ vwM σ16 g11 g12 ∧ Fr [80, 81, 82] σ σ16) →
        Q u17 σ16)) ∧
      ((x2 = 4) →
       (0 ≤ x1 ∧ x1 < 16 ∧ 0 ≤ (3 : Int) ∧ (3 : Int) < 4) ∧
       Q (σ 75 (39 + 4 * x1 + (3 : Int))) σ)) ∧
     ((x2 = 3) →
      (0 ≤ (11 + x1) ∧ (11 + x1) < 2119) ∧
      Q (σ 75 (11 + x1)) σ)) ∧
    (((0 : Int) ≤ x2 ∧ x2 ≤ (2 : Int)) →
     (0 ≤ x1 ∧ x1 < 16 ∧ 0 ≤ x2 ∧ x2 < 4) ∧
     Q (σ 75 (39 + 4 * x1 + x2)) σ)) ∧
   ((¬ (0 ≤ x1 ∧ x1 < σ 75 0)) →
    Q (-1) σ)
theorem mt_X12_of {d : Nat} (hd : 5 ≤ d) {x1 : Int} {x2 : Int} {σ : Mem} {Q : Int → Mem → Prop} (hx1 : R32 x1) (hx2 : R32 x2) (hO : OKm σ) (h : wp_X12_of x1 x2 σ Q) : Mt yX12_of cX12_of 3 (some .int) d [aR (74), aI (x1), aI (x2)] σ (QI Q) := by
  refine Mt.intro (by decide +kernel) (Nat.le_of_ble_eq_true rfl) [(0, aR (74)), (1, aI (x1)), (2, aI (x2))] rfl ?_
  unfold wp_X12_of at h
  refine G_aload_n 0 rfl rfl dX12_of_0 ?_
  refine G_iload_n 1 rfl rfl dX12_of_1 ?_
  obtain ⟨c1, h⟩ := h
  refine G_callV (as := [_]) cf_X12_333 rfl rfl rfl (sp_X12_isRoad (d - 1) (by omega) _ hO _ hx1 c1) (by omega) rfl rfl (Nat.le_of_ble_eq_true rfl) dX12_of_2 ?_
  rintro _ _ ⟨_, rfl, rfl, rfl⟩ o3 r2
  refine G_if_ne (bI_R _) dX12_of_5 (tgt := 10) (by decide) (fun c4 => ?_) (fun c4 => ?_)
  · have h := h.1 (bI_ne c4)
    refine G_iload_n 2 rfl rfl dX12_of_10 ?_
    refine G_iconst dX12_of_11 ?_
    refine G_iconst dX12_of_12 ?_
    refine G_callS (as := [_, _, _]) cf_X12_81 rfl (sp_X12_isIn (d - 1) (by omega) _ hO _ hx2 _ (rL 0 rfl) _ (rL 2 rfl)) (by omega) rfl rfl (Nat.le_of_ble_eq_true rfl) dX12_of_13 ?_
    rintro _ _ ⟨_, rfl, rfl, rfl⟩ o6 r5
    refine G_if_eq (bI_R _) dX12_of_16 (tgt := 28) (by decide) (fun c7 => ?_) (fun c7 => ?_)
    · have h := h.1 ((bI_0 _).mp c7)
      refine G_iload_n 2 rfl rfl dX12_of_28 ?_
      refine G_iconst dX12_of_29 ?_
      refine G_icmp_ne hx2 (rL 3 rfl) dX12_of_30 (tgt := 45) (by decide) (fun c8 => ?_) (fun c8 => ?_)
      · have h := h.1 c8
        refine G_iload_n 2 rfl rfl dX12_of_45 ?_
        refine G_iconst dX12_of_46 ?_
        refine G_icmp_ne hx2 (rL 4 rfl) dX12_of_47 (tgt := 59) (by decide) (fun c9 => ?_) (fun c9 => ?_)
        · have h := h.1 c9
          refine G_iload_n 2 rfl rfl dX12_of_59 ?_
          refine G_iconst dX12_of_60 ?_
          refine G_icmp_ne hx2 (rL 5 rfl) dX12_of_61 (tgt := 72) (by decide) (fun c10 => ?_) (fun c10 => ?_)
          · have h := h.1 c10
            refine G_iconst dX12_of_72 ?_
            exact G_iret rfl (rL (-1) rfl) dX12_of_73 ⟨_, rfl, h⟩ hO
          · have h := h.2 c10
            refine G_aload_n 0 rfl rfl dX12_of_64 ?_
            refine G_iload_n 1 rfl rfl dX12_of_65 ?_
            obtain ⟨g11, g12, c13, h⟩ := h
            refine G_callV (as := [_]) cf_X12_370 rfl rfl rfl (sp_X12_swellsOf (d - 1) (by omega) _ hO _ hx1 g11 g12 c13) (by omega) rfl rfl (Nat.le_of_ble_eq_true rfl) dX12_of_66 ?_
            rintro _ σ16 ⟨u17, rfl, z18⟩ o15 r14
            have h := h _ _ (r14 _ rfl) o15 z18
            refine G_goto (tgt := 73) dX12_of_69 (by decide) ?_
            exact G_iret rfl (r14 _ rfl) dX12_of_73 ⟨_, rfl, h⟩ o15
        · have h := h.2 c9
          refine G_aload_n 0 rfl rfl dX12_of_50 ?_
          refine G_iload_n 1 rfl rfl dX12_of_51 ?_
          refine G_iconst dX12_of_52 ?_
          obtain ⟨c19, h⟩ := h
          refine G_callV (as := [_, _]) cf_X12_85 rfl rfl rfl (sp_X12_told (d - 1) (by omega) _ hO _ hx1 _ (rL 3 rfl) c19) (by omega) rfl rfl (Nat.le_of_ble_eq_true rfl) dX12_of_53 ?_
          rintro _ _ ⟨_, rfl, rfl, rfl⟩ o21 r20
          refine G_goto (tgt := 73) dX12_of_56 (by decide) ?_
          exact G_iret rfl (r20 _ rfl) dX12_of_73 ⟨_, rfl, h⟩ hO
      · have h := h.2 c8
        refine G_aload_n 0 rfl rfl dX12_of_33 ?_
        refine G_get (k := 0) (kd := (2, 75)) (v := aR 75) gf_X12_7 rfl rfl rfl rfl dX12_of_34 ?_
        refine G_bipush (by decide) dX12_of_37 ?_
        refine G_iload_n 1 rfl rfl dX12_of_39 ?_
        refine G_iadd dX12_of_40 ?_
        obtain ⟨c22, h⟩ := h
        refine G_iald (n := 2119) rfl c22.1 c22.2 dX12_of_41 ?_
        refine G_goto (tgt := 73) dX12_of_42 (by decide) ?_
        exact G_iret rfl (OKm.i hO 75 (11 + x1) (isLg_row (show shp 75 = (1, 2119, []) from rfl) _)) dX12_of_73 ⟨_, rfl, h⟩ hO
    · have h := h.2 (bI_ne c7)
      refine G_aload_n 0 rfl rfl dX12_of_19 ?_
      refine G_iload_n 1 rfl rfl dX12_of_20 ?_
      refine G_iload_n 2 rfl rfl dX12_of_21 ?_
      obtain ⟨c23, h⟩ := h
      refine G_callV (as := [_, _]) cf_X12_85 rfl rfl rfl (sp_X12_told (d - 1) (by omega) _ hO _ hx1 _ hx2 c23) (by omega) rfl rfl (Nat.le_of_ble_eq_true rfl) dX12_of_22 ?_
      rintro _ _ ⟨_, rfl, rfl, rfl⟩ o25 r24
      refine G_goto (tgt := 73) dX12_of_25 (by decide) ?_
      exact G_iret rfl (r24 _ rfl) dX12_of_73 ⟨_, rfl, h⟩ hO
  · have h := h.2 ((bI_0 _).mp c4)
    refine G_iconst dX12_of_8 ?_
    exact G_iret rfl (rL (-1) rfl) dX12_of_9 ⟨_, rfl, h⟩ hO

theorem sp_X12_of (d : Nat) (hd : 5 ≤ d) (σ : Mem) (hO : OKm σ) (x1 : Int) (hx1 : R32 x1) (x2 : Int) (hx2 : R32 x2) (A : Mem) (tx : Nat → Txt) (hpre : vwM σ A tx) : Mt yX12_of cX12_of 3 (some .int) d [aR (74), aI (x1), aI (x2)] σ (QI (fun v σ' => v = ofS A tx x1 x2 ∧ vwM σ' A tx ∧ Fr F80 σ σ')) := mt_X12_of hd hx1 hx2 hO (by
  unfold wp_X12_of
  have hV := hpre
  have hI := hV.2.2.1
  have hc := hI.1
  have e0 : σ 75 0 = A 10 0 := hV.1.1.1
  have e1 : σ 75 1 = A 10 1 := hV.1.1.2.1
  rw [e0]
  unfold ofS
  refine ⟨by omega, fun hr => ?_, fun h => ⟨by rw [if_neg h], hV, Fr.rf _ _⟩⟩
  rw [if_pos hr]
  have t1 := hV.1.2.1 x1 hr.1 hr.2
  have n1 := hV.2.1.2.1 x1 hr.1 hr.2
  refine ⟨fun hn => ⟨fun h3 => ⟨fun h4 => ⟨fun h5 => ?_, fun h5 => ⟨A, tx, ⟨hV, hr⟩, ?_⟩⟩, fun h4 => ?_⟩, fun h3 => ?_⟩, fun hn => ?_⟩
  · exact ⟨by rw [if_neg (by omega), if_neg (by omega), if_neg (by omega), if_neg h3, if_neg h4, if_neg h5], hV, Fr.rf _ _⟩
  · intro u σ1 hu hO1 ⟨eu, hV1, hF⟩
    exact ⟨by rw [if_neg (by omega), if_neg (by omega), if_neg (by omega), if_neg h3, if_neg h4, if_pos h5]; exact eu, hV1, hF⟩
  · exact ⟨by omega, by rw [if_neg (by omega), if_neg (by omega), if_neg (by omega), if_neg h3, if_pos h4]; exact t1.2.2.2, hV, Fr.rf _ _⟩
  · exact ⟨by omega, by rw [if_neg (by omega), if_neg (by omega), if_neg (by omega), if_pos h3]; exact n1, hV, Fr.rf _ _⟩
  · refine ⟨by omega, ?_, hV, Fr.rf _ _⟩
    rcases (show x2 = 0 ∨ x2 = 1 ∨ x2 = 2 by omega) with h | h | h
    · rw [if_pos h, h, Int.add_zero]; exact t1.1
    · rw [if_neg (by omega), if_pos h, h]; exact t1.2.1
    · rw [if_neg (by omega), if_neg (by omega), if_pos h, h]; exact t1.2.2.1)

def wp_X11_ofGoer (x1 : Int) (x2 : Int) (σ : Mem) (Q : Int → Mem → Prop) : Prop :=
  ((0 ≤ x1 ∧ x1 < σ 1 9) →
    (x2 = 0 →
     (0 ≤ x1 ∧ x1 < 6) ∧
     Q (σ 12 x1) σ) ∧
    (x2 ≠ 0 →
     (x2 = 1 →
      (0 ≤ x1 ∧ x1 < 6) ∧
      Q (σ 6 x1) σ) ∧
     (x2 ≠ 1 →
      (x2 = 2 →
       (0 ≤ x1 ∧ x1 < 6) ∧
       Q (σ 13 x1) σ) ∧
      (x2 ≠ 2 →
       (x2 = 3 →
        ∃ g11 : Mem, ∃ g12 : Nat → Txt, (vwC σ g11 g12 ∧ (0 ≤ x1 ∧ x1 < g11 10 1)) ∧
        ∀ (u17 : Int) (σ16 : Mem), R32 u17 → OKm σ16 → (u17 = opS g11 g12 x1 ∧ Fr [37] σ σ16) →
        Q u17 σ16) ∧
       (x2 ≠ 3 →
        Q (-1) σ))))) ∧
   ((¬ (0 ≤ x1 ∧ x1 < σ 1 9)) →
    Q (-1) σ)
theorem mt_X11_ofGoer {d : Nat} (hd : 5 ≤ d) {x1 : Int} {x2 : Int} {σ : Mem} {Q : Int → Mem → Prop} (hx1 : R32 x1) (hx2 : R32 x2) (hO : OKm σ) (h : wp_X11_ofGoer x1 x2 σ Q) : Mt yX11_ofGoer cX11_ofGoer 3 (some .int) d [aR (0), aI (x1), aI (x2)] σ (QI Q) := by
  refine Mt.intro (by decide +kernel) (Nat.le_of_ble_eq_true rfl) [(0, aR (0)), (1, aI (x1)), (2, aI (x2))] rfl ?_
  unfold wp_X11_ofGoer at h
  refine G_aload_n 0 rfl rfl dX11_ofGoer_0 ?_
  refine G_get (k := 0) (kd := (2, 1)) (v := aR 1) gf_X11_10 rfl rfl rfl rfl dX11_ofGoer_1 ?_
  refine G_iload_n 1 rfl rfl dX11_ofGoer_4 ?_
  refine G_callV (as := [_]) cf_X11_209 rfl rfl rfl (sp_X10_hasGoer (d - 1) (by omega) _ hO _ hx1) (by omega) rfl rfl (Nat.le_of_ble_eq_true rfl) dX11_ofGoer_5 ?_
  rintro _ _ ⟨_, rfl, rfl, rfl⟩ o2 r1
  refine G_if_ne (bI_R _) dX11_ofGoer_8 (tgt := 13) (by decide) (fun c3 => ?_) (fun c3 => ?_)
  · have h := h.1 (bI_ne c3)
    refine G_iload_n 2 rfl rfl dX11_ofGoer_13 ?_
    refine G_tsw (tgt := 44) 0 0 (by decide) (rL _ rfl) (by decide) rfl (by decide) hx2 dX11_ofGoer_14 (fun n19 => ?_) (fun n19 => ?_)
    · have h := h.1 n19
      refine G_aload_n 0 rfl rfl dX11_ofGoer_44 ?_
      refine G_get (k := 1) (kd := (2, 10)) (v := aR 10) gf_X11_19 rfl rfl rfl rfl dX11_ofGoer_45 ?_
      refine G_get (k := 1) (kd := (3, 2)) (v := aR (12)) gf_X11_149 rfl rfl rfl rfl dX11_ofGoer_48 ?_
      refine G_iload_n 1 rfl rfl dX11_ofGoer_51 ?_
      obtain ⟨c5, h⟩ := h
      refine G_iald (n := 6) rfl c5.1 c5.2 dX11_ofGoer_52 ?_
      exact G_iret rfl (OKm.i hO 12 x1 (isLg_row (show shp 12 = (1, 6, []) from rfl) _)) dX11_ofGoer_53 ⟨_, rfl, h⟩ hO
    · have h := h.2 n19
      have n20 : (1 : Int) ≤ x2 ∨ x2 < 0 := tsw_next (by decide) (tsw_0 _ _) n19
      refine G_tsw (tgt := 54) 1 1 (by decide) (rL _ rfl) (by decide) rfl (by decide) hx2 dX11_ofGoer_14 (fun n21 => ?_) (fun n21 => ?_)
      · have h := h.1 n21
        refine G_aload_n 0 rfl rfl dX11_ofGoer_54 ?_
        refine G_get (k := 0) (kd := (2, 1)) (v := aR 1) gf_X11_10 rfl rfl rfl rfl dX11_ofGoer_55 ?_
        refine G_get (k := 4) (kd := (3, 5)) (v := aR (6)) gf_X11_212 rfl rfl rfl rfl dX11_ofGoer_58 ?_
        refine G_iload_n 1 rfl rfl dX11_ofGoer_61 ?_
        obtain ⟨c7, h⟩ := h
        refine G_iald (n := 6) rfl c7.1 c7.2 dX11_ofGoer_62 ?_
        exact G_iret rfl (OKm.i hO 6 x1 (isLg_row (show shp 6 = (1, 6, []) from rfl) _)) dX11_ofGoer_63 ⟨_, rfl, h⟩ hO
      · have h := h.2 n21
        have n22 : (2 : Int) ≤ x2 ∨ x2 < 0 := tsw_next (by decide) n20 n21
        refine G_tsw (tgt := 64) 2 2 (by decide) (rL _ rfl) (by decide) rfl (by decide) hx2 dX11_ofGoer_14 (fun n23 => ?_) (fun n23 => ?_)
        · have h := h.1 n23
          refine G_aload_n 0 rfl rfl dX11_ofGoer_64 ?_
          refine G_get (k := 1) (kd := (2, 10)) (v := aR 10) gf_X11_19 rfl rfl rfl rfl dX11_ofGoer_65 ?_
          refine G_get (k := 2) (kd := (3, 3)) (v := aR (13)) gf_X11_215 rfl rfl rfl rfl dX11_ofGoer_68 ?_
          refine G_iload_n 1 rfl rfl dX11_ofGoer_71 ?_
          obtain ⟨c9, h⟩ := h
          refine G_iald (n := 6) rfl c9.1 c9.2 dX11_ofGoer_72 ?_
          exact G_iret rfl (OKm.i hO 13 x1 (isLg_row (show shp 13 = (1, 6, []) from rfl) _)) dX11_ofGoer_73 ⟨_, rfl, h⟩ hO
        · have h := h.2 n23
          have n24 : (3 : Int) ≤ x2 ∨ x2 < 0 := tsw_next (by decide) n22 n23
          refine G_tsw (tgt := 74) 3 3 (by decide) (rL _ rfl) (by decide) rfl (by decide) hx2 dX11_ofGoer_14 (fun n25 => ?_) (fun n25 => ?_)
          · have h := h.1 n25
            refine G_aload_n 0 rfl rfl dX11_ofGoer_74 ?_
            refine G_get (k := 10) (kd := (2, 38)) (v := aR 38) gf_X11_76 rfl rfl rfl rfl dX11_ofGoer_75 ?_
            refine G_iload_n 1 rfl rfl dX11_ofGoer_78 ?_
            obtain ⟨g11, g12, c13, h⟩ := h
            refine G_callV (as := [_]) cf_X11_218 rfl rfl rfl (sp_X0_openRoads (d - 1) (by omega) _ hO _ hx1 g11 g12 c13) (by omega) rfl rfl (Nat.le_of_ble_eq_true rfl) dX11_ofGoer_79 ?_
            rintro _ σ16 ⟨u17, rfl, z18⟩ o15 r14
            have h := h _ _ (r14 _ rfl) o15 z18
            exact G_iret rfl (r14 _ rfl) dX11_ofGoer_82 ⟨_, rfl, h⟩ o15
          · have h := h.2 n25
            have n26 : (4 : Int) ≤ x2 ∨ x2 < 0 := tsw_next (by decide) n24 n25
            refine G_tswd (tgt := 83) hx2 (tsw_out n26) (by decide) dX11_ofGoer_14 ?_
            refine G_iconst dX11_ofGoer_83 ?_
            exact G_iret rfl (rL (-1) rfl) dX11_ofGoer_84 ⟨_, rfl, h⟩ hO
  · have h := h.2 ((bI_0 _).mp c3)
    refine G_iconst dX11_ofGoer_11 ?_
    exact G_iret rfl (rL (-1) rfl) dX11_ofGoer_12 ⟨_, rfl, h⟩ hO

theorem sp_X11_ofGoer (d : Nat) (hd : 5 ≤ d) (σ : Mem) (hO : OKm σ) (x1 : Int) (hx1 : R32 x1) (x2 : Int) (hx2 : R32 x2) (A : Mem) (tx : Nat → Txt) (hpre : vwC σ A tx) : Mt yX11_ofGoer cX11_ofGoer 3 (some .int) d [aR (0), aI (x1), aI (x2)] σ (QI (fun v σ' => v = ofGS A tx x1 x2 ∧ Fr ScrC σ σ')) := mt_X11_ofGoer hd hx1 hx2 hO (by
  unfold wp_X11_ofGoer
  have hV := hpre
  have hI := hV.2.2.1
  have hc := hI.1
  have e8 : σ 1 8 = A 10 0 := hV.1.1.1
  have e9 : σ 1 9 = A 10 1 := hV.1.1.2.1
  rw [e9]
  unfold ofGS
  refine ⟨fun hg => ?_, fun h => ⟨by rw [if_neg h], Fr.rf _ _⟩⟩
  rw [if_pos hg]
  have s6 : σ 6 x1 = A 15 x1 := hV.1.2.2.1 x1 hg.1 hg.2
  have n2 := hV.2.1.2.2.1 x1 hg.1 hg.2
  rw [s6, n2.1, n2.2]
  have b : 0 ≤ x1 ∧ x1 < 6 := by omega
  refine ⟨fun h => ⟨b, by rw [if_pos h], Fr.rf _ _⟩, fun h0 => ⟨fun h => ⟨b, by rw [if_neg h0, if_pos h], Fr.rf _ _⟩, fun h1 => ⟨fun h => ⟨b, by rw [if_neg h0, if_neg h1, if_pos h], Fr.rf _ _⟩, fun h2 => ⟨fun h => ⟨A, tx, ⟨hV, hg⟩, ?_⟩, fun h3 => ⟨by rw [if_neg h0, if_neg h1, if_neg h2, if_neg h3], Fr.rf _ _⟩⟩⟩⟩⟩
  intro u σ1 hu hO1 ⟨eu, hF⟩
  exact ⟨by rw [if_neg h0, if_neg h1, if_neg h2, if_pos h]; exact eu, fr37 hF⟩)

def wp_X12_ofGoer (x1 : Int) (x2 : Int) (σ : Mem) (Q : Int → Mem → Prop) : Prop :=
  (0 ≤ σ 75 1) ∧
   ((0 ≤ x1 ∧ x1 < σ 75 1) →
    ((x2 ≠ 0) →
     ((x2 ≠ 1) →
      ((x2 ≠ 2) →
       ((x2 ≠ 3) →
        Q (-1) σ) ∧
       ((x2 = 3) →
        ∃ g9 : Mem, ∃ g10 : Nat → Txt, (vwM σ g9 g10 ∧ (0 ≤ x1 ∧ x1 < g9 10 1)) ∧
        ∀ (u15 : Int) (σ14 : Mem), R32 u15 → OKm σ14 → (u15 = opS g9 g10 x1 ∧ vwM σ14 g9 g10 ∧ Fr F80 σ σ14) →
        Q u15 σ14)) ∧
      ((x2 = 2) →
       (0 ≤ x1 ∧ x1 < 6) ∧
       Q (σ 75 (27 + 2 * x1 + 1)) σ)) ∧
     ((x2 = 1) →
      (0 ≤ x1 ∧ x1 < 6) ∧
      Q (σ 75 (103 + 2 * x1 + 1)) σ)) ∧
    ((x2 = 0) →
     (0 ≤ x1 ∧ x1 < 6) ∧
     Q (σ 75 (27 + 2 * x1)) σ)) ∧
   ((¬ (0 ≤ x1 ∧ x1 < σ 75 1)) →
    Q (-1) σ)
theorem mt_X12_ofGoer {d : Nat} (hd : 8 ≤ d) {x1 : Int} {x2 : Int} {σ : Mem} {Q : Int → Mem → Prop} (hx1 : R32 x1) (hx2 : R32 x2) (hO : OKm σ) (h : wp_X12_ofGoer x1 x2 σ Q) : Mt yX12_ofGoer cX12_ofGoer 3 (some .int) d [aR (74), aI (x1), aI (x2)] σ (QI Q) := by
  refine Mt.intro (by decide +kernel) (Nat.le_of_ble_eq_true rfl) [(0, aR (74)), (1, aI (x1)), (2, aI (x2))] rfl ?_
  unfold wp_X12_ofGoer at h
  refine G_aload_n 0 rfl rfl dX12_ofGoer_0 ?_
  refine G_iload_n 1 rfl rfl dX12_ofGoer_1 ?_
  obtain ⟨c1, h⟩ := h
  refine G_callV (as := [_]) cf_X12_330 rfl rfl rfl (sp_X12_isGoer (d - 1) (by omega) _ hO _ hx1 c1) (by omega) rfl rfl (Nat.le_of_ble_eq_true rfl) dX12_ofGoer_2 ?_
  rintro _ _ ⟨_, rfl, rfl, rfl⟩ o3 r2
  refine G_if_ne (bI_R _) dX12_ofGoer_5 (tgt := 10) (by decide) (fun c4 => ?_) (fun c4 => ?_)
  · have h := h.1 (bI_ne c4)
    refine G_iload_n 2 rfl rfl dX12_ofGoer_10 ?_
    refine G_if_ne hx2 dX12_ofGoer_11 (tgt := 22) (by decide) (fun c5 => ?_) (fun c5 => ?_)
    · have h := h.1 c5
      refine G_iload_n 2 rfl rfl dX12_ofGoer_22 ?_
      refine G_iconst dX12_ofGoer_23 ?_
      refine G_icmp_ne hx2 (rL 1 rfl) dX12_ofGoer_24 (tgt := 35) (by decide) (fun c6 => ?_) (fun c6 => ?_)
      · have h := h.1 c6
        refine G_iload_n 2 rfl rfl dX12_ofGoer_35 ?_
        refine G_iconst dX12_ofGoer_36 ?_
        refine G_icmp_ne hx2 (rL 2 rfl) dX12_ofGoer_37 (tgt := 48) (by decide) (fun c7 => ?_) (fun c7 => ?_)
        · have h := h.1 c7
          refine G_iload_n 2 rfl rfl dX12_ofGoer_48 ?_
          refine G_iconst dX12_ofGoer_49 ?_
          refine G_icmp_ne hx2 (rL 3 rfl) dX12_ofGoer_50 (tgt := 61) (by decide) (fun c8 => ?_) (fun c8 => ?_)
          · have h := h.1 c8
            refine G_iconst dX12_ofGoer_61 ?_
            exact G_iret rfl (rL (-1) rfl) dX12_ofGoer_62 ⟨_, rfl, h⟩ hO
          · have h := h.2 c8
            refine G_aload_n 0 rfl rfl dX12_ofGoer_53 ?_
            refine G_iload_n 1 rfl rfl dX12_ofGoer_54 ?_
            obtain ⟨g9, g10, c11, h⟩ := h
            refine G_callV (as := [_]) cf_X12_358 rfl rfl rfl (sp_X12_roadsFor (d - 1) (by omega) _ hO _ hx1 g9 g10 c11) (by omega) rfl rfl (Nat.le_of_ble_eq_true rfl) dX12_ofGoer_55 ?_
            rintro _ σ14 ⟨u15, rfl, z16⟩ o13 r12
            have h := h _ _ (r12 _ rfl) o13 z16
            refine G_goto (tgt := 62) dX12_ofGoer_58 (by decide) ?_
            exact G_iret rfl (r12 _ rfl) dX12_ofGoer_62 ⟨_, rfl, h⟩ o13
        · have h := h.2 c7
          refine G_aload_n 0 rfl rfl dX12_ofGoer_40 ?_
          refine G_iload_n 1 rfl rfl dX12_ofGoer_41 ?_
          obtain ⟨c17, h⟩ := h
          refine G_callV (as := [_]) cf_X12_311 rfl rfl rfl (sp_X12_went (d - 1) (by omega) _ hO _ hx1 c17) (by omega) rfl rfl (Nat.le_of_ble_eq_true rfl) dX12_ofGoer_42 ?_
          rintro _ _ ⟨_, rfl, rfl, rfl⟩ o19 r18
          refine G_goto (tgt := 62) dX12_ofGoer_45 (by decide) ?_
          exact G_iret rfl (r18 _ rfl) dX12_ofGoer_62 ⟨_, rfl, h⟩ hO
      · have h := h.2 c6
        refine G_aload_n 0 rfl rfl dX12_ofGoer_27 ?_
        refine G_iload_n 1 rfl rfl dX12_ofGoer_28 ?_
        obtain ⟨c20, h⟩ := h
        refine G_callV (as := [_]) cf_X12_308 rfl rfl rfl (sp_X12_mouth (d - 1) (by omega) _ hO _ hx1 c20) (by omega) rfl rfl (Nat.le_of_ble_eq_true rfl) dX12_ofGoer_29 ?_
        rintro _ _ ⟨_, rfl, rfl, rfl⟩ o22 r21
        refine G_goto (tgt := 62) dX12_ofGoer_32 (by decide) ?_
        exact G_iret rfl (r21 _ rfl) dX12_ofGoer_62 ⟨_, rfl, h⟩ hO
    · have h := h.2 c5
      refine G_aload_n 0 rfl rfl dX12_ofGoer_14 ?_
      refine G_iload_n 1 rfl rfl dX12_ofGoer_15 ?_
      obtain ⟨c23, h⟩ := h
      refine G_callV (as := [_]) cf_X12_336 rfl rfl rfl (sp_X12_at0 (d - 1) (by omega) _ hO _ hx1 c23) (by omega) rfl rfl (Nat.le_of_ble_eq_true rfl) dX12_ofGoer_16 ?_
      rintro _ _ ⟨_, rfl, rfl, rfl⟩ o25 r24
      refine G_goto (tgt := 62) dX12_ofGoer_19 (by decide) ?_
      exact G_iret rfl (r24 _ rfl) dX12_ofGoer_62 ⟨_, rfl, h⟩ hO
  · have h := h.2 ((bI_0 _).mp c4)
    refine G_iconst dX12_ofGoer_8 ?_
    exact G_iret rfl (rL (-1) rfl) dX12_ofGoer_9 ⟨_, rfl, h⟩ hO

theorem sp_X12_ofGoer (d : Nat) (hd : 8 ≤ d) (σ : Mem) (hO : OKm σ) (x1 : Int) (hx1 : R32 x1) (x2 : Int) (hx2 : R32 x2) (A : Mem) (tx : Nat → Txt) (hpre : vwM σ A tx) : Mt yX12_ofGoer cX12_ofGoer 3 (some .int) d [aR (74), aI (x1), aI (x2)] σ (QI (fun v σ' => v = ofGS A tx x1 x2 ∧ vwM σ' A tx ∧ Fr F80 σ σ')) := mt_X12_ofGoer hd hx1 hx2 hO (by
  unfold wp_X12_ofGoer
  have hV := hpre
  have hI := hV.2.2.1
  have hc := hI.1
  have e0 : σ 75 0 = A 10 0 := hV.1.1.1
  have e1 : σ 75 1 = A 10 1 := hV.1.1.2.1
  rw [e1]
  unfold ofGS
  refine ⟨by omega, fun hg => ?_, fun h => ⟨by rw [if_neg h], hV, Fr.rf _ _⟩⟩
  rw [if_pos hg]
  have s6 := (hV.1.2.2.1 x1 hg.1 hg.2).2
  have n2 := hV.2.1.2.2.1 x1 hg.1 hg.2
  rw [s6, n2.1, n2.2]
  have b : 0 ≤ x1 ∧ x1 < 6 := by omega
  refine ⟨fun h0 => ⟨fun h1 => ⟨fun h2 => ⟨fun h3 => ⟨by rw [if_neg h0, if_neg h1, if_neg h2, if_neg h3], hV, Fr.rf _ _⟩, fun h3 => ⟨A, tx, ⟨hV, hg⟩, ?_⟩⟩, fun h2 => ⟨b, by rw [if_neg h0, if_neg h1, if_pos h2], hV, Fr.rf _ _⟩⟩, fun h1 => ⟨b, by rw [if_neg h0, if_pos h1], hV, Fr.rf _ _⟩⟩, fun h0 => ⟨b, by rw [if_pos h0], hV, Fr.rf _ _⟩⟩
  intro u σ1 hu hO1 ⟨eu, hV1, hF⟩
  exact ⟨by rw [if_neg h0, if_neg h1, if_neg h2, if_pos h3]; exact eu, hV1, hF⟩)

def wp_X11_sucks (x1 : Int) (x2 : Int) (σ : Mem) (Q : Int → Mem → Prop) : Prop :=
  ((¬ (0 ≤ x1 ∧ x1 < σ 1 9)) →
    Q (-1) σ) ∧
   ((0 ≤ x1 ∧ x1 < σ 1 9) →
    ((¬ (0 ≤ x2 ∧ x2 < σ 1 8)) →
     Q (-1) σ) ∧
    ((0 ≤ x2 ∧ x2 < σ 1 8) →
     ∃ g7 : Mem, ∃ g8 : Nat → Txt, (vwC σ g7 g8 ∧ (-1 ≤ (σ 1 12) ∧ (σ 1 12) < g7 10 2) ∧ (0 ≤ x1 ∧ x1 < g7 10 1) ∧ (0 ≤ x2 ∧ x2 < g7 10 0)) ∧
     ∀ (u13 : Int) (σ12 : Mem), R32 u13 → OKm σ12 → (u13 = skS g7 g8 (σ 1 12) x1 x2 ∧ Fr [37] σ σ12) →
     Q u13 σ12))
theorem mt_X11_sucks {d : Nat} (hd : 4 ≤ d) {x1 : Int} {x2 : Int} {σ : Mem} {Q : Int → Mem → Prop} (hx1 : R32 x1) (hx2 : R32 x2) (hO : OKm σ) (h : wp_X11_sucks x1 x2 σ Q) : Mt yX11_sucks cX11_sucks 3 (some .int) d [aR (0), aI (x1), aI (x2)] σ (QI Q) := by
  refine Mt.intro (by decide +kernel) (Nat.le_of_ble_eq_true rfl) [(0, aR (0)), (1, aI (x1)), (2, aI (x2))] rfl ?_
  unfold wp_X11_sucks at h
  refine G_aload_n 0 rfl rfl dX11_sucks_0 ?_
  refine G_get (k := 0) (kd := (2, 1)) (v := aR 1) gf_X11_10 rfl rfl rfl rfl dX11_sucks_1 ?_
  refine G_iload_n 1 rfl rfl dX11_sucks_4 ?_
  refine G_callV (as := [_]) cf_X11_209 rfl rfl rfl (sp_X10_hasGoer (d - 1) (by omega) _ hO _ hx1) (by omega) rfl rfl (Nat.le_of_ble_eq_true rfl) dX11_sucks_5 ?_
  rintro _ _ ⟨_, rfl, rfl, rfl⟩ o2 r1
  refine G_if_eq (bI_R _) dX11_sucks_8 (tgt := 41) (by decide) (fun c3 => ?_) (fun c3 => ?_)
  · have h := h.1 ((bI_0 _).mp c3)
    refine G_iconst dX11_sucks_41 ?_
    exact G_iret rfl (rL (-1) rfl) dX11_sucks_42 ⟨_, rfl, h⟩ hO
  · have h := h.2 (bI_ne c3)
    refine G_aload_n 0 rfl rfl dX11_sucks_11 ?_
    refine G_get (k := 0) (kd := (2, 1)) (v := aR 1) gf_X11_10 rfl rfl rfl rfl dX11_sucks_12 ?_
    refine G_iload_n 2 rfl rfl dX11_sucks_15 ?_
    refine G_callV (as := [_]) cf_X11_188 rfl rfl rfl (sp_X10_hasRoad (d - 1) (by omega) _ hO _ hx2) (by omega) rfl rfl (Nat.le_of_ble_eq_true rfl) dX11_sucks_16 ?_
    rintro _ _ ⟨_, rfl, rfl, rfl⟩ o5 r4
    refine G_if_eq (bI_R _) dX11_sucks_19 (tgt := 41) (by decide) (fun c6 => ?_) (fun c6 => ?_)
    · have h := h.1 ((bI_0 _).mp c6)
      refine G_iconst dX11_sucks_41 ?_
      exact G_iret rfl (rL (-1) rfl) dX11_sucks_42 ⟨_, rfl, h⟩ hO
    · have h := h.2 (bI_ne c6)
      refine G_aload_n 0 rfl rfl dX11_sucks_22 ?_
      refine G_get (k := 9) (kd := (2, 36)) (v := aR 36) gf_X11_67 rfl rfl rfl rfl dX11_sucks_23 ?_
      refine G_aload_n 0 rfl rfl dX11_sucks_26 ?_
      refine G_get (k := 0) (kd := (2, 1)) (v := aR 1) gf_X11_10 rfl rfl rfl rfl dX11_sucks_27 ?_
      refine G_get (k := 12) (kd := (0, 0)) (v := aI (σ 1 12)) gf_X11_142 rfl rfl rfl rfl dX11_sucks_30 ?_
      refine G_iload_n 1 rfl rfl dX11_sucks_33 ?_
      refine G_iload_n 2 rfl rfl dX11_sucks_34 ?_
      obtain ⟨g7, g8, c9, h⟩ := h
      refine G_callV (as := [_, _, _]) cf_X11_221 rfl rfl rfl (sp_X2_sucking (d - 1) (by omega) _ hO _ (OKm.i hO 1 12 rfl) _ hx1 _ hx2 g7 g8 c9) (by omega) rfl rfl (Nat.le_of_ble_eq_true rfl) dX11_sucks_35 ?_
      rintro _ σ12 ⟨u13, rfl, z14⟩ o11 r10
      have h := h _ _ (r10 _ rfl) o11 z14
      refine G_goto (tgt := 42) dX11_sucks_38 (by decide) ?_
      exact G_iret rfl (r10 _ rfl) dX11_sucks_42 ⟨_, rfl, h⟩ o11

theorem sp_X11_sucks (d : Nat) (hd : 4 ≤ d) (σ : Mem) (hO : OKm σ) (x1 : Int) (hx1 : R32 x1) (x2 : Int) (hx2 : R32 x2) (A : Mem) (tx : Nat → Txt) (hpre : vwC σ A tx) : Mt yX11_sucks cX11_sucks 3 (some .int) d [aR (0), aI (x1), aI (x2)] σ (QI (fun v σ' => v = sucksS A tx x1 x2 ∧ Fr ScrC σ σ')) := mt_X11_sucks hd hx1 hx2 hO (by
  unfold wp_X11_sucks
  have hV := hpre
  have hI := hV.2.2.1
  have hc := hI.1
  have e8 : σ 1 8 = A 10 0 := hV.1.1.1
  have e9 : σ 1 9 = A 10 1 := hV.1.1.2.1
  rw [e8, e9]
  unfold sucksS
  have e12 : σ 1 12 = A 10 4 := hV.1.1.2.2.2.2
  rw [e12]
  refine ⟨fun h => ⟨by rw [if_neg (fun q => h q.1)], Fr.rf _ _⟩, fun hg => ⟨fun h => ⟨by rw [if_neg (fun q => h q.2)], Fr.rf _ _⟩, fun hr => ⟨A, tx, ⟨hV, by omega, hg, hr⟩, ?_⟩⟩⟩
  intro u σ1 hu hO1 ⟨eu, hF⟩
  exact ⟨by rw [if_pos ⟨hg, hr⟩]; exact eu, fr37 hF⟩)

def wp_X12_sucks (x1 : Int) (x2 : Int) (σ : Mem) (Q : Int → Mem → Prop) : Prop :=
  (0 ≤ σ 75 1) ∧
   ((¬ (0 ≤ x1 ∧ x1 < σ 75 1)) →
    Q (-1) σ) ∧
   ((0 ≤ x1 ∧ x1 < σ 75 1) →
    (0 ≤ σ 75 0) ∧
    ((¬ (0 ≤ x2 ∧ x2 < σ 75 0)) →
     Q (-1) σ) ∧
    ((0 ≤ x2 ∧ x2 < σ 75 0) →
     ∃ g9 : Mem, ∃ g10 : Nat → Txt, (vwM σ g9 g10 ∧ (-1 ≤ (σ 75 3) ∧ (σ 75 3) < g9 10 2) ∧ (0 ≤ x1 ∧ x1 < g9 10 1) ∧ (0 ≤ x2 ∧ x2 < g9 10 0)) ∧
     ∀ (u15 : Int) (σ14 : Mem), R32 u15 → OKm σ14 → (u15 = skS g9 g10 (σ 75 3) x1 x2 ∧ vwM σ14 g9 g10 ∧ Fr [80, 81, 82] σ σ14) →
     Q u15 σ14))
theorem mt_X12_sucks {d : Nat} (hd : 5 ≤ d) {x1 : Int} {x2 : Int} {σ : Mem} {Q : Int → Mem → Prop} (hx1 : R32 x1) (hx2 : R32 x2) (hO : OKm σ) (h : wp_X12_sucks x1 x2 σ Q) : Mt yX12_sucks cX12_sucks 3 (some .int) d [aR (74), aI (x1), aI (x2)] σ (QI Q) := by
  refine Mt.intro (by decide +kernel) (Nat.le_of_ble_eq_true rfl) [(0, aR (74)), (1, aI (x1)), (2, aI (x2))] rfl ?_
  unfold wp_X12_sucks at h
  refine G_aload_n 0 rfl rfl dX12_sucks_0 ?_
  refine G_iload_n 1 rfl rfl dX12_sucks_1 ?_
  obtain ⟨c1, h⟩ := h
  refine G_callV (as := [_]) cf_X12_330 rfl rfl rfl (sp_X12_isGoer (d - 1) (by omega) _ hO _ hx1 c1) (by omega) rfl rfl (Nat.le_of_ble_eq_true rfl) dX12_sucks_2 ?_
  rintro _ _ ⟨_, rfl, rfl, rfl⟩ o3 r2
  refine G_if_eq (bI_R _) dX12_sucks_5 (tgt := 31) (by decide) (fun c4 => ?_) (fun c4 => ?_)
  · have h := h.1 ((bI_0 _).mp c4)
    refine G_iconst dX12_sucks_31 ?_
    exact G_iret rfl (rL (-1) rfl) dX12_sucks_32 ⟨_, rfl, h⟩ hO
  · have h := h.2 (bI_ne c4)
    refine G_aload_n 0 rfl rfl dX12_sucks_8 ?_
    refine G_iload_n 2 rfl rfl dX12_sucks_9 ?_
    obtain ⟨c5, h⟩ := h
    refine G_callV (as := [_]) cf_X12_333 rfl rfl rfl (sp_X12_isRoad (d - 1) (by omega) _ hO _ hx2 c5) (by omega) rfl rfl (Nat.le_of_ble_eq_true rfl) dX12_sucks_10 ?_
    rintro _ _ ⟨_, rfl, rfl, rfl⟩ o7 r6
    refine G_if_eq (bI_R _) dX12_sucks_13 (tgt := 31) (by decide) (fun c8 => ?_) (fun c8 => ?_)
    · have h := h.1 ((bI_0 _).mp c8)
      refine G_iconst dX12_sucks_31 ?_
      exact G_iret rfl (rL (-1) rfl) dX12_sucks_32 ⟨_, rfl, h⟩ hO
    · have h := h.2 (bI_ne c8)
      refine G_aload_n 0 rfl rfl dX12_sucks_16 ?_
      refine G_aload_n 0 rfl rfl dX12_sucks_17 ?_
      refine G_get (k := 0) (kd := (2, 75)) (v := aR 75) gf_X12_7 rfl rfl rfl rfl dX12_sucks_18 ?_
      refine G_iconst dX12_sucks_21 ?_
      refine G_iald (n := 2119) rfl (by decide) (by decide) dX12_sucks_22 ?_
      refine G_iload_n 1 rfl rfl dX12_sucks_23 ?_
      refine G_iload_n 2 rfl rfl dX12_sucks_24 ?_
      obtain ⟨g9, g10, c11, h⟩ := h
      refine G_callV (as := [_, _, _]) cf_X12_327 rfl rfl rfl (sp_X12_sucksOf (d - 1) (by omega) _ hO _ (OKm.i hO 75 3 (isLg_row (show shp 75 = (1, 2119, []) from rfl) _)) _ hx1 _ hx2 g9 g10 c11) (by omega) rfl rfl (Nat.le_of_ble_eq_true rfl) dX12_sucks_25 ?_
      rintro _ σ14 ⟨u15, rfl, z16⟩ o13 r12
      have h := h _ _ (r12 _ rfl) o13 z16
      refine G_goto (tgt := 32) dX12_sucks_28 (by decide) ?_
      exact G_iret rfl (r12 _ rfl) dX12_sucks_32 ⟨_, rfl, h⟩ o13

theorem sp_X12_sucks (d : Nat) (hd : 5 ≤ d) (σ : Mem) (hO : OKm σ) (x1 : Int) (hx1 : R32 x1) (x2 : Int) (hx2 : R32 x2) (A : Mem) (tx : Nat → Txt) (hpre : vwM σ A tx) : Mt yX12_sucks cX12_sucks 3 (some .int) d [aR (74), aI (x1), aI (x2)] σ (QI (fun v σ' => v = sucksS A tx x1 x2 ∧ vwM σ' A tx ∧ Fr F80 σ σ')) := mt_X12_sucks hd hx1 hx2 hO (by
  unfold wp_X12_sucks
  have hV := hpre
  have hI := hV.2.2.1
  have hc := hI.1
  have e0 : σ 75 0 = A 10 0 := hV.1.1.1
  have e1 : σ 75 1 = A 10 1 := hV.1.1.2.1
  rw [e0, e1]
  unfold sucksS
  have e12 : σ 75 3 = A 10 4 := vwM_tx hV
  rw [e12]
  refine ⟨by omega, fun h => ⟨by rw [if_neg (fun q => h q.1)], hV, Fr.rf _ _⟩, fun hg => ⟨by omega, fun h => ⟨by rw [if_neg (fun q => h q.2)], hV, Fr.rf _ _⟩, fun hr => ⟨A, tx, ⟨hV, by omega, hg, hr⟩, ?_⟩⟩⟩
  intro u σ1 hu hO1 ⟨eu, hV1, hF⟩
  exact ⟨by rw [if_pos ⟨hg, hr⟩]; exact eu, hV1, hF⟩)

def wp_X11_is (x1 : Int) (σ : Mem) (Q : Int → Mem → Prop) : Prop :=
  (x1 = 0 →
    Q (σ 10 7) σ) ∧
   (x1 ≠ 0 →
    (x1 = 1 →
     Q (σ 10 8) σ) ∧
    (x1 ≠ 1 →
     (x1 = 2 →
      Q (σ 10 6) σ) ∧
     (x1 ≠ 2 →
      (x1 = 3 →
       Q (σ 10 5) σ) ∧
      (x1 ≠ 3 →
       Q (-2) σ))))
theorem mt_X11_is {d : Nat} (hd : 0 ≤ d) {x1 : Int} {σ : Mem} {Q : Int → Mem → Prop} (hx1 : R32 x1) (hO : OKm σ) (h : wp_X11_is x1 σ Q) : Mt yX11_is cX11_is 2 (some .int) d [aR (0), aI (x1)] σ (QI Q) := by
  refine Mt.intro (by decide +kernel) (Nat.le_of_ble_eq_true rfl) [(0, aR (0)), (1, aI (x1))] rfl ?_
  unfold wp_X11_is at h
  refine G_iload_n 1 rfl rfl dX11_is_0 ?_
  refine G_tsw (tgt := 32) 0 0 (by decide) (rL _ rfl) (by decide) rfl (by decide) hx1 dX11_is_1 (fun n5 => ?_) (fun n5 => ?_)
  · have h := h.1 n5
    refine G_aload_n 0 rfl rfl dX11_is_32 ?_
    refine G_get (k := 1) (kd := (2, 10)) (v := aR 10) gf_X11_19 rfl rfl rfl rfl dX11_is_33 ?_
    refine G_get (k := 7) (kd := (0, 0)) (v := aI (σ 10 7)) gf_X11_157 rfl rfl rfl rfl dX11_is_36 ?_
    exact G_iret rfl (OKm.i hO 10 7 rfl) dX11_is_39 ⟨_, rfl, h⟩ hO
  · have h := h.2 n5
    have n6 : (1 : Int) ≤ x1 ∨ x1 < 0 := tsw_next (by decide) (tsw_0 _ _) n5
    refine G_tsw (tgt := 40) 1 1 (by decide) (rL _ rfl) (by decide) rfl (by decide) hx1 dX11_is_1 (fun n7 => ?_) (fun n7 => ?_)
    · have h := h.1 n7
      refine G_aload_n 0 rfl rfl dX11_is_40 ?_
      refine G_get (k := 1) (kd := (2, 10)) (v := aR 10) gf_X11_19 rfl rfl rfl rfl dX11_is_41 ?_
      refine G_get (k := 8) (kd := (0, 0)) (v := aI (σ 10 8)) gf_X11_225 rfl rfl rfl rfl dX11_is_44 ?_
      exact G_iret rfl (OKm.i hO 10 8 rfl) dX11_is_47 ⟨_, rfl, h⟩ hO
    · have h := h.2 n7
      have n8 : (2 : Int) ≤ x1 ∨ x1 < 0 := tsw_next (by decide) n6 n7
      refine G_tsw (tgt := 48) 2 2 (by decide) (rL _ rfl) (by decide) rfl (by decide) hx1 dX11_is_1 (fun n9 => ?_) (fun n9 => ?_)
      · have h := h.1 n9
        refine G_aload_n 0 rfl rfl dX11_is_48 ?_
        refine G_get (k := 1) (kd := (2, 10)) (v := aR 10) gf_X11_19 rfl rfl rfl rfl dX11_is_49 ?_
        refine G_get (k := 6) (kd := (0, 0)) (v := aI (σ 10 6)) gf_X11_228 rfl rfl rfl rfl dX11_is_52 ?_
        exact G_iret rfl (OKm.i hO 10 6 rfl) dX11_is_55 ⟨_, rfl, h⟩ hO
      · have h := h.2 n9
        have n10 : (3 : Int) ≤ x1 ∨ x1 < 0 := tsw_next (by decide) n8 n9
        refine G_tsw (tgt := 56) 3 3 (by decide) (rL _ rfl) (by decide) rfl (by decide) hx1 dX11_is_1 (fun n11 => ?_) (fun n11 => ?_)
        · have h := h.1 n11
          refine G_aload_n 0 rfl rfl dX11_is_56 ?_
          refine G_get (k := 1) (kd := (2, 10)) (v := aR 10) gf_X11_19 rfl rfl rfl rfl dX11_is_57 ?_
          refine G_get (k := 5) (kd := (0, 0)) (v := aI (σ 10 5)) gf_X11_231 rfl rfl rfl rfl dX11_is_60 ?_
          exact G_iret rfl (OKm.i hO 10 5 rfl) dX11_is_63 ⟨_, rfl, h⟩ hO
        · have h := h.2 n11
          have n12 : (4 : Int) ≤ x1 ∨ x1 < 0 := tsw_next (by decide) n10 n11
          refine G_tswd (tgt := 64) hx1 (tsw_out n12) (by decide) dX11_is_1 ?_
          refine G_bipush (by decide) dX11_is_64 ?_
          exact G_iret rfl (rL (-2) rfl) dX11_is_66 ⟨_, rfl, h⟩ hO

theorem sp_X11_is (d : Nat) (hd : 0 ≤ d) (σ : Mem) (hO : OKm σ) (x1 : Int) (hx1 : R32 x1) (A : Mem) (tx : Nat → Txt) (hpre : vwC σ A tx) : Mt yX11_is cX11_is 2 (some .int) d [aR (0), aI (x1)] σ (QI (fun v σ' => v = isS A x1 ∧ Fr ScrC σ σ')) := mt_X11_is hd hx1 hO (by
  unfold wp_X11_is
  have hV := hpre
  have hI := hV.2.2.1
  have hc := hI.1
  have e8 : σ 1 8 = A 10 0 := hV.1.1.1
  have e9 : σ 1 9 = A 10 1 := hV.1.1.2.1
  have n0 := hV.2.1.1
  rw [n0.1, n0.2.1, n0.2.2.1, n0.2.2.2.1]
  unfold isS
  exact ⟨fun h => ⟨by rw [if_pos h], Fr.rf _ _⟩, fun h0 => ⟨fun h => ⟨by rw [if_neg h0, if_pos h], Fr.rf _ _⟩, fun h1 => ⟨fun h => ⟨by rw [if_neg h0, if_neg h1, if_pos h], Fr.rf _ _⟩, fun h2 => ⟨fun h => ⟨by rw [if_neg h0, if_neg h1, if_neg h2, if_pos h], Fr.rf _ _⟩, fun h3 => ⟨by rw [if_neg h0, if_neg h1, if_neg h2, if_neg h3], Fr.rf _ _⟩⟩⟩⟩⟩)

def wp_X12_is (x1 : Int) (σ : Mem) (Q : Int → Mem → Prop) : Prop :=
  ((¬ ((0 : Int) ≤ x1 ∧ x1 ≤ (3 : Int))) →
    Q (-2) σ) ∧
   (((0 : Int) ≤ x1 ∧ x1 ≤ (3 : Int)) →
    (0 ≤ (6 + x1) ∧ (6 + x1) < 2119) ∧
    Q (σ 75 (6 + x1)) σ)
theorem mt_X12_is {d : Nat} (hd : 1 ≤ d) {x1 : Int} {σ : Mem} {Q : Int → Mem → Prop} (hx1 : R32 x1) (hO : OKm σ) (h : wp_X12_is x1 σ Q) : Mt yX12_is cX12_is 2 (some .int) d [aR (74), aI (x1)] σ (QI Q) := by
  refine Mt.intro (by decide +kernel) (Nat.le_of_ble_eq_true rfl) [(0, aR (74)), (1, aI (x1))] rfl ?_
  unfold wp_X12_is at h
  refine G_iload_n 1 rfl rfl dX12_is_0 ?_
  refine G_iconst dX12_is_1 ?_
  refine G_iconst dX12_is_2 ?_
  refine G_callS (as := [_, _, _]) cf_X12_81 rfl (sp_X12_isIn (d - 1) (by omega) _ hO _ hx1 _ (rL 0 rfl) _ (rL 3 rfl)) (by omega) rfl rfl (Nat.le_of_ble_eq_true rfl) dX12_is_3 ?_
  rintro _ _ ⟨_, rfl, rfl, rfl⟩ o2 r1
  refine G_if_eq (bI_R _) dX12_is_6 (tgt := 21) (by decide) (fun c3 => ?_) (fun c3 => ?_)
  · have h := h.1 ((bI_0 _).mp c3)
    refine G_bipush (by decide) dX12_is_21 ?_
    exact G_iret rfl (rL (-2) rfl) dX12_is_23 ⟨_, rfl, h⟩ hO
  · have h := h.2 (bI_ne c3)
    refine G_aload_n 0 rfl rfl dX12_is_9 ?_
    refine G_get (k := 0) (kd := (2, 75)) (v := aR 75) gf_X12_7 rfl rfl rfl rfl dX12_is_10 ?_
    refine G_bipush (by decide) dX12_is_13 ?_
    refine G_iload_n 1 rfl rfl dX12_is_15 ?_
    refine G_iadd dX12_is_16 ?_
    obtain ⟨c4, h⟩ := h
    refine G_iald (n := 2119) rfl c4.1 c4.2 dX12_is_17 ?_
    refine G_goto (tgt := 23) dX12_is_18 (by decide) ?_
    exact G_iret rfl (OKm.i hO 75 (6 + x1) (isLg_row (show shp 75 = (1, 2119, []) from rfl) _)) dX12_is_23 ⟨_, rfl, h⟩ hO

theorem sp_X12_is (d : Nat) (hd : 1 ≤ d) (σ : Mem) (hO : OKm σ) (x1 : Int) (hx1 : R32 x1) (A : Mem) (tx : Nat → Txt) (hpre : vwM σ A tx) : Mt yX12_is cX12_is 2 (some .int) d [aR (74), aI (x1)] σ (QI (fun v σ' => v = isS A x1 ∧ vwM σ' A tx ∧ Fr F80 σ σ')) := mt_X12_is hd hx1 hO (by
  unfold wp_X12_is
  have hV := hpre
  have hI := hV.2.2.1
  have hc := hI.1
  have e0 : σ 75 0 = A 10 0 := hV.1.1.1
  have e1 : σ 75 1 = A 10 1 := hV.1.1.2.1
  have n0 := hV.2.1.1
  unfold isS
  refine ⟨fun h => ⟨by rw [if_neg (by omega), if_neg (by omega), if_neg (by omega), if_neg (by omega)], hV, Fr.rf _ _⟩, fun h => ⟨by omega, ?_, hV, Fr.rf _ _⟩⟩
  rcases (show x1 = 0 ∨ x1 = 1 ∨ x1 = 2 ∨ x1 = 3 by omega) with h | h | h | h <;> subst h
  · exact n0.1
  · exact n0.2.1
  · exact n0.2.2.1
  · exact n0.2.2.2.1)

def wp_X6_dayOfGoing (x1 : Int) (σ : Mem) (Q : Int → Mem → Prop) : Prop :=
  (0 ≤ x1 ∧ x1 < 30) ∧
   Q (bShr (σ 14 x1) 14) σ
theorem mt_X6_dayOfGoing {d : Nat} (hd : 0 ≤ d) {x1 : Int} {σ : Mem} {Q : Int → Mem → Prop} (hx1 : R32 x1) (hO : OKm σ) (h : wp_X6_dayOfGoing x1 σ Q) : Mt yX6_dayOfGoing cX6_dayOfGoing 2 (some .int) d [aR (10), aI (x1)] σ (QI Q) := by
  refine Mt.intro (by decide +kernel) (Nat.le_of_ble_eq_true rfl) [(0, aR (10)), (1, aI (x1))] rfl ?_
  unfold wp_X6_dayOfGoing at h
  refine G_aload_n 0 rfl rfl dX6_dayOfGoing_0 ?_
  refine G_get (k := 3) (kd := (3, 4)) (v := aR (14)) gf_X6_21 rfl rfl rfl rfl dX6_dayOfGoing_1 ?_
  refine G_iload_n 1 rfl rfl dX6_dayOfGoing_4 ?_
  obtain ⟨c1, h⟩ := h
  refine G_iald (n := 30) rfl c1.1 c1.2 dX6_dayOfGoing_5 ?_
  refine G_bipush (by decide) dX6_dayOfGoing_6 ?_
  refine G_ishr dX6_dayOfGoing_8 ?_
  exact G_iret rfl (r32_of _) dX6_dayOfGoing_9 ⟨_, rfl, h⟩ hO

theorem sp_X6_dayOfGoing (d : Nat) (hd : 0 ≤ d) (σ : Mem) (hO : OKm σ) (x1 : Int) (hx1 : R32 x1) (hpre : (0 ≤ x1 ∧ x1 < 30) ∧ (0 ≤ σ 14 x1 ∧ σ 14 x1 < 2147483648)) : Mt yX6_dayOfGoing cX6_dayOfGoing 2 (some .int) d [aR (10), aI (x1)] σ (QI (fun v σ' => (σ 14 x1 / 2 ^ 14) = v ∧ σ = σ')) := mt_X6_dayOfGoing hd hx1 hO (by
  unfold wp_X6_dayOfGoing
  refine ⟨hpre.1, ?_, rfl⟩
  have := bShr_i (x := σ 14 x1) 14 (by omega) hpre.2.1 (by omega)
  exact this.symm)

def wp_X6_goerOfGoing (x1 : Int) (σ : Mem) (Q : Int → Mem → Prop) : Prop :=
  (0 ≤ x1 ∧ x1 < 30) ∧
   Q (bAnd (bShr (σ 14 x1) 11) 7) σ
theorem mt_X6_goerOfGoing {d : Nat} (hd : 0 ≤ d) {x1 : Int} {σ : Mem} {Q : Int → Mem → Prop} (hx1 : R32 x1) (hO : OKm σ) (h : wp_X6_goerOfGoing x1 σ Q) : Mt yX6_goerOfGoing cX6_goerOfGoing 2 (some .int) d [aR (10), aI (x1)] σ (QI Q) := by
  refine Mt.intro (by decide +kernel) (Nat.le_of_ble_eq_true rfl) [(0, aR (10)), (1, aI (x1))] rfl ?_
  unfold wp_X6_goerOfGoing at h
  refine G_aload_n 0 rfl rfl dX6_goerOfGoing_0 ?_
  refine G_get (k := 3) (kd := (3, 4)) (v := aR (14)) gf_X6_21 rfl rfl rfl rfl dX6_goerOfGoing_1 ?_
  refine G_iload_n 1 rfl rfl dX6_goerOfGoing_4 ?_
  obtain ⟨c1, h⟩ := h
  refine G_iald (n := 30) rfl c1.1 c1.2 dX6_goerOfGoing_5 ?_
  refine G_bipush (by decide) dX6_goerOfGoing_6 ?_
  refine G_ishr dX6_goerOfGoing_8 ?_
  refine G_bipush (by decide) dX6_goerOfGoing_9 ?_
  refine G_iand dX6_goerOfGoing_11 ?_
  exact G_iret rfl (r32_of _) dX6_goerOfGoing_12 ⟨_, rfl, h⟩ hO

theorem sp_X6_goerOfGoing (d : Nat) (hd : 0 ≤ d) (σ : Mem) (hO : OKm σ) (x1 : Int) (hx1 : R32 x1) (hpre : (0 ≤ x1 ∧ x1 < 30) ∧ (0 ≤ σ 14 x1 ∧ σ 14 x1 < 2147483648)) : Mt yX6_goerOfGoing cX6_goerOfGoing 2 (some .int) d [aR (10), aI (x1)] σ (QI (fun v σ' => (σ 14 x1 / 2 ^ 11 % 2 ^ 3) = v ∧ σ = σ')) := mt_X6_goerOfGoing hd hx1 hO (by
  unfold wp_X6_goerOfGoing
  refine ⟨hpre.1, ?_, rfl⟩
  have h1 := bShr_i (x := σ 14 x1) 11 (by omega) hpre.2.1 (by omega)
  have h2 := bAnd_mod (x := σ 14 x1 / 2 ^ 11) 3 (by omega) (by omega) (by omega)
  rw [show ((11 : Nat) : Int) = 11 from rfl] at h1
  rw [h1]
  exact h2.symm)

def wp_X6_roadOfGoing (x1 : Int) (σ : Mem) (Q : Int → Mem → Prop) : Prop :=
  (0 ≤ x1 ∧ x1 < 30) ∧
   Q (bAnd (bShr (σ 14 x1) 7) 15) σ
theorem mt_X6_roadOfGoing {d : Nat} (hd : 0 ≤ d) {x1 : Int} {σ : Mem} {Q : Int → Mem → Prop} (hx1 : R32 x1) (hO : OKm σ) (h : wp_X6_roadOfGoing x1 σ Q) : Mt yX6_roadOfGoing cX6_roadOfGoing 2 (some .int) d [aR (10), aI (x1)] σ (QI Q) := by
  refine Mt.intro (by decide +kernel) (Nat.le_of_ble_eq_true rfl) [(0, aR (10)), (1, aI (x1))] rfl ?_
  unfold wp_X6_roadOfGoing at h
  refine G_aload_n 0 rfl rfl dX6_roadOfGoing_0 ?_
  refine G_get (k := 3) (kd := (3, 4)) (v := aR (14)) gf_X6_21 rfl rfl rfl rfl dX6_roadOfGoing_1 ?_
  refine G_iload_n 1 rfl rfl dX6_roadOfGoing_4 ?_
  obtain ⟨c1, h⟩ := h
  refine G_iald (n := 30) rfl c1.1 c1.2 dX6_roadOfGoing_5 ?_
  refine G_bipush (by decide) dX6_roadOfGoing_6 ?_
  refine G_ishr dX6_roadOfGoing_8 ?_
  refine G_bipush (by decide) dX6_roadOfGoing_9 ?_
  refine G_iand dX6_roadOfGoing_11 ?_
  exact G_iret rfl (r32_of _) dX6_roadOfGoing_12 ⟨_, rfl, h⟩ hO

theorem sp_X6_roadOfGoing (d : Nat) (hd : 0 ≤ d) (σ : Mem) (hO : OKm σ) (x1 : Int) (hx1 : R32 x1) (hpre : (0 ≤ x1 ∧ x1 < 30) ∧ (0 ≤ σ 14 x1 ∧ σ 14 x1 < 2147483648)) : Mt yX6_roadOfGoing cX6_roadOfGoing 2 (some .int) d [aR (10), aI (x1)] σ (QI (fun v σ' => (σ 14 x1 / 2 ^ 7 % 2 ^ 4) = v ∧ σ = σ')) := mt_X6_roadOfGoing hd hx1 hO (by
  unfold wp_X6_roadOfGoing
  refine ⟨hpre.1, ?_, rfl⟩
  have h1 := bShr_i (x := σ 14 x1) 7 (by omega) hpre.2.1 (by omega)
  have h2 := bAnd_mod (x := σ 14 x1 / 2 ^ 7) 4 (by omega) (by omega) (by omega)
  rw [show ((7 : Nat) : Int) = 7 from rfl] at h1
  rw [h1]
  exact h2.symm)

def wp_X6_suckedInGoing (x1 : Int) (σ : Mem) (Q : Int → Mem → Prop) : Prop :=
  (0 ≤ x1 ∧ x1 < 30) ∧
   Q (bAnd (σ 14 x1) 127) σ
theorem mt_X6_suckedInGoing {d : Nat} (hd : 0 ≤ d) {x1 : Int} {σ : Mem} {Q : Int → Mem → Prop} (hx1 : R32 x1) (hO : OKm σ) (h : wp_X6_suckedInGoing x1 σ Q) : Mt yX6_suckedInGoing cX6_suckedInGoing 2 (some .int) d [aR (10), aI (x1)] σ (QI Q) := by
  refine Mt.intro (by decide +kernel) (Nat.le_of_ble_eq_true rfl) [(0, aR (10)), (1, aI (x1))] rfl ?_
  unfold wp_X6_suckedInGoing at h
  refine G_aload_n 0 rfl rfl dX6_suckedInGoing_0 ?_
  refine G_get (k := 3) (kd := (3, 4)) (v := aR (14)) gf_X6_21 rfl rfl rfl rfl dX6_suckedInGoing_1 ?_
  refine G_iload_n 1 rfl rfl dX6_suckedInGoing_4 ?_
  obtain ⟨c1, h⟩ := h
  refine G_iald (n := 30) rfl c1.1 c1.2 dX6_suckedInGoing_5 ?_
  refine G_bipush (by decide) dX6_suckedInGoing_6 ?_
  refine G_iand dX6_suckedInGoing_8 ?_
  exact G_iret rfl (r32_of _) dX6_suckedInGoing_9 ⟨_, rfl, h⟩ hO

theorem sp_X6_suckedInGoing (d : Nat) (hd : 0 ≤ d) (σ : Mem) (hO : OKm σ) (x1 : Int) (hx1 : R32 x1) (hpre : (0 ≤ x1 ∧ x1 < 30) ∧ (0 ≤ σ 14 x1 ∧ σ 14 x1 < 2147483648)) : Mt yX6_suckedInGoing cX6_suckedInGoing 2 (some .int) d [aR (10), aI (x1)] σ (QI (fun v σ' => (σ 14 x1 % 2 ^ 7) = v ∧ σ = σ')) := mt_X6_suckedInGoing hd hx1 hO (by
  unfold wp_X6_suckedInGoing
  refine ⟨hpre.1, ?_, rfl⟩
  have h2 := bAnd_mod (x := σ 14 x1) 7 (by omega) (by omega) (by omega)
  exact h2.symm)

theorem bkC_dec {A : Mem} {i : Int} (h : InvA A) (h1 : 0 ≤ i) (h2 : i < A 0 4) : (0 ≤ bkC A i ∧ bkC A i < 2147483648) ∧ bkC A i / 2 ^ 14 = A 4 i ∧ bkC A i / 2 ^ 11 % 2 ^ 3 = A 5 i ∧ bkC A i / 2 ^ 7 % 2 ^ 4 = A 6 i ∧ bkC A i % 2 ^ 7 = A 7 i := by
  have := h.2.2.2.2.1 i h1 h2
  unfold bkC
  refine ⟨by omega, by omega, by omega, by omega, by omega⟩
theorem bkM_dec {A : Mem} {i : Int} (h : InvA A) (h1 : 0 ≤ i) (h2 : i < A 0 4) : (0 ≤ bkM A i ∧ bkM A i < 2147483648) ∧ bkM A i / 9600 = A 4 i ∧ bkM A i / 1600 % 6 = A 5 i ∧ bkM A i / 100 % 16 = A 6 i ∧ bkM A i % 100 = A 7 i := by
  have := h.2.2.2.2.1 i h1 h2
  unfold bkM
  refine ⟨by omega, by omega, by omega, by omega, by omega⟩

def wp_X11_book (x1 : Int) (x2 : Int) (σ : Mem) (Q : Int → Mem → Prop) : Prop :=
  ((x1 ≠ (-1)) →
    R32 ((σ 10 4) - 1) ∧
    (((0 : Int) ≤ x1 ∧ x1 ≤ ((σ 10 4) - 1)) →
     (x2 = 0 →
      ((0 ≤ x1 ∧ x1 < 30) ∧ (0 ≤ σ 14 x1 ∧ σ 14 x1 < 2147483648)) ∧
      Q (σ 14 x1 / 2 ^ 14) σ) ∧
     (x2 ≠ 0 →
      (x2 = 1 →
       ((0 ≤ x1 ∧ x1 < 30) ∧ (0 ≤ σ 14 x1 ∧ σ 14 x1 < 2147483648)) ∧
       Q (σ 14 x1 / 2 ^ 11 % 2 ^ 3) σ) ∧
      (x2 ≠ 1 →
       (x2 = 2 →
        ((0 ≤ x1 ∧ x1 < 30) ∧ (0 ≤ σ 14 x1 ∧ σ 14 x1 < 2147483648)) ∧
        Q (σ 14 x1 / 2 ^ 7 % 2 ^ 4) σ) ∧
       (x2 ≠ 2 →
        (x2 = 3 →
         ((0 ≤ x1 ∧ x1 < 30) ∧ (0 ≤ σ 14 x1 ∧ σ 14 x1 < 2147483648)) ∧
         Q (σ 14 x1 % 2 ^ 7) σ) ∧
        (x2 ≠ 3 →
         Q (-2) σ))))) ∧
    ((¬ ((0 : Int) ≤ x1 ∧ x1 ≤ ((σ 10 4) - 1))) →
     Q (-2) σ)) ∧
   ((x1 = (-1)) →
    Q (σ 10 4) σ)
theorem mt_X11_book {d : Nat} (hd : 1 ≤ d) {x1 : Int} {x2 : Int} {σ : Mem} {Q : Int → Mem → Prop} (hx1 : R32 x1) (hx2 : R32 x2) (hO : OKm σ) (h : wp_X11_book x1 x2 σ Q) : Mt yX11_book cX11_book 3 (some .int) d [aR (0), aI (x1), aI (x2)] σ (QI Q) := by
  refine Mt.intro (by decide +kernel) (Nat.le_of_ble_eq_true rfl) [(0, aR (0)), (1, aI (x1)), (2, aI (x2))] rfl ?_
  unfold wp_X11_book at h
  refine G_iload_n 1 rfl rfl dX11_book_0 ?_
  refine G_iconst dX11_book_1 ?_
  refine G_icmp_ne hx1 (rL (-1) rfl) dX11_book_2 (tgt := 13) (by decide) (fun c1 => ?_) (fun c1 => ?_)
  · have h := h.1 c1
    refine G_iload_n 1 rfl rfl dX11_book_13 ?_
    refine G_iconst dX11_book_14 ?_
    refine G_aload_n 0 rfl rfl dX11_book_15 ?_
    refine G_get (k := 1) (kd := (2, 10)) (v := aR 10) gf_X11_19 rfl rfl rfl rfl dX11_book_16 ?_
    refine G_get (k := 4) (kd := (0, 0)) (v := aI (σ 10 4)) gf_X11_234 rfl rfl rfl rfl dX11_book_19 ?_
    refine G_iconst dX11_book_22 ?_
    refine G_isub dX11_book_23 ?_
    obtain ⟨c2, h⟩ := h
    refine G_callS (as := [_, _, _]) cf_X11_107 rfl (sp_X11_within (d - 1) (by omega) _ hO _ hx1 _ (rL 0 rfl) _ c2) (by omega) rfl rfl (Nat.le_of_ble_eq_true rfl) dX11_book_24 ?_
    rintro _ _ ⟨_, rfl, rfl, rfl⟩ o4 r3
    refine G_if_ne (bI_R _) dX11_book_27 (tgt := 33) (by decide) (fun c5 => ?_) (fun c5 => ?_)
    · have h := h.1 (bI_ne c5)
      refine G_iload_n 2 rfl rfl dX11_book_33 ?_
      refine G_tsw (tgt := 64) 0 0 (by decide) (rL _ rfl) (by decide) rfl (by decide) hx2 dX11_book_34 (fun n22 => ?_) (fun n22 => ?_)
      · have h := h.1 n22
        refine G_aload_n 0 rfl rfl dX11_book_64 ?_
        refine G_get (k := 1) (kd := (2, 10)) (v := aR 10) gf_X11_19 rfl rfl rfl rfl dX11_book_65 ?_
        refine G_iload_n 1 rfl rfl dX11_book_68 ?_
        obtain ⟨c7, h⟩ := h
        refine G_callV (as := [_]) cf_X11_237 rfl rfl rfl (sp_X6_dayOfGoing (d - 1) (by omega) _ hO _ hx1 c7) (by omega) rfl rfl (Nat.le_of_ble_eq_true rfl) dX11_book_69 ?_
        rintro _ _ ⟨_, rfl, rfl, rfl⟩ o9 r8
        exact G_iret rfl (r8 _ rfl) dX11_book_72 ⟨_, rfl, h⟩ hO
      · have h := h.2 n22
        have n23 : (1 : Int) ≤ x2 ∨ x2 < 0 := tsw_next (by decide) (tsw_0 _ _) n22
        refine G_tsw (tgt := 73) 1 1 (by decide) (rL _ rfl) (by decide) rfl (by decide) hx2 dX11_book_34 (fun n24 => ?_) (fun n24 => ?_)
        · have h := h.1 n24
          refine G_aload_n 0 rfl rfl dX11_book_73 ?_
          refine G_get (k := 1) (kd := (2, 10)) (v := aR 10) gf_X11_19 rfl rfl rfl rfl dX11_book_74 ?_
          refine G_iload_n 1 rfl rfl dX11_book_77 ?_
          obtain ⟨c11, h⟩ := h
          refine G_callV (as := [_]) cf_X11_240 rfl rfl rfl (sp_X6_goerOfGoing (d - 1) (by omega) _ hO _ hx1 c11) (by omega) rfl rfl (Nat.le_of_ble_eq_true rfl) dX11_book_78 ?_
          rintro _ _ ⟨_, rfl, rfl, rfl⟩ o13 r12
          exact G_iret rfl (r12 _ rfl) dX11_book_81 ⟨_, rfl, h⟩ hO
        · have h := h.2 n24
          have n25 : (2 : Int) ≤ x2 ∨ x2 < 0 := tsw_next (by decide) n23 n24
          refine G_tsw (tgt := 82) 2 2 (by decide) (rL _ rfl) (by decide) rfl (by decide) hx2 dX11_book_34 (fun n26 => ?_) (fun n26 => ?_)
          · have h := h.1 n26
            refine G_aload_n 0 rfl rfl dX11_book_82 ?_
            refine G_get (k := 1) (kd := (2, 10)) (v := aR 10) gf_X11_19 rfl rfl rfl rfl dX11_book_83 ?_
            refine G_iload_n 1 rfl rfl dX11_book_86 ?_
            obtain ⟨c15, h⟩ := h
            refine G_callV (as := [_]) cf_X11_243 rfl rfl rfl (sp_X6_roadOfGoing (d - 1) (by omega) _ hO _ hx1 c15) (by omega) rfl rfl (Nat.le_of_ble_eq_true rfl) dX11_book_87 ?_
            rintro _ _ ⟨_, rfl, rfl, rfl⟩ o17 r16
            exact G_iret rfl (r16 _ rfl) dX11_book_90 ⟨_, rfl, h⟩ hO
          · have h := h.2 n26
            have n27 : (3 : Int) ≤ x2 ∨ x2 < 0 := tsw_next (by decide) n25 n26
            refine G_tsw (tgt := 91) 3 3 (by decide) (rL _ rfl) (by decide) rfl (by decide) hx2 dX11_book_34 (fun n28 => ?_) (fun n28 => ?_)
            · have h := h.1 n28
              refine G_aload_n 0 rfl rfl dX11_book_91 ?_
              refine G_get (k := 1) (kd := (2, 10)) (v := aR 10) gf_X11_19 rfl rfl rfl rfl dX11_book_92 ?_
              refine G_iload_n 1 rfl rfl dX11_book_95 ?_
              obtain ⟨c19, h⟩ := h
              refine G_callV (as := [_]) cf_X11_246 rfl rfl rfl (sp_X6_suckedInGoing (d - 1) (by omega) _ hO _ hx1 c19) (by omega) rfl rfl (Nat.le_of_ble_eq_true rfl) dX11_book_96 ?_
              rintro _ _ ⟨_, rfl, rfl, rfl⟩ o21 r20
              exact G_iret rfl (r20 _ rfl) dX11_book_99 ⟨_, rfl, h⟩ hO
            · have h := h.2 n28
              have n29 : (4 : Int) ≤ x2 ∨ x2 < 0 := tsw_next (by decide) n27 n28
              refine G_tswd (tgt := 100) hx2 (tsw_out n29) (by decide) dX11_book_34 ?_
              refine G_bipush (by decide) dX11_book_100 ?_
              exact G_iret rfl (rL (-2) rfl) dX11_book_102 ⟨_, rfl, h⟩ hO
    · have h := h.2 ((bI_0 _).mp c5)
      refine G_bipush (by decide) dX11_book_30 ?_
      exact G_iret rfl (rL (-2) rfl) dX11_book_32 ⟨_, rfl, h⟩ hO
  · have h := h.2 c1
    refine G_aload_n 0 rfl rfl dX11_book_5 ?_
    refine G_get (k := 1) (kd := (2, 10)) (v := aR 10) gf_X11_19 rfl rfl rfl rfl dX11_book_6 ?_
    refine G_get (k := 4) (kd := (0, 0)) (v := aI (σ 10 4)) gf_X11_234 rfl rfl rfl rfl dX11_book_9 ?_
    exact G_iret rfl (OKm.i hO 10 4 rfl) dX11_book_12 ⟨_, rfl, h⟩ hO

theorem sp_X11_book (d : Nat) (hd : 1 ≤ d) (σ : Mem) (hO : OKm σ) (x1 : Int) (hx1 : R32 x1) (x2 : Int) (hx2 : R32 x2) (A : Mem) (tx : Nat → Txt) (hpre : vwC σ A tx) : Mt yX11_book cX11_book 3 (some .int) d [aR (0), aI (x1), aI (x2)] σ (QI (fun v σ' => v = bookS A x1 x2 ∧ Fr ScrC σ σ')) := mt_X11_book hd hx1 hx2 hO (by
  unfold wp_X11_book
  have hV := hpre
  have hI := hV.2.2.1
  have hc := hI.1
  have e8 : σ 1 8 = A 10 0 := hV.1.1.1
  have e9 : σ 1 9 = A 10 1 := hV.1.1.2.1
  have k3 := hI.2.2.2.1
  have n0 : σ 10 4 = A 0 4 := hV.2.1.1.2.2.2.2
  rw [n0]
  unfold bookS
  refine ⟨fun hne => ⟨by unfold R32; omega, fun hin => ?_, fun hout => ⟨by rw [if_neg hne, if_neg (by omega)], Fr.rf _ _⟩⟩, fun heq => ⟨by rw [if_pos heq], Fr.rf _ _⟩⟩
  have hin2 : 0 ≤ x1 ∧ x1 < A 0 4 := by omega
  have eb := hV.2.1.2.2.2 x1 hin2.1 hin2.2
  obtain ⟨d0, d1, d2, d3, d4⟩ := bkC_dec hI hin2.1 hin2.2
  rw [eb, d1, d2, d3, d4, if_neg hne, if_pos hin2]
  have b : (0 ≤ x1 ∧ x1 < 30) ∧ (0 ≤ bkC A x1 ∧ bkC A x1 < 2147483648) := ⟨by omega, d0⟩
  exact ⟨fun h => ⟨b, by rw [if_pos h], Fr.rf _ _⟩, fun h0 => ⟨fun h => ⟨b, by rw [if_neg h0, if_pos h], Fr.rf _ _⟩, fun h1 => ⟨fun h => ⟨b, by rw [if_neg h0, if_neg h1, if_pos h], Fr.rf _ _⟩, fun h2 => ⟨fun h => ⟨b, by rw [if_neg h0, if_neg h1, if_neg h2, if_pos h], Fr.rf _ _⟩, fun h3 => ⟨by rw [if_neg h0, if_neg h1, if_neg h2, if_neg h3], Fr.rf _ _⟩⟩⟩⟩⟩)

def wp_X12_entry (x1 : Int) (x2 : Int) (σ : Mem) (Q : Int → Mem → Prop) : Prop :=
  (0 ≤ (2089 + x1) ∧ (2089 + x1) < 2119) ∧
   ((x2 ≠ 0) →
    ((x2 ≠ 1) →
     ((x2 ≠ 2) →
      R32 (Int.tmod (σ 75 (2089 + x1)) 100) ∧
      Q (Int.tmod (σ 75 (2089 + x1)) 100) σ) ∧
     ((x2 = 2) →
      R32 (Int.tdiv (σ 75 (2089 + x1)) 100) ∧
      R32 (Int.tmod (Int.tdiv (σ 75 (2089 + x1)) 100) 16) ∧
      Q (Int.tmod (Int.tdiv (σ 75 (2089 + x1)) 100) 16) σ)) ∧
    ((x2 = 1) →
     R32 (Int.tdiv (σ 75 (2089 + x1)) 1600) ∧
     R32 (Int.tmod (Int.tdiv (σ 75 (2089 + x1)) 1600) 6) ∧
     Q (Int.tmod (Int.tdiv (σ 75 (2089 + x1)) 1600) 6) σ)) ∧
   ((x2 = 0) →
    R32 (Int.tdiv (σ 75 (2089 + x1)) 9600) ∧
    Q (Int.tdiv (σ 75 (2089 + x1)) 9600) σ)
theorem mt_X12_entry {d : Nat} (hd : 0 ≤ d) {x1 : Int} {x2 : Int} {σ : Mem} {Q : Int → Mem → Prop} (hx1 : R32 x1) (hx2 : R32 x2) (hO : OKm σ) (h : wp_X12_entry x1 x2 σ Q) : Mt yX12_entry cX12_entry 4 (some .int) d [aR (74), aI (x1), aI (x2)] σ (QI Q) := by
  refine Mt.intro (by decide +kernel) (Nat.le_of_ble_eq_true rfl) [(0, aR (74)), (1, aI (x1)), (2, aI (x2))] rfl ?_
  unfold wp_X12_entry at h
  refine G_aload_n 0 rfl rfl dX12_entry_0 ?_
  refine G_get (k := 0) (kd := (2, 75)) (v := aR 75) gf_X12_7 rfl rfl rfl rfl dX12_entry_1 ?_
  refine G_sipush (by decide) dX12_entry_4 ?_
  refine G_iload_n 1 rfl rfl dX12_entry_7 ?_
  refine G_iadd dX12_entry_8 ?_
  obtain ⟨c1, h⟩ := h
  refine G_iald (n := 2119) rfl c1.1 c1.2 dX12_entry_9 ?_
  refine G_istore_n (lv' := [(3, aI ((σ 75 (2089 + x1)))), (0, aR (74)), (1, aI (x1)), (2, aI (x2))]) rfl rfl (by decide) dX12_entry_10 ?_
  refine G_iload_n 3 rfl rfl dX12_entry_11 ?_
  refine G_if_ne hx2 dX12_entry_12 (tgt := 23) (by decide) (fun c2 => ?_) (fun c2 => ?_)
  · have h := h.1 c2
    refine G_iload_n 3 rfl rfl dX12_entry_23 ?_
    refine G_iconst dX12_entry_24 ?_
    refine G_icmp_ne hx2 (rL 1 rfl) dX12_entry_25 (tgt := 39) (by decide) (fun c3 => ?_) (fun c3 => ?_)
    · have h := h.1 c3
      refine G_iload_n 3 rfl rfl dX12_entry_39 ?_
      refine G_iconst dX12_entry_40 ?_
      refine G_icmp_ne hx2 (rL 2 rfl) dX12_entry_41 (tgt := 54) (by decide) (fun c4 => ?_) (fun c4 => ?_)
      · have h := h.1 c4
        refine G_iload_n 0 rfl rfl dX12_entry_54 ?_
        refine G_bipush (by decide) dX12_entry_55 ?_
        refine G_irem (OKm.i hO 75 (2089 + x1) (isLg_row (show shp 75 = (1, 2119, []) from rfl) _)) (rL 100 rfl) (by decide) dX12_entry_57 ?_
        obtain ⟨c5, h⟩ := h
        exact G_iret rfl c5 dX12_entry_58 ⟨_, rfl, h⟩ hO
      · have h := h.2 c4
        refine G_iload_n 0 rfl rfl dX12_entry_44 ?_
        refine G_bipush (by decide) dX12_entry_45 ?_
        refine G_idiv (OKm.i hO 75 (2089 + x1) (isLg_row (show shp 75 = (1, 2119, []) from rfl) _)) (rL 100 rfl) (by decide) dX12_entry_47 ?_
        refine G_bipush (by decide) dX12_entry_48 ?_
        obtain ⟨c6, h⟩ := h
        refine G_irem c6 (rL 16 rfl) (by decide) dX12_entry_50 ?_
        refine G_goto (tgt := 58) dX12_entry_51 (by decide) ?_
        obtain ⟨c7, h⟩ := h
        exact G_iret rfl c7 dX12_entry_58 ⟨_, rfl, h⟩ hO
    · have h := h.2 c3
      refine G_iload_n 0 rfl rfl dX12_entry_28 ?_
      refine G_sipush (by decide) dX12_entry_29 ?_
      refine G_idiv (OKm.i hO 75 (2089 + x1) (isLg_row (show shp 75 = (1, 2119, []) from rfl) _)) (rL 1600 rfl) (by decide) dX12_entry_32 ?_
      refine G_bipush (by decide) dX12_entry_33 ?_
      obtain ⟨c8, h⟩ := h
      refine G_irem c8 (rL 6 rfl) (by decide) dX12_entry_35 ?_
      refine G_goto (tgt := 58) dX12_entry_36 (by decide) ?_
      obtain ⟨c9, h⟩ := h
      exact G_iret rfl c9 dX12_entry_58 ⟨_, rfl, h⟩ hO
  · have h := h.2 c2
    refine G_iload_n 0 rfl rfl dX12_entry_15 ?_
    refine G_sipush (by decide) dX12_entry_16 ?_
    refine G_idiv (OKm.i hO 75 (2089 + x1) (isLg_row (show shp 75 = (1, 2119, []) from rfl) _)) (rL 9600 rfl) (by decide) dX12_entry_19 ?_
    refine G_goto (tgt := 58) dX12_entry_20 (by decide) ?_
    obtain ⟨c10, h⟩ := h
    exact G_iret rfl c10 dX12_entry_58 ⟨_, rfl, h⟩ hO

theorem sp_X12_entry (d : Nat) (hd : 0 ≤ d) (σ : Mem) (hO : OKm σ) (x1 : Int) (hx1 : R32 x1) (x2 : Int) (hx2 : R32 x2) (hpre : (0 ≤ x1 ∧ x1 < 30) ∧ (0 ≤ σ 75 (2089 + x1) ∧ σ 75 (2089 + x1) < 2147483648)) : Mt yX12_entry cX12_entry 4 (some .int) d [aR (74), aI (x1), aI (x2)] σ (QI (fun v σ' => (if x2 = 0 then σ 75 (2089 + x1) / 9600 else if x2 = 1 then σ 75 (2089 + x1) / 1600 % 6 else if x2 = 2 then σ 75 (2089 + x1) / 100 % 16 else σ 75 (2089 + x1) % 100) = v ∧ σ = σ')) := mt_X12_entry hd hx1 hx2 hO (by
  unfold wp_X12_entry
  obtain ⟨hx, hv⟩ := hpre
  rw [tdivP hv.1, tdivP hv.1, tdivP hv.1, tmodP hv.1, tmodP (by omega), tmodP (by omega)]
  unfold R32
  refine ⟨by omega, fun h0 => ⟨fun h1 => ⟨fun h2 => ⟨by omega, ?_, rfl⟩, fun h2 => ⟨by omega, by omega, ?_, rfl⟩⟩, fun h1 => ⟨by omega, by omega, ?_, rfl⟩⟩, fun h0 => ⟨by omega, ?_, rfl⟩⟩
  · rw [if_neg h0, if_neg h1, if_neg h2]
  · rw [if_neg h0, if_neg h1, if_pos h2]
  · rw [if_neg h0, if_pos h1]
  · rw [if_pos h0])

def wp_X12_book (x1 : Int) (x2 : Int) (σ : Mem) (Q : Int → Mem → Prop) : Prop :=
  ((x1 ≠ (-1)) →
    R32 ((σ 75 10) - 1) ∧
    ((¬ ((0 : Int) ≤ x1 ∧ x1 ≤ ((σ 75 10) - 1))) →
     Q (-2) σ) ∧
    (((0 : Int) ≤ x1 ∧ x1 ≤ ((σ 75 10) - 1)) →
     ((¬ ((0 : Int) ≤ x2 ∧ x2 ≤ (3 : Int))) →
      Q (-2) σ) ∧
     (((0 : Int) ≤ x2 ∧ x2 ≤ (3 : Int)) →
      ((0 ≤ x1 ∧ x1 < 30) ∧ (0 ≤ σ 75 (2089 + x1) ∧ σ 75 (2089 + x1) < 2147483648)) ∧
      Q (if x2 = 0 then σ 75 (2089 + x1) / 9600 else if x2 = 1 then σ 75 (2089 + x1) / 1600 % 6 else if x2 = 2 then σ 75 (2089 + x1) / 100 % 16 else σ 75 (2089 + x1) % 100) σ))) ∧
   ((x1 = (-1)) →
    Q (σ 75 10) σ)
theorem mt_X12_book {d : Nat} (hd : 1 ≤ d) {x1 : Int} {x2 : Int} {σ : Mem} {Q : Int → Mem → Prop} (hx1 : R32 x1) (hx2 : R32 x2) (hO : OKm σ) (h : wp_X12_book x1 x2 σ Q) : Mt yX12_book cX12_book 3 (some .int) d [aR (74), aI (x1), aI (x2)] σ (QI Q) := by
  refine Mt.intro (by decide +kernel) (Nat.le_of_ble_eq_true rfl) [(0, aR (74)), (1, aI (x1)), (2, aI (x2))] rfl ?_
  unfold wp_X12_book at h
  refine G_iload_n 1 rfl rfl dX12_book_0 ?_
  refine G_iconst dX12_book_1 ?_
  refine G_icmp_ne hx1 (rL (-1) rfl) dX12_book_2 (tgt := 13) (by decide) (fun c1 => ?_) (fun c1 => ?_)
  · have h := h.1 c1
    refine G_iload_n 1 rfl rfl dX12_book_13 ?_
    refine G_iconst dX12_book_14 ?_
    refine G_aload_n 0 rfl rfl dX12_book_15 ?_
    refine G_get (k := 0) (kd := (2, 75)) (v := aR 75) gf_X12_7 rfl rfl rfl rfl dX12_book_16 ?_
    refine G_bipush (by decide) dX12_book_19 ?_
    refine G_iald (n := 2119) rfl (by decide) (by decide) dX12_book_21 ?_
    refine G_iconst dX12_book_22 ?_
    refine G_isub dX12_book_23 ?_
    obtain ⟨c2, h⟩ := h
    refine G_callS (as := [_, _, _]) cf_X12_81 rfl (sp_X12_isIn (d - 1) (by omega) _ hO _ hx1 _ (rL 0 rfl) _ c2) (by omega) rfl rfl (Nat.le_of_ble_eq_true rfl) dX12_book_24 ?_
    rintro _ _ ⟨_, rfl, rfl, rfl⟩ o4 r3
    refine G_if_eq (bI_R _) dX12_book_27 (tgt := 48) (by decide) (fun c5 => ?_) (fun c5 => ?_)
    · have h := h.1 ((bI_0 _).mp c5)
      refine G_bipush (by decide) dX12_book_48 ?_
      exact G_iret rfl (rL (-2) rfl) dX12_book_50 ⟨_, rfl, h⟩ hO
    · have h := h.2 (bI_ne c5)
      refine G_iload_n 2 rfl rfl dX12_book_30 ?_
      refine G_iconst dX12_book_31 ?_
      refine G_iconst dX12_book_32 ?_
      refine G_callS (as := [_, _, _]) cf_X12_81 rfl (sp_X12_isIn (d - 1) (by omega) _ hO _ hx2 _ (rL 0 rfl) _ (rL 3 rfl)) (by omega) rfl rfl (Nat.le_of_ble_eq_true rfl) dX12_book_33 ?_
      rintro _ _ ⟨_, rfl, rfl, rfl⟩ o7 r6
      refine G_if_eq (bI_R _) dX12_book_36 (tgt := 48) (by decide) (fun c8 => ?_) (fun c8 => ?_)
      · have h := h.1 ((bI_0 _).mp c8)
        refine G_bipush (by decide) dX12_book_48 ?_
        exact G_iret rfl (rL (-2) rfl) dX12_book_50 ⟨_, rfl, h⟩ hO
      · have h := h.2 (bI_ne c8)
        refine G_aload_n 0 rfl rfl dX12_book_39 ?_
        refine G_iload_n 1 rfl rfl dX12_book_40 ?_
        refine G_iload_n 2 rfl rfl dX12_book_41 ?_
        obtain ⟨c9, h⟩ := h
        refine G_callV (as := [_, _]) cf_X12_409 rfl rfl rfl (sp_X12_entry (d - 1) (by omega) _ hO _ hx1 _ hx2 c9) (by omega) rfl rfl (Nat.le_of_ble_eq_true rfl) dX12_book_42 ?_
        rintro _ _ ⟨_, rfl, rfl, rfl⟩ o11 r10
        refine G_goto (tgt := 50) dX12_book_45 (by decide) ?_
        exact G_iret rfl (r10 _ rfl) dX12_book_50 ⟨_, rfl, h⟩ hO
  · have h := h.2 c1
    refine G_aload_n 0 rfl rfl dX12_book_5 ?_
    refine G_get (k := 0) (kd := (2, 75)) (v := aR 75) gf_X12_7 rfl rfl rfl rfl dX12_book_6 ?_
    refine G_bipush (by decide) dX12_book_9 ?_
    refine G_iald (n := 2119) rfl (by decide) (by decide) dX12_book_11 ?_
    exact G_iret rfl (OKm.i hO 75 10 (isLg_row (show shp 75 = (1, 2119, []) from rfl) _)) dX12_book_12 ⟨_, rfl, h⟩ hO

theorem sp_X12_book (d : Nat) (hd : 1 ≤ d) (σ : Mem) (hO : OKm σ) (x1 : Int) (hx1 : R32 x1) (x2 : Int) (hx2 : R32 x2) (A : Mem) (tx : Nat → Txt) (hpre : vwM σ A tx) : Mt yX12_book cX12_book 3 (some .int) d [aR (74), aI (x1), aI (x2)] σ (QI (fun v σ' => v = bookS A x1 x2 ∧ vwM σ' A tx ∧ Fr F80 σ σ')) := mt_X12_book hd hx1 hx2 hO (by
  unfold wp_X12_book
  have hV := hpre
  have hI := hV.2.2.1
  have hc := hI.1
  have e0 : σ 75 0 = A 10 0 := hV.1.1.1
  have e1 : σ 75 1 = A 10 1 := hV.1.1.2.1
  have k3 := hI.2.2.2.1
  have n0 : σ 75 10 = A 0 4 := hV.2.1.1.2.2.2.2
  rw [n0]
  unfold bookS
  refine ⟨fun hne => ⟨by unfold R32; omega, fun hout => ⟨by rw [if_neg hne, if_neg (by omega)], hV, Fr.rf _ _⟩, fun hin => ⟨fun hw => ⟨by rw [if_neg hne, if_pos (by omega), if_neg (by omega), if_neg (by omega), if_neg (by omega), if_neg (by omega)], hV, Fr.rf _ _⟩, fun hw => ?_⟩⟩, fun heq => ⟨by rw [if_pos heq], hV, Fr.rf _ _⟩⟩
  have hin2 : 0 ≤ x1 ∧ x1 < A 0 4 := by omega
  have eb := hV.2.1.2.2.2 x1 hin2.1 hin2.2
  obtain ⟨d0, d1, d2, d3, d4⟩ := bkM_dec hI hin2.1 hin2.2
  rw [eb, d1, d2, d3, d4, if_neg hne, if_pos hin2]
  refine ⟨⟨by omega, d0⟩, ?_, hV, Fr.rf _ _⟩
  rcases (show x2 = 0 ∨ x2 = 1 ∨ x2 = 2 ∨ x2 = 3 by omega) with h | h | h | h <;> subst h <;> rfl)
