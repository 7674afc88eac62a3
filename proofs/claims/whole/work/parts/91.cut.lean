/-! the class's token at s: its kind and its number -/
def kdC (b : Int → Int) (N s : Int) : Int := if ltr (b s) = true then wdC b s (psM b N s) else if fig (b s) = true then 41 else if two2 b s = true then (if b s = 60 then 39 else 40) else if ixF (b s) 11 0 < 0 then 42 else 28 + ixF (b s) 11 0
def nuC (b : Int → Int) (N s : Int) : Int := if fig (b s) = true then nbC b s (psM b N s) else 0
theorem wdF_congr {f g : Int → Int} {a p : Int} (h : ∀ i : Int, a ≤ i → i < p → f i = g i) : ∀ (n : Nat) (k w al : Int), wdF f a p n k w al = wdF g a p n k w al
  | 0, _, _, _ => rfl
  | n + 1, k, w, al => by
    unfold wdF
    rw [wdF_congr h n (k + 1) (w + 1) 0]
    by_cases q : 0 ≤ al ∧ a + al < p
    · rw [h (a + al) (by omega) q.2, wdF_congr h n]
    · have e1 : (if 0 ≤ al ∧ a + al < p ∧ f (a + al) = chW k then al + 1 else -1) = -1 := if_neg (fun r => q ⟨r.1, r.2.1⟩)
      have e2 : (if 0 ≤ al ∧ a + al < p ∧ g (a + al) = chW k then al + 1 else -1) = -1 := if_neg (fun r => q ⟨r.1, r.2.1⟩)
      rw [e1, e2, wdF_congr h n]
theorem wdC_congr {f g : Int → Int} {a p : Int} (h : ∀ i : Int, a ≤ i → i < p → f i = g i) : wdC f a p = wdC g a p := wdF_congr h 132 0 0 0
theorem nbF_congr {f g : Int → Int} {p : Int} : ∀ (n : Nat) (i a : Int), i + n ≤ p → (∀ j : Int, i ≤ j → j < p → f j = g j) → nbF f n i a = nbF g n i a
  | 0, _, _, _, _ => rfl
  | n + 1, i, a, hn, h => by
    unfold nbF
    rw [h i (Int.le_refl _) (by omega)]
    exact nbF_congr n (i + 1) _ (by omega) (fun j q1 q2 => h j (by omega) q2)
theorem nbC_congr {f g : Int → Int} {a p : Int} (hp : a ≤ p) (h : ∀ i : Int, a ≤ i → i < p → f i = g i) : nbC f a p = nbC g a p := nbF_congr (p := p) _ _ _ (by omega) h
theorem spn_all {p : Int → Bool} {b : Int → Int} : ∀ (k : Nat) (i j : Int), i ≤ j → j < spn p b k i → p (b j) = true
  | 0, i, j, h1, h2 => by
    have : spn p b 0 i = i := rfl
    omega
  | k + 1, i, j, h1, h2 => by
    by_cases q : p (b i) = true
    · have e : spn p b (k + 1) i = spn p b k (i + 1) := by show (if p (b i) = true then _ else _) = _; rw [if_pos q]
      by_cases r : j = i
      · rw [r]; exact q
      · exact spn_all k (i + 1) j (by omega) (by omega)
    · have e : spn p b (k + 1) i = i := by show (if p (b i) = true then _ else _) = _; rw [if_neg q]
      omega
theorem psM_ltr {b : Int → Int} {N s : Int} (h : ltr (b s) = true) (hs : s < N) : psM b N s = spn ltr b (N - s - 1).toNat (s + 1) := by
  have h2 := h
  unfold ltr at h2; rw [decide_eq_true_eq] at h2
  have hf : fig (b s) = false := by unfold fig; rw [decide_eq_false_iff_not]; omega
  unfold psM
  rw [if_neg (by omega), hf, if_pos h, show (N - s).toNat = (N - s - 1).toNat + 1 by omega]
  show (if ltr (b s) = true then _ else _) = _
  rw [if_pos h]
theorem psM_fig {b : Int → Int} {N s : Int} (h : fig (b s) = true) (hs : s < N) : psM b N s = spn fig b (N - s - 1).toNat (s + 1) := by
  have h2 := h
  unfold fig at h2; rw [decide_eq_true_eq] at h2
  unfold psM
  rw [if_neg (by omega), if_pos h, show (N - s).toNat = (N - s - 1).toNat + 1 by omega]
  show (if fig (b s) = true then _ else _) = _
  rw [if_pos h]
def putS (σ : Mem) (k s n : Int) : Mem := mset (mset (mset (mset σ 32 (σ 30 5) k) 33 (σ 30 5) s) 34 (σ 30 5) n) 30 5 (σ 30 5 + 1)

def wp_X8_cutFrom (x1 : Int) (σ : Mem) (Q : Int → Mem → Prop) : Prop :=
 ∀ P16 : Int → Int → Mem → Prop,
 ∀ P69 : Int → Int → Mem → Prop,
 (∀ (v1 : Int) (v2 : Int) (σ : Mem), (R32 v1 → R32 v2 → OKm σ →
   (((σ 30 1) ≤ v2) →
     ∃ g141 : Unit, (0 ≤ v1 ∧ v1 ≤ v2 ∧ v2 ≤ 300) ∧
     ∀ (u146 : Int) (σ145 : Mem), R32 u146 → OKm σ145 → (u146 = wdC (σ 31) v1 v2 ∧ σ145 = σ) →
     (0 ≤ σ145 30 5 ∧ σ145 30 5 < 301) ∧
     ∀ σ151 : Mem, σ151 = (mset (mset (mset (mset σ145 32 (σ145 30 5) u146) 33 (σ145 30 5) v1) 34 (σ145 30 5) (0 : Int)) 30 5 (σ145 30 5 + 1)) →
     Q v2 σ151) ∧
    ((v2 < (σ 30 1)) →
     (0 ≤ v2 ∧ v2 < 300) ∧
     ((¬ ((97 ≤ (σ 31 v2) ∧ (σ 31 v2) ≤ 122) ∨ (65 ≤ (σ 31 v2) ∧ (σ 31 v2) ≤ 90))) →
      ∃ g157 : Unit, (0 ≤ v1 ∧ v1 ≤ v2 ∧ v2 ≤ 300) ∧
      ∀ (u162 : Int) (σ161 : Mem), R32 u162 → OKm σ161 → (u162 = wdC (σ 31) v1 v2 ∧ σ161 = σ) →
      (0 ≤ σ161 30 5 ∧ σ161 30 5 < 301) ∧
      ∀ σ167 : Mem, σ167 = (mset (mset (mset (mset σ161 32 (σ161 30 5) u162) 33 (σ161 30 5) v1) 34 (σ161 30 5) (0 : Int)) 30 5 (σ161 30 5 + 1)) →
      Q v2 σ167) ∧
     (((97 ≤ (σ 31 v2) ∧ (σ 31 v2) ≤ 122) ∨ (65 ≤ (σ 31 v2) ∧ (σ 31 v2) ≤ 90)) →
      R32 (v2 + 1) ∧ P16 v1 (v2 + 1) σ))) → P16 v1 v2 σ) →
 (∀ (v1 : Int) (v2 : Int) (σ : Mem), (R32 v1 → R32 v2 → OKm σ →
   (((σ 30 1) ≤ v2) →
     ∃ g111 : Unit, (0 ≤ v1 ∧ v1 ≤ v2 ∧ v2 ≤ 300 ∧ (∀ i : Int, v1 ≤ i → i < v2 → 48 ≤ σ 31 i ∧ σ 31 i ≤ 57)) ∧
     ∀ (u116 : Int) (σ115 : Mem), R32 u116 → OKm σ115 → (u116 = nbC (σ 31) v1 v2 ∧ σ115 = σ) →
     (0 ≤ σ115 30 5 ∧ σ115 30 5 < 301) ∧
     ∀ σ121 : Mem, σ121 = (mset (mset (mset (mset σ115 32 (σ115 30 5) (41 : Int)) 33 (σ115 30 5) v1) 34 (σ115 30 5) u116) 30 5 (σ115 30 5 + 1)) →
     Q v2 σ121) ∧
    ((v2 < (σ 30 1)) →
     (0 ≤ v2 ∧ v2 < 300) ∧
     ((¬ (48 ≤ (σ 31 v2) ∧ (σ 31 v2) ≤ 57)) →
      ∃ g127 : Unit, (0 ≤ v1 ∧ v1 ≤ v2 ∧ v2 ≤ 300 ∧ (∀ i : Int, v1 ≤ i → i < v2 → 48 ≤ σ 31 i ∧ σ 31 i ≤ 57)) ∧
      ∀ (u132 : Int) (σ131 : Mem), R32 u132 → OKm σ131 → (u132 = nbC (σ 31) v1 v2 ∧ σ131 = σ) →
      (0 ≤ σ131 30 5 ∧ σ131 30 5 < 301) ∧
      ∀ σ137 : Mem, σ137 = (mset (mset (mset (mset σ131 32 (σ131 30 5) (41 : Int)) 33 (σ131 30 5) v1) 34 (σ131 30 5) u132) 30 5 (σ131 30 5 + 1)) →
      Q v2 σ137) ∧
     ((48 ≤ (σ 31 v2) ∧ (σ 31 v2) ≤ 57) →
      R32 (v2 + 1) ∧ P69 v1 (v2 + 1) σ))) → P69 v1 v2 σ) →
  (0 ≤ x1 ∧ x1 < 300) ∧
   ((¬ ((97 ≤ (σ 31 x1) ∧ (σ 31 x1) ≤ 122) ∨ (65 ≤ (σ 31 x1) ∧ (σ 31 x1) ≤ 90))) →
    (0 ≤ x1 ∧ x1 < 300) ∧
    ((¬ (48 ≤ (σ 31 x1) ∧ (σ 31 x1) ≤ 57)) →
     R32 (x1 + 1) ∧
     (((σ 30 1) ≤ (x1 + 1)) →
      (0 ≤ x1 ∧ x1 < 300) ∧
      (0 ≤ (σ 31 x1) ∧ (σ 31 x1) < 65536) ∧
      ∃ g13 : Unit, (True) ∧
      ∀ (u18 : Int) (σ17 : Mem), R32 u18 → OKm σ17 → (u18 = (if 0 ≤ (σ 31 x1) ∧ (σ 31 x1) ≤ 255 then ixF (σ 31 x1) 11 0 else -1) ∧ σ17 = σ) →
      ((0 ≤ u18) →
       R32 (28 + u18) ∧
       (0 ≤ σ17 30 5 ∧ σ17 30 5 < 301) ∧
       ∀ σ25 : Mem, σ25 = (mset (mset (mset (mset σ17 32 (σ17 30 5) (28 + u18)) 33 (σ17 30 5) x1) 34 (σ17 30 5) (0 : Int)) 30 5 (σ17 30 5 + 1)) →
       Q (x1 + 1) σ25) ∧
      ((u18 < 0) →
       (0 ≤ σ17 30 5 ∧ σ17 30 5 < 301) ∧
       ∀ σ30 : Mem, σ30 = (mset (mset (mset (mset σ17 32 (σ17 30 5) (42 : Int)) 33 (σ17 30 5) x1) 34 (σ17 30 5) (0 : Int)) 30 5 (σ17 30 5 + 1)) →
       Q (x1 + 1) σ30)) ∧
     (((x1 + 1) < (σ 30 1)) →
      (0 ≤ (x1 + 1) ∧ (x1 + 1) < 300) ∧
      (((σ 31 (x1 + 1)) ≠ 61) →
       (0 ≤ x1 ∧ x1 < 300) ∧
       (0 ≤ (σ 31 x1) ∧ (σ 31 x1) < 65536) ∧
       ∃ g36 : Unit, (True) ∧
       ∀ (u41 : Int) (σ40 : Mem), R32 u41 → OKm σ40 → (u41 = (if 0 ≤ (σ 31 x1) ∧ (σ 31 x1) ≤ 255 then ixF (σ 31 x1) 11 0 else -1) ∧ σ40 = σ) →
       ((0 ≤ u41) →
        R32 (28 + u41) ∧
        (0 ≤ σ40 30 5 ∧ σ40 30 5 < 301) ∧
        ∀ σ48 : Mem, σ48 = (mset (mset (mset (mset σ40 32 (σ40 30 5) (28 + u41)) 33 (σ40 30 5) x1) 34 (σ40 30 5) (0 : Int)) 30 5 (σ40 30 5 + 1)) →
        Q (x1 + 1) σ48) ∧
       ((u41 < 0) →
        (0 ≤ σ40 30 5 ∧ σ40 30 5 < 301) ∧
        ∀ σ53 : Mem, σ53 = (mset (mset (mset (mset σ40 32 (σ40 30 5) (42 : Int)) 33 (σ40 30 5) x1) 34 (σ40 30 5) (0 : Int)) 30 5 (σ40 30 5 + 1)) →
        Q (x1 + 1) σ53)) ∧
      (((σ 31 (x1 + 1)) = 61) →
       (0 ≤ x1 ∧ x1 < 300) ∧
       (((σ 31 x1) = 60) →
        (0 ≤ x1 ∧ x1 < 300) ∧
        (((σ 31 x1) ≠ 60) →
         (0 ≤ σ 30 5 ∧ σ 30 5 < 301) ∧
         ∀ σ62 : Mem, σ62 = (mset (mset (mset (mset σ 32 (σ 30 5) (40 : Int)) 33 (σ 30 5) x1) 34 (σ 30 5) (0 : Int)) 30 5 (σ 30 5 + 1)) →
         R32 ((x1 + 1) + 1) ∧
         Q ((x1 + 1) + 1) σ62) ∧
        (((σ 31 x1) = 60) →
         (0 ≤ σ 30 5 ∧ σ 30 5 < 301) ∧
         ∀ σ68 : Mem, σ68 = (mset (mset (mset (mset σ 32 (σ 30 5) (39 : Int)) 33 (σ 30 5) x1) 34 (σ 30 5) (0 : Int)) 30 5 (σ 30 5 + 1)) →
         R32 ((x1 + 1) + 1) ∧
         Q ((x1 + 1) + 1) σ68)) ∧
       (((σ 31 x1) ≠ 60) →
        (0 ≤ x1 ∧ x1 < 300) ∧
        (((σ 31 x1) ≠ 62) →
         (0 ≤ x1 ∧ x1 < 300) ∧
         (0 ≤ (σ 31 x1) ∧ (σ 31 x1) < 65536) ∧
         ∃ g75 : Unit, (True) ∧
         ∀ (u80 : Int) (σ79 : Mem), R32 u80 → OKm σ79 → (u80 = (if 0 ≤ (σ 31 x1) ∧ (σ 31 x1) ≤ 255 then ixF (σ 31 x1) 11 0 else -1) ∧ σ79 = σ) →
         ((0 ≤ u80) →
          R32 (28 + u80) ∧
          (0 ≤ σ79 30 5 ∧ σ79 30 5 < 301) ∧
          ∀ σ87 : Mem, σ87 = (mset (mset (mset (mset σ79 32 (σ79 30 5) (28 + u80)) 33 (σ79 30 5) x1) 34 (σ79 30 5) (0 : Int)) 30 5 (σ79 30 5 + 1)) →
          Q (x1 + 1) σ87) ∧
         ((u80 < 0) →
          (0 ≤ σ79 30 5 ∧ σ79 30 5 < 301) ∧
          ∀ σ92 : Mem, σ92 = (mset (mset (mset (mset σ79 32 (σ79 30 5) (42 : Int)) 33 (σ79 30 5) x1) 34 (σ79 30 5) (0 : Int)) 30 5 (σ79 30 5 + 1)) →
          Q (x1 + 1) σ92)) ∧
        (((σ 31 x1) = 62) →
         (0 ≤ x1 ∧ x1 < 300) ∧
         (((σ 31 x1) ≠ 60) →
          (0 ≤ σ 30 5 ∧ σ 30 5 < 301) ∧
          ∀ σ99 : Mem, σ99 = (mset (mset (mset (mset σ 32 (σ 30 5) (40 : Int)) 33 (σ 30 5) x1) 34 (σ 30 5) (0 : Int)) 30 5 (σ 30 5 + 1)) →
          R32 ((x1 + 1) + 1) ∧
          Q ((x1 + 1) + 1) σ99) ∧
         (((σ 31 x1) = 60) →
          (0 ≤ σ 30 5 ∧ σ 30 5 < 301) ∧
          ∀ σ105 : Mem, σ105 = (mset (mset (mset (mset σ 32 (σ 30 5) (39 : Int)) 33 (σ 30 5) x1) 34 (σ 30 5) (0 : Int)) 30 5 (σ 30 5 + 1)) →
          R32 ((x1 + 1) + 1) ∧
          Q ((x1 + 1) + 1) σ105)))))) ∧
    ((48 ≤ (σ 31 x1) ∧ (σ 31 x1) ≤ 57) →
     R32 (x1 + 1) ∧ P69 x1 (x1 + 1) σ)) ∧
   (((97 ≤ (σ 31 x1) ∧ (σ 31 x1) ≤ 122) ∨ (65 ≤ (σ 31 x1) ∧ (σ 31 x1) ≤ 90)) →
    R32 (x1 + 1) ∧ P16 x1 (x1 + 1) σ)
theorem mt_X8_cutFrom {d : Nat} (hd : 5 ≤ d) {x1 : Int} {σ : Mem} {Q : Int → Mem → Prop} (hx1 : R32 x1) (hO : OKm σ) (h : wp_X8_cutFrom x1 σ Q) : Mt yX8_cutFrom cX8_cutFrom 4 (some .int) d [aR (30), aI (x1)] σ (QI Q) := by
  refine Mt.intro (by decide +kernel) (Nat.le_of_ble_eq_true rfl) [(0, aR (30)), (1, aI (x1))] rfl ?_
  unfold wp_X8_cutFrom at h
  have h := h (fun (v1 : Int) (v2 : Int) (σ : Mem) => R32 v1 → R32 v2 → OKm σ → G yX8_cutFrom cX8_cutFrom 4 (some .int) d (QI Q) 16 [(0, aR (30)), (1, aI (v1)), (2, aI (v2))] [] σ)
    (fun (v1 : Int) (v2 : Int) (σ : Mem) => R32 v1 → R32 v2 → OKm σ → G yX8_cutFrom cX8_cutFrom 4 (some .int) d (QI Q) 69 [(0, aR (30)), (1, aI (v1)), (2, aI (v2))] [] σ) ?_ ?_
  · refine G_iload_n 1 rfl rfl dX8_cutFrom_0 ?_
    refine G_iconst dX8_cutFrom_1 ?_
    refine G_iadd dX8_cutFrom_2 ?_
    refine G_istore_n (lv' := [(2, aI ((x1 + 1))), (0, aR (30)), (1, aI (x1))]) rfl rfl (by decide) dX8_cutFrom_3 ?_
    refine G_aload_n 1 rfl rfl dX8_cutFrom_4 ?_
    refine G_get (k := 0) (kd := (3, 1)) (v := aR (31)) gf_X8_9 rfl rfl rfl rfl dX8_cutFrom_5 ?_
    refine G_iload_n 2 rfl rfl dX8_cutFrom_8 ?_
    obtain ⟨c1, h⟩ := h
    refine G_iald (n := 300) rfl c1.1 c1.2 dX8_cutFrom_9 ?_
    refine G_callS (as := [_]) cf_X8_47 rfl (sp_X8_isLetter (d - 1) (by omega) _ hO _ (OKm.i hO 31 x1 (isLg_row (show shp 31 = (1, 300, []) from rfl) _))) (by omega) rfl rfl (Nat.le_of_ble_eq_true rfl) dX8_cutFrom_10 ?_
    rintro _ _ ⟨_, rfl, rfl, rfl⟩ o3 r2
    refine G_if_eq (bI_R _) dX8_cutFrom_13 (tgt := 57) (by decide) (fun c4 => ?_) (fun c4 => ?_)
    · have h := h.1 ((bI_0 _).mp c4)
      refine G_aload_n 1 rfl rfl dX8_cutFrom_57 ?_
      refine G_get (k := 0) (kd := (3, 1)) (v := aR (31)) gf_X8_9 rfl rfl rfl rfl dX8_cutFrom_58 ?_
      refine G_iload_n 2 rfl rfl dX8_cutFrom_61 ?_
      obtain ⟨c5, h⟩ := h
      refine G_iald (n := 300) rfl c5.1 c5.2 dX8_cutFrom_62 ?_
      refine G_callS (as := [_]) cf_X8_54 rfl (sp_X8_isDigit (d - 1) (by omega) _ hO _ (OKm.i hO 31 x1 (isLg_row (show shp 31 = (1, 300, []) from rfl) _))) (by omega) rfl rfl (Nat.le_of_ble_eq_true rfl) dX8_cutFrom_63 ?_
      rintro _ _ ⟨_, rfl, rfl, rfl⟩ o7 r6
      refine G_if_eq (bI_R _) dX8_cutFrom_66 (tgt := 111) (by decide) (fun c8 => ?_) (fun c8 => ?_)
      · have h := h.1 ((bI_0 _).mp c8)
        refine G_iload_n 0 rfl rfl dX8_cutFrom_111 ?_
        refine G_aload_n 1 rfl rfl dX8_cutFrom_112 ?_
        refine G_get (k := 1) (kd := (0, 0)) (v := aI (σ 30 1)) gf_X8_15 rfl rfl rfl rfl dX8_cutFrom_113 ?_
        obtain ⟨c9, h⟩ := h
        refine G_icmp_ge c9 (OKm.i hO 30 1 rfl) dX8_cutFrom_116 (tgt := 182) (by decide) (fun c10 => ?_) (fun c10 => ?_)
        · have h := h.1 c10
          refine G_ldcS1 rfl dX8_cutFrom_182 ?_
          refine G_aload_n 1 rfl rfl dX8_cutFrom_184 ?_
          refine G_get (k := 0) (kd := (3, 1)) (v := aR (31)) gf_X8_9 rfl rfl rfl rfl dX8_cutFrom_185 ?_
          refine G_iload_n 2 rfl rfl dX8_cutFrom_188 ?_
          obtain ⟨c11, h⟩ := h
          refine G_iald (n := 300) rfl c11.1 c11.2 dX8_cutFrom_189 ?_
          obtain ⟨c12, h⟩ := h
          refine G_i2c c12 dX8_cutFrom_190 ?_
          obtain ⟨g13, c14, h⟩ := h
          refine G_callVs (i := 1) (as := [_]) (by decide) cf_X8_62 rfl (sp_J0_indexOf_0f7a4_s1 (d - 1) (by omega) _ hO _ (OKm.i hO 31 x1 (isLg_row (show shp 31 = (1, 300, []) from rfl) _)) g13 c14) (by omega) rfl rfl (Nat.le_of_ble_eq_true rfl) dX8_cutFrom_191 ?_
          rintro _ σ17 ⟨u18, rfl, z19⟩ o16 r15
          have h := h _ _ (r15 _ rfl) o16 z19
          refine G_istore_n (lv' := [(3, aI (u18)), (2, aI ((x1 + 1))), (0, aR (30)), (1, aI (x1))]) rfl rfl (by decide) dX8_cutFrom_194 ?_
          refine G_aload_n 2 rfl rfl dX8_cutFrom_195 ?_
          refine G_iload_n 0 rfl rfl dX8_cutFrom_196 ?_
          refine G_if_ge (r15 _ rfl) dX8_cutFrom_197 (tgt := 205) (by decide) (fun c20 => ?_) (fun c20 => ?_)
          · have h := h.1 c20
            refine G_bipush (by decide) dX8_cutFrom_205 ?_
            refine G_iload_n 0 rfl rfl dX8_cutFrom_207 ?_
            refine G_iadd dX8_cutFrom_208 ?_
            refine G_iload_n 3 rfl rfl dX8_cutFrom_209 ?_
            refine G_iconst dX8_cutFrom_210 ?_
            obtain ⟨c21, h⟩ := h
            obtain ⟨c22, h⟩ := h
            refine G_callV (as := [_, _, _]) cf_X8_43 rfl rfl rfl (sp_X8_put (d - 1) (by omega) _ o16 _ c21 _ hx1 _ (rL 0 rfl) c22) (by omega) rfl rfl (Nat.le_of_ble_eq_true rfl) dX8_cutFrom_211 ?_
            rintro _ σ25 ⟨rfl, e26⟩ o24 r23
            have h := h σ25 e26
            refine G_iload_n 1 rfl rfl dX8_cutFrom_214 ?_
            exact G_iret rfl c9 dX8_cutFrom_215 ⟨_, rfl, h⟩ o24
          · have h := h.2 c20
            refine G_bipush (by decide) dX8_cutFrom_200 ?_
            refine G_goto (tgt := 209) dX8_cutFrom_202 (by decide) ?_
            refine G_iload_n 3 rfl rfl dX8_cutFrom_209 ?_
            refine G_iconst dX8_cutFrom_210 ?_
            obtain ⟨c27, h⟩ := h
            refine G_callV (as := [_, _, _]) cf_X8_43 rfl rfl rfl (sp_X8_put (d - 1) (by omega) _ o16 _ (rL 42 rfl) _ hx1 _ (rL 0 rfl) c27) (by omega) rfl rfl (Nat.le_of_ble_eq_true rfl) dX8_cutFrom_211 ?_
            rintro _ σ30 ⟨rfl, e31⟩ o29 r28
            have h := h σ30 e31
            refine G_iload_n 1 rfl rfl dX8_cutFrom_214 ?_
            exact G_iret rfl c9 dX8_cutFrom_215 ⟨_, rfl, h⟩ o29
        · have h := h.2 c10
          refine G_aload_n 1 rfl rfl dX8_cutFrom_119 ?_
          refine G_get (k := 0) (kd := (3, 1)) (v := aR (31)) gf_X8_9 rfl rfl rfl rfl dX8_cutFrom_120 ?_
          refine G_iload_n 0 rfl rfl dX8_cutFrom_123 ?_
          obtain ⟨c32, h⟩ := h
          refine G_iald (n := 300) rfl c32.1 c32.2 dX8_cutFrom_124 ?_
          refine G_bipush (by decide) dX8_cutFrom_125 ?_
          refine G_icmp_ne (OKm.i hO 31 (x1 + 1) (isLg_row (show shp 31 = (1, 300, []) from rfl) _)) (rL 61 rfl) dX8_cutFrom_127 (tgt := 182) (by decide) (fun c33 => ?_) (fun c33 => ?_)
          · have h := h.1 c33
            refine G_ldcS1 rfl dX8_cutFrom_182 ?_
            refine G_aload_n 1 rfl rfl dX8_cutFrom_184 ?_
            refine G_get (k := 0) (kd := (3, 1)) (v := aR (31)) gf_X8_9 rfl rfl rfl rfl dX8_cutFrom_185 ?_
            refine G_iload_n 2 rfl rfl dX8_cutFrom_188 ?_
            obtain ⟨c34, h⟩ := h
            refine G_iald (n := 300) rfl c34.1 c34.2 dX8_cutFrom_189 ?_
            obtain ⟨c35, h⟩ := h
            refine G_i2c c35 dX8_cutFrom_190 ?_
            obtain ⟨g36, c37, h⟩ := h
            refine G_callVs (i := 1) (as := [_]) (by decide) cf_X8_62 rfl (sp_J0_indexOf_0f7a4_s1 (d - 1) (by omega) _ hO _ (OKm.i hO 31 x1 (isLg_row (show shp 31 = (1, 300, []) from rfl) _)) g36 c37) (by omega) rfl rfl (Nat.le_of_ble_eq_true rfl) dX8_cutFrom_191 ?_
            rintro _ σ40 ⟨u41, rfl, z42⟩ o39 r38
            have h := h _ _ (r38 _ rfl) o39 z42
            refine G_istore_n (lv' := [(3, aI (u41)), (2, aI ((x1 + 1))), (0, aR (30)), (1, aI (x1))]) rfl rfl (by decide) dX8_cutFrom_194 ?_
            refine G_aload_n 2 rfl rfl dX8_cutFrom_195 ?_
            refine G_iload_n 0 rfl rfl dX8_cutFrom_196 ?_
            refine G_if_ge (r38 _ rfl) dX8_cutFrom_197 (tgt := 205) (by decide) (fun c43 => ?_) (fun c43 => ?_)
            · have h := h.1 c43
              refine G_bipush (by decide) dX8_cutFrom_205 ?_
              refine G_iload_n 0 rfl rfl dX8_cutFrom_207 ?_
              refine G_iadd dX8_cutFrom_208 ?_
              refine G_iload_n 3 rfl rfl dX8_cutFrom_209 ?_
              refine G_iconst dX8_cutFrom_210 ?_
              obtain ⟨c44, h⟩ := h
              obtain ⟨c45, h⟩ := h
              refine G_callV (as := [_, _, _]) cf_X8_43 rfl rfl rfl (sp_X8_put (d - 1) (by omega) _ o39 _ c44 _ hx1 _ (rL 0 rfl) c45) (by omega) rfl rfl (Nat.le_of_ble_eq_true rfl) dX8_cutFrom_211 ?_
              rintro _ σ48 ⟨rfl, e49⟩ o47 r46
              have h := h σ48 e49
              refine G_iload_n 1 rfl rfl dX8_cutFrom_214 ?_
              exact G_iret rfl c9 dX8_cutFrom_215 ⟨_, rfl, h⟩ o47
            · have h := h.2 c43
              refine G_bipush (by decide) dX8_cutFrom_200 ?_
              refine G_goto (tgt := 209) dX8_cutFrom_202 (by decide) ?_
              refine G_iload_n 3 rfl rfl dX8_cutFrom_209 ?_
              refine G_iconst dX8_cutFrom_210 ?_
              obtain ⟨c50, h⟩ := h
              refine G_callV (as := [_, _, _]) cf_X8_43 rfl rfl rfl (sp_X8_put (d - 1) (by omega) _ o39 _ (rL 42 rfl) _ hx1 _ (rL 0 rfl) c50) (by omega) rfl rfl (Nat.le_of_ble_eq_true rfl) dX8_cutFrom_211 ?_
              rintro _ σ53 ⟨rfl, e54⟩ o52 r51
              have h := h σ53 e54
              refine G_iload_n 1 rfl rfl dX8_cutFrom_214 ?_
              exact G_iret rfl c9 dX8_cutFrom_215 ⟨_, rfl, h⟩ o52
          · have h := h.2 c33
            refine G_aload_n 1 rfl rfl dX8_cutFrom_130 ?_
            refine G_get (k := 0) (kd := (3, 1)) (v := aR (31)) gf_X8_9 rfl rfl rfl rfl dX8_cutFrom_131 ?_
            refine G_iload_n 2 rfl rfl dX8_cutFrom_134 ?_
            obtain ⟨c55, h⟩ := h
            refine G_iald (n := 300) rfl c55.1 c55.2 dX8_cutFrom_135 ?_
            refine G_bipush (by decide) dX8_cutFrom_136 ?_
            refine G_icmp_eq (OKm.i hO 31 x1 (isLg_row (show shp 31 = (1, 300, []) from rfl) _)) (rL 60 rfl) dX8_cutFrom_138 (tgt := 152) (by decide) (fun c56 => ?_) (fun c56 => ?_)
            · have h := h.1 c56
              refine G_aload_n 1 rfl rfl dX8_cutFrom_152 ?_
              refine G_aload_n 1 rfl rfl dX8_cutFrom_153 ?_
              refine G_get (k := 0) (kd := (3, 1)) (v := aR (31)) gf_X8_9 rfl rfl rfl rfl dX8_cutFrom_154 ?_
              refine G_iload_n 2 rfl rfl dX8_cutFrom_157 ?_
              obtain ⟨c57, h⟩ := h
              refine G_iald (n := 300) rfl c57.1 c57.2 dX8_cutFrom_158 ?_
              refine G_bipush (by decide) dX8_cutFrom_159 ?_
              refine G_icmp_ne (OKm.i hO 31 x1 (isLg_row (show shp 31 = (1, 300, []) from rfl) _)) (rL 60 rfl) dX8_cutFrom_161 (tgt := 169) (by decide) (fun c58 => ?_) (fun c58 => ?_)
              · have h := h.1 c58
                refine G_bipush (by decide) dX8_cutFrom_169 ?_
                refine G_iload_n 2 rfl rfl dX8_cutFrom_171 ?_
                refine G_iconst dX8_cutFrom_172 ?_
                obtain ⟨c59, h⟩ := h
                refine G_callV (as := [_, _, _]) cf_X8_43 rfl rfl rfl (sp_X8_put (d - 1) (by omega) _ hO _ (rL 40 rfl) _ hx1 _ (rL 0 rfl) c59) (by omega) rfl rfl (Nat.le_of_ble_eq_true rfl) dX8_cutFrom_173 ?_
                rintro _ σ62 ⟨rfl, e63⟩ o61 r60
                have h := h σ62 e63
                refine G_iinc (lv' := [(2, aI (((x1 + 1) + 1))), (0, aR (30)), (1, aI (x1))]) (k := 0) rfl rfl (by decide) dX8_cutFrom_176 ?_
                refine G_goto (tgt := 214) dX8_cutFrom_179 (by decide) ?_
                refine G_iload_n 0 rfl rfl dX8_cutFrom_214 ?_
                obtain ⟨c64, h⟩ := h
                exact G_iret rfl c64 dX8_cutFrom_215 ⟨_, rfl, h⟩ o61
              · have h := h.2 c58
                refine G_bipush (by decide) dX8_cutFrom_164 ?_
                refine G_goto (tgt := 171) dX8_cutFrom_166 (by decide) ?_
                refine G_iload_n 2 rfl rfl dX8_cutFrom_171 ?_
                refine G_iconst dX8_cutFrom_172 ?_
                obtain ⟨c65, h⟩ := h
                refine G_callV (as := [_, _, _]) cf_X8_43 rfl rfl rfl (sp_X8_put (d - 1) (by omega) _ hO _ (rL 39 rfl) _ hx1 _ (rL 0 rfl) c65) (by omega) rfl rfl (Nat.le_of_ble_eq_true rfl) dX8_cutFrom_173 ?_
                rintro _ σ68 ⟨rfl, e69⟩ o67 r66
                have h := h σ68 e69
                refine G_iinc (lv' := [(2, aI (((x1 + 1) + 1))), (0, aR (30)), (1, aI (x1))]) (k := 0) rfl rfl (by decide) dX8_cutFrom_176 ?_
                refine G_goto (tgt := 214) dX8_cutFrom_179 (by decide) ?_
                refine G_iload_n 0 rfl rfl dX8_cutFrom_214 ?_
                obtain ⟨c70, h⟩ := h
                exact G_iret rfl c70 dX8_cutFrom_215 ⟨_, rfl, h⟩ o67
            · have h := h.2 c56
              refine G_aload_n 1 rfl rfl dX8_cutFrom_141 ?_
              refine G_get (k := 0) (kd := (3, 1)) (v := aR (31)) gf_X8_9 rfl rfl rfl rfl dX8_cutFrom_142 ?_
              refine G_iload_n 2 rfl rfl dX8_cutFrom_145 ?_
              obtain ⟨c71, h⟩ := h
              refine G_iald (n := 300) rfl c71.1 c71.2 dX8_cutFrom_146 ?_
              refine G_bipush (by decide) dX8_cutFrom_147 ?_
              refine G_icmp_ne (OKm.i hO 31 x1 (isLg_row (show shp 31 = (1, 300, []) from rfl) _)) (rL 62 rfl) dX8_cutFrom_149 (tgt := 182) (by decide) (fun c72 => ?_) (fun c72 => ?_)
              · have h := h.1 c72
                refine G_ldcS1 rfl dX8_cutFrom_182 ?_
                refine G_aload_n 1 rfl rfl dX8_cutFrom_184 ?_
                refine G_get (k := 0) (kd := (3, 1)) (v := aR (31)) gf_X8_9 rfl rfl rfl rfl dX8_cutFrom_185 ?_
                refine G_iload_n 2 rfl rfl dX8_cutFrom_188 ?_
                obtain ⟨c73, h⟩ := h
                refine G_iald (n := 300) rfl c73.1 c73.2 dX8_cutFrom_189 ?_
                obtain ⟨c74, h⟩ := h
                refine G_i2c c74 dX8_cutFrom_190 ?_
                obtain ⟨g75, c76, h⟩ := h
                refine G_callVs (i := 1) (as := [_]) (by decide) cf_X8_62 rfl (sp_J0_indexOf_0f7a4_s1 (d - 1) (by omega) _ hO _ (OKm.i hO 31 x1 (isLg_row (show shp 31 = (1, 300, []) from rfl) _)) g75 c76) (by omega) rfl rfl (Nat.le_of_ble_eq_true rfl) dX8_cutFrom_191 ?_
                rintro _ σ79 ⟨u80, rfl, z81⟩ o78 r77
                have h := h _ _ (r77 _ rfl) o78 z81
                refine G_istore_n (lv' := [(3, aI (u80)), (2, aI ((x1 + 1))), (0, aR (30)), (1, aI (x1))]) rfl rfl (by decide) dX8_cutFrom_194 ?_
                refine G_aload_n 2 rfl rfl dX8_cutFrom_195 ?_
                refine G_iload_n 0 rfl rfl dX8_cutFrom_196 ?_
                refine G_if_ge (r77 _ rfl) dX8_cutFrom_197 (tgt := 205) (by decide) (fun c82 => ?_) (fun c82 => ?_)
                · have h := h.1 c82
                  refine G_bipush (by decide) dX8_cutFrom_205 ?_
                  refine G_iload_n 0 rfl rfl dX8_cutFrom_207 ?_
                  refine G_iadd dX8_cutFrom_208 ?_
                  refine G_iload_n 3 rfl rfl dX8_cutFrom_209 ?_
                  refine G_iconst dX8_cutFrom_210 ?_
                  obtain ⟨c83, h⟩ := h
                  obtain ⟨c84, h⟩ := h
                  refine G_callV (as := [_, _, _]) cf_X8_43 rfl rfl rfl (sp_X8_put (d - 1) (by omega) _ o78 _ c83 _ hx1 _ (rL 0 rfl) c84) (by omega) rfl rfl (Nat.le_of_ble_eq_true rfl) dX8_cutFrom_211 ?_
                  rintro _ σ87 ⟨rfl, e88⟩ o86 r85
                  have h := h σ87 e88
                  refine G_iload_n 1 rfl rfl dX8_cutFrom_214 ?_
                  exact G_iret rfl c9 dX8_cutFrom_215 ⟨_, rfl, h⟩ o86
                · have h := h.2 c82
                  refine G_bipush (by decide) dX8_cutFrom_200 ?_
                  refine G_goto (tgt := 209) dX8_cutFrom_202 (by decide) ?_
                  refine G_iload_n 3 rfl rfl dX8_cutFrom_209 ?_
                  refine G_iconst dX8_cutFrom_210 ?_
                  obtain ⟨c89, h⟩ := h
                  refine G_callV (as := [_, _, _]) cf_X8_43 rfl rfl rfl (sp_X8_put (d - 1) (by omega) _ o78 _ (rL 42 rfl) _ hx1 _ (rL 0 rfl) c89) (by omega) rfl rfl (Nat.le_of_ble_eq_true rfl) dX8_cutFrom_211 ?_
                  rintro _ σ92 ⟨rfl, e93⟩ o91 r90
                  have h := h σ92 e93
                  refine G_iload_n 1 rfl rfl dX8_cutFrom_214 ?_
                  exact G_iret rfl c9 dX8_cutFrom_215 ⟨_, rfl, h⟩ o91
              · have h := h.2 c72
                refine G_aload_n 1 rfl rfl dX8_cutFrom_152 ?_
                refine G_aload_n 1 rfl rfl dX8_cutFrom_153 ?_
                refine G_get (k := 0) (kd := (3, 1)) (v := aR (31)) gf_X8_9 rfl rfl rfl rfl dX8_cutFrom_154 ?_
                refine G_iload_n 2 rfl rfl dX8_cutFrom_157 ?_
                obtain ⟨c94, h⟩ := h
                refine G_iald (n := 300) rfl c94.1 c94.2 dX8_cutFrom_158 ?_
                refine G_bipush (by decide) dX8_cutFrom_159 ?_
                refine G_icmp_ne (OKm.i hO 31 x1 (isLg_row (show shp 31 = (1, 300, []) from rfl) _)) (rL 60 rfl) dX8_cutFrom_161 (tgt := 169) (by decide) (fun c95 => ?_) (fun c95 => ?_)
                · have h := h.1 c95
                  refine G_bipush (by decide) dX8_cutFrom_169 ?_
                  refine G_iload_n 2 rfl rfl dX8_cutFrom_171 ?_
                  refine G_iconst dX8_cutFrom_172 ?_
                  obtain ⟨c96, h⟩ := h
                  refine G_callV (as := [_, _, _]) cf_X8_43 rfl rfl rfl (sp_X8_put (d - 1) (by omega) _ hO _ (rL 40 rfl) _ hx1 _ (rL 0 rfl) c96) (by omega) rfl rfl (Nat.le_of_ble_eq_true rfl) dX8_cutFrom_173 ?_
                  rintro _ σ99 ⟨rfl, e100⟩ o98 r97
                  have h := h σ99 e100
                  refine G_iinc (lv' := [(2, aI (((x1 + 1) + 1))), (0, aR (30)), (1, aI (x1))]) (k := 0) rfl rfl (by decide) dX8_cutFrom_176 ?_
                  refine G_goto (tgt := 214) dX8_cutFrom_179 (by decide) ?_
                  refine G_iload_n 0 rfl rfl dX8_cutFrom_214 ?_
                  obtain ⟨c101, h⟩ := h
                  exact G_iret rfl c101 dX8_cutFrom_215 ⟨_, rfl, h⟩ o98
                · have h := h.2 c95
                  refine G_bipush (by decide) dX8_cutFrom_164 ?_
                  refine G_goto (tgt := 171) dX8_cutFrom_166 (by decide) ?_
                  refine G_iload_n 2 rfl rfl dX8_cutFrom_171 ?_
                  refine G_iconst dX8_cutFrom_172 ?_
                  obtain ⟨c102, h⟩ := h
                  refine G_callV (as := [_, _, _]) cf_X8_43 rfl rfl rfl (sp_X8_put (d - 1) (by omega) _ hO _ (rL 39 rfl) _ hx1 _ (rL 0 rfl) c102) (by omega) rfl rfl (Nat.le_of_ble_eq_true rfl) dX8_cutFrom_173 ?_
                  rintro _ σ105 ⟨rfl, e106⟩ o104 r103
                  have h := h σ105 e106
                  refine G_iinc (lv' := [(2, aI (((x1 + 1) + 1))), (0, aR (30)), (1, aI (x1))]) (k := 0) rfl rfl (by decide) dX8_cutFrom_176 ?_
                  refine G_goto (tgt := 214) dX8_cutFrom_179 (by decide) ?_
                  refine G_iload_n 0 rfl rfl dX8_cutFrom_214 ?_
                  obtain ⟨c107, h⟩ := h
                  exact G_iret rfl c107 dX8_cutFrom_215 ⟨_, rfl, h⟩ o104
      · have h := h.2 (bI_ne c8)
        obtain ⟨c108, h⟩ := h
        exact G_pick [1, 2, 0] rfl (h hx1 c108 hO)
    · have h := h.2 (bI_ne c4)
      obtain ⟨c109, h⟩ := h
      exact G_pick [1, 2, 0] rfl (h hx1 c109 hO)
  · intro v1 v2 σ h hv1 hv2 hO
    have h := h hv1 hv2 hO
    refine G_iload_n 2 rfl rfl dX8_cutFrom_16 ?_
    refine G_aload_n 0 rfl rfl dX8_cutFrom_17 ?_
    refine G_get (k := 1) (kd := (0, 0)) (v := aI (σ 30 1)) gf_X8_15 rfl rfl rfl rfl dX8_cutFrom_18 ?_
    refine G_icmp_ge hv2 (OKm.i hO 30 1 rfl) dX8_cutFrom_21 (tgt := 42) (by decide) (fun c140 => ?_) (fun c140 => ?_)
    · have h := h.1 c140
      refine G_aload_n 0 rfl rfl dX8_cutFrom_42 ?_
      refine G_aload_n 0 rfl rfl dX8_cutFrom_43 ?_
      refine G_iload_n 1 rfl rfl dX8_cutFrom_44 ?_
      refine G_iload_n 2 rfl rfl dX8_cutFrom_45 ?_
      obtain ⟨g141, c142, h⟩ := h
      refine G_callV (as := [_, _]) cf_X8_51 rfl rfl rfl (sp_X8_wordFrom (d - 1) (by omega) _ hO _ hv1 _ hv2 g141 c142) (by omega) rfl rfl (Nat.le_of_ble_eq_true rfl) dX8_cutFrom_46 ?_
      rintro _ σ145 ⟨u146, rfl, z147⟩ o144 r143
      have h := h _ _ (r143 _ rfl) o144 z147
      refine G_iload_n 1 rfl rfl dX8_cutFrom_49 ?_
      refine G_iconst dX8_cutFrom_50 ?_
      obtain ⟨c148, h⟩ := h
      refine G_callV (as := [_, _, _]) cf_X8_43 rfl rfl rfl (sp_X8_put (d - 1) (by omega) _ o144 _ (r143 _ rfl) _ hv1 _ (rL 0 rfl) c148) (by omega) rfl rfl (Nat.le_of_ble_eq_true rfl) dX8_cutFrom_51 ?_
      rintro _ σ151 ⟨rfl, e152⟩ o150 r149
      have h := h σ151 e152
      refine G_goto (tgt := 214) dX8_cutFrom_54 (by decide) ?_
      refine G_iload_n 2 rfl rfl dX8_cutFrom_214 ?_
      exact G_iret rfl hv2 dX8_cutFrom_215 ⟨_, rfl, h⟩ o150
    · have h := h.2 c140
      refine G_aload_n 0 rfl rfl dX8_cutFrom_24 ?_
      refine G_get (k := 0) (kd := (3, 1)) (v := aR (31)) gf_X8_9 rfl rfl rfl rfl dX8_cutFrom_25 ?_
      refine G_iload_n 2 rfl rfl dX8_cutFrom_28 ?_
      obtain ⟨c153, h⟩ := h
      refine G_iald (n := 300) rfl c153.1 c153.2 dX8_cutFrom_29 ?_
      refine G_callS (as := [_]) cf_X8_47 rfl (sp_X8_isLetter (d - 1) (by omega) _ hO _ (OKm.i hO 31 v2 (isLg_row (show shp 31 = (1, 300, []) from rfl) _))) (by omega) rfl rfl (Nat.le_of_ble_eq_true rfl) dX8_cutFrom_30 ?_
      rintro _ _ ⟨_, rfl, rfl, rfl⟩ o155 r154
      refine G_if_eq (bI_R _) dX8_cutFrom_33 (tgt := 42) (by decide) (fun c156 => ?_) (fun c156 => ?_)
      · have h := h.1 ((bI_0 _).mp c156)
        refine G_aload_n 0 rfl rfl dX8_cutFrom_42 ?_
        refine G_aload_n 0 rfl rfl dX8_cutFrom_43 ?_
        refine G_iload_n 1 rfl rfl dX8_cutFrom_44 ?_
        refine G_iload_n 2 rfl rfl dX8_cutFrom_45 ?_
        obtain ⟨g157, c158, h⟩ := h
        refine G_callV (as := [_, _]) cf_X8_51 rfl rfl rfl (sp_X8_wordFrom (d - 1) (by omega) _ hO _ hv1 _ hv2 g157 c158) (by omega) rfl rfl (Nat.le_of_ble_eq_true rfl) dX8_cutFrom_46 ?_
        rintro _ σ161 ⟨u162, rfl, z163⟩ o160 r159
        have h := h _ _ (r159 _ rfl) o160 z163
        refine G_iload_n 1 rfl rfl dX8_cutFrom_49 ?_
        refine G_iconst dX8_cutFrom_50 ?_
        obtain ⟨c164, h⟩ := h
        refine G_callV (as := [_, _, _]) cf_X8_43 rfl rfl rfl (sp_X8_put (d - 1) (by omega) _ o160 _ (r159 _ rfl) _ hv1 _ (rL 0 rfl) c164) (by omega) rfl rfl (Nat.le_of_ble_eq_true rfl) dX8_cutFrom_51 ?_
        rintro _ σ167 ⟨rfl, e168⟩ o166 r165
        have h := h σ167 e168
        refine G_goto (tgt := 214) dX8_cutFrom_54 (by decide) ?_
        refine G_iload_n 2 rfl rfl dX8_cutFrom_214 ?_
        exact G_iret rfl hv2 dX8_cutFrom_215 ⟨_, rfl, h⟩ o166
      · have h := h.2 (bI_ne c156)
        refine G_iinc (lv' := [(2, aI ((v2 + 1))), (0, aR (30)), (1, aI (v1))]) (k := 2) rfl rfl (by decide) dX8_cutFrom_36 ?_
        refine G_goto (tgt := 16) dX8_cutFrom_39 (by decide) ?_
        obtain ⟨c169, h⟩ := h
        exact G_pick [1, 2, 0] rfl (h hv1 c169 hO)
  · intro v1 v2 σ h hv1 hv2 hO
    have h := h hv1 hv2 hO
    refine G_iload_n 2 rfl rfl dX8_cutFrom_69 ?_
    refine G_aload_n 0 rfl rfl dX8_cutFrom_70 ?_
    refine G_get (k := 1) (kd := (0, 0)) (v := aI (σ 30 1)) gf_X8_15 rfl rfl rfl rfl dX8_cutFrom_71 ?_
    refine G_icmp_ge hv2 (OKm.i hO 30 1 rfl) dX8_cutFrom_74 (tgt := 95) (by decide) (fun c110 => ?_) (fun c110 => ?_)
    · have h := h.1 c110
      refine G_aload_n 0 rfl rfl dX8_cutFrom_95 ?_
      refine G_bipush (by decide) dX8_cutFrom_96 ?_
      refine G_iload_n 1 rfl rfl dX8_cutFrom_98 ?_
      refine G_aload_n 0 rfl rfl dX8_cutFrom_99 ?_
      refine G_iload_n 1 rfl rfl dX8_cutFrom_100 ?_
      refine G_iload_n 2 rfl rfl dX8_cutFrom_101 ?_
      obtain ⟨g111, c112, h⟩ := h
      refine G_callV (as := [_, _]) cf_X8_57 rfl rfl rfl (sp_X8_numberFrom (d - 1) (by omega) _ hO _ hv1 _ hv2 g111 c112) (by omega) rfl rfl (Nat.le_of_ble_eq_true rfl) dX8_cutFrom_102 ?_
      rintro _ σ115 ⟨u116, rfl, z117⟩ o114 r113
      have h := h _ _ (r113 _ rfl) o114 z117
      obtain ⟨c118, h⟩ := h
      refine G_callV (as := [_, _, _]) cf_X8_43 rfl rfl rfl (sp_X8_put (d - 1) (by omega) _ o114 _ (rL 41 rfl) _ hv1 _ (r113 _ rfl) c118) (by omega) rfl rfl (Nat.le_of_ble_eq_true rfl) dX8_cutFrom_105 ?_
      rintro _ σ121 ⟨rfl, e122⟩ o120 r119
      have h := h σ121 e122
      refine G_goto (tgt := 214) dX8_cutFrom_108 (by decide) ?_
      refine G_iload_n 2 rfl rfl dX8_cutFrom_214 ?_
      exact G_iret rfl hv2 dX8_cutFrom_215 ⟨_, rfl, h⟩ o120
    · have h := h.2 c110
      refine G_aload_n 0 rfl rfl dX8_cutFrom_77 ?_
      refine G_get (k := 0) (kd := (3, 1)) (v := aR (31)) gf_X8_9 rfl rfl rfl rfl dX8_cutFrom_78 ?_
      refine G_iload_n 2 rfl rfl dX8_cutFrom_81 ?_
      obtain ⟨c123, h⟩ := h
      refine G_iald (n := 300) rfl c123.1 c123.2 dX8_cutFrom_82 ?_
      refine G_callS (as := [_]) cf_X8_54 rfl (sp_X8_isDigit (d - 1) (by omega) _ hO _ (OKm.i hO 31 v2 (isLg_row (show shp 31 = (1, 300, []) from rfl) _))) (by omega) rfl rfl (Nat.le_of_ble_eq_true rfl) dX8_cutFrom_83 ?_
      rintro _ _ ⟨_, rfl, rfl, rfl⟩ o125 r124
      refine G_if_eq (bI_R _) dX8_cutFrom_86 (tgt := 95) (by decide) (fun c126 => ?_) (fun c126 => ?_)
      · have h := h.1 ((bI_0 _).mp c126)
        refine G_aload_n 0 rfl rfl dX8_cutFrom_95 ?_
        refine G_bipush (by decide) dX8_cutFrom_96 ?_
        refine G_iload_n 1 rfl rfl dX8_cutFrom_98 ?_
        refine G_aload_n 0 rfl rfl dX8_cutFrom_99 ?_
        refine G_iload_n 1 rfl rfl dX8_cutFrom_100 ?_
        refine G_iload_n 2 rfl rfl dX8_cutFrom_101 ?_
        obtain ⟨g127, c128, h⟩ := h
        refine G_callV (as := [_, _]) cf_X8_57 rfl rfl rfl (sp_X8_numberFrom (d - 1) (by omega) _ hO _ hv1 _ hv2 g127 c128) (by omega) rfl rfl (Nat.le_of_ble_eq_true rfl) dX8_cutFrom_102 ?_
        rintro _ σ131 ⟨u132, rfl, z133⟩ o130 r129
        have h := h _ _ (r129 _ rfl) o130 z133
        obtain ⟨c134, h⟩ := h
        refine G_callV (as := [_, _, _]) cf_X8_43 rfl rfl rfl (sp_X8_put (d - 1) (by omega) _ o130 _ (rL 41 rfl) _ hv1 _ (r129 _ rfl) c134) (by omega) rfl rfl (Nat.le_of_ble_eq_true rfl) dX8_cutFrom_105 ?_
        rintro _ σ137 ⟨rfl, e138⟩ o136 r135
        have h := h σ137 e138
        refine G_goto (tgt := 214) dX8_cutFrom_108 (by decide) ?_
        refine G_iload_n 2 rfl rfl dX8_cutFrom_214 ?_
        exact G_iret rfl hv2 dX8_cutFrom_215 ⟨_, rfl, h⟩ o136
      · have h := h.2 (bI_ne c126)
        refine G_iinc (lv' := [(2, aI ((v2 + 1))), (0, aR (30)), (1, aI (v1))]) (k := 2) rfl rfl (by decide) dX8_cutFrom_89 ?_
        refine G_goto (tgt := 69) dX8_cutFrom_92 (by decide) ?_
        obtain ⟨c139, h⟩ := h
        exact G_pick [1, 2, 0] rfl (h hv1 c139 hO)

theorem sp_X8_cutFrom (d : Nat) (hd : 5 ≤ d) (σ : Mem) (hO : OKm σ) (x1 : Int) (hx1 : R32 x1) (b : Int → Int) (N : Int) (hpre : isTp b N ∧ σ 30 1 = N ∧ (∀ i : Int, 0 ≤ i → i < N → σ 31 i = b i) ∧ (0 ≤ x1 ∧ x1 < N) ∧ (0 ≤ σ 30 5 ∧ σ 30 5 < 301)) : Mt yX8_cutFrom cX8_cutFrom 4 (some .int) d [aR (30), aI (x1)] σ (QI (fun v σ' => v = psM b N x1 ∧ σ' = putS σ (kdC b N x1) x1 (nuC b N x1))) := mt_X8_cutFrom hd hx1 hO (by
  unfold wp_X8_cutFrom
  intro P16 P69 h16 h69
  obtain ⟨hB, hN, h31, hx, hc⟩ := hpre
  have hN0 := hB.1
  have hbx := hB.2.1 x1 hx.1 hx.2
  have ex : σ 31 x1 = b x1 := h31 x1 hx.1 hx.2
  have hps := psM_r hB hx.1 (Int.le_of_lt hx.2)
  have H16 : ltr (b x1) = true → ∀ (n : Nat) (k : Int), k + n = N → x1 < k → spn ltr b n k = psM b N x1 → P16 x1 k σ := by
    intro hl n
    have fin : ∀ k : Int, x1 < k → k ≤ N → k = psM b N x1 → ∃ g139 : Unit, (0 ≤ x1 ∧ x1 ≤ k ∧ k ≤ 300) ∧ ∀ (u144 : Int) (σ143 : Mem), R32 u144 → OKm σ143 → (u144 = wdC (σ 31) x1 k ∧ σ143 = σ) → (0 ≤ σ143 30 5 ∧ σ143 30 5 < 301) ∧ ∀ σ149 : Mem, σ149 = (mset (mset (mset (mset σ143 32 (σ143 30 5) u144) 33 (σ143 30 5) x1) 34 (σ143 30 5) (0 : Int)) 30 5 (σ143 30 5 + 1)) → (fun v σ' => v = psM b N x1 ∧ σ' = putS σ (kdC b N x1) x1 (nuC b N x1)) k σ149 := by
      intro k h1 h2 he
      refine ⟨(), ⟨hx.1, by omega, by omega⟩, fun u τ _ _ ⟨e1, e2⟩ => ?_⟩
      subst e2
      refine ⟨hc, fun ρ e => ⟨he, ?_⟩⟩
      have e3 : wdC (τ 31) x1 k = wdC b x1 k := wdC_congr (fun i q1 q2 => h31 i (by omega) (by omega))
      have hf : fig (b x1) = false := by
        unfold ltr at hl; rw [decide_eq_true_eq] at hl
        unfold fig; rw [decide_eq_false_iff_not]; omega
      rw [e, e1, e3]
      unfold putS kdC nuC
      rw [if_pos hl, hf, he]; rfl
    induction n with
    | zero =>
      intro k hk h0 he
      refine h16 _ _ _ (fun _ _ _ => ⟨fun _ => fin k h0 (by omega) he, fun h => absurd h (by omega)⟩)
    | succ n ih =>
      intro k hk h0 he
      refine h16 _ _ _ (fun _ _ _ => ⟨fun h => absurd h (by omega), fun _ => ⟨by omega, fun hn => fin k h0 (by omega) ?_, fun hy => ⟨by unfold R32; omega, ih (k + 1) (by omega) (by omega) ?_⟩⟩⟩)
      · rw [h31 k (by omega) (by omega)] at hn
        rw [← he]; show k = if ltr (b k) = true then _ else _
        rw [show ltr (b k) = false from decide_eq_false hn]; rfl
      · rw [h31 k (by omega) (by omega)] at hy
        rw [← he]; show _ = if ltr (b k) = true then _ else _
        rw [if_pos (show ltr (b k) = true from decide_eq_true hy)]
  have H69 : ltr (b x1) = false → fig (b x1) = true → ∀ (n : Nat) (k : Int), k + n = N → x1 < k → spn fig b n k = psM b N x1 → P69 x1 k σ := by
    intro hl hf n
    have fin : ∀ k : Int, x1 < k → k ≤ N → k = psM b N x1 → ∃ g109 : Unit, (0 ≤ x1 ∧ x1 ≤ k ∧ k ≤ 300 ∧ (∀ i : Int, x1 ≤ i → i < k → 48 ≤ σ 31 i ∧ σ 31 i ≤ 57)) ∧ ∀ (u114 : Int) (σ113 : Mem), R32 u114 → OKm σ113 → (u114 = nbC (σ 31) x1 k ∧ σ113 = σ) → (0 ≤ σ113 30 5 ∧ σ113 30 5 < 301) ∧ ∀ σ119 : Mem, σ119 = (mset (mset (mset (mset σ113 32 (σ113 30 5) (41 : Int)) 33 (σ113 30 5) x1) 34 (σ113 30 5) u114) 30 5 (σ113 30 5 + 1)) → (fun v σ' => v = psM b N x1 ∧ σ' = putS σ (kdC b N x1) x1 (nuC b N x1)) k σ119 := by
      intro k h1 h2 he
      refine ⟨(), ⟨hx.1, by omega, by omega, fun i q1 q2 => ?_⟩, fun u τ _ _ ⟨e1, e2⟩ => ?_⟩
      · rw [h31 i (by omega) (by omega)]
        have hh : fig (b i) = true := by
          by_cases r : i = x1
          · rw [r]; exact hf
          · rw [psM_fig hf hx.2] at he
            exact spn_all (N - x1 - 1).toNat (x1 + 1) i (by omega) (by omega)
        unfold fig at hh; rw [decide_eq_true_eq] at hh; exact hh
      · subst e2
        refine ⟨hc, fun ρ e => ⟨he, ?_⟩⟩
        have e3 : nbC (τ 31) x1 k = nbC b x1 k := nbC_congr (by omega) (fun i q1 q2 => h31 i (by omega) (by omega))
        rw [e, e1, e3]
        unfold putS kdC nuC
        rw [hl, if_pos hf, if_pos hf, he]; rfl
    induction n with
    | zero =>
      intro k hk h0 he
      refine h69 _ _ _ (fun _ _ _ => ⟨fun _ => fin k h0 (by omega) he, fun h => absurd h (by omega)⟩)
    | succ n ih =>
      intro k hk h0 he
      refine h69 _ _ _ (fun _ _ _ => ⟨fun h => absurd h (by omega), fun _ => ⟨by omega, fun hn => fin k h0 (by omega) ?_, fun hy => ⟨by unfold R32; omega, ih (k + 1) (by omega) (by omega) ?_⟩⟩⟩)
      · rw [h31 k (by omega) (by omega)] at hn
        rw [← he]; show k = if fig (b k) = true then _ else _
        rw [show fig (b k) = false from decide_eq_false hn]; rfl
      · rw [h31 k (by omega) (by omega)] at hy
        rw [← he]; show _ = if fig (b k) = true then _ else _
        rw [if_pos (show fig (b k) = true from decide_eq_true hy)]
  rw [ex]
  have r1 : (0 : Int) ≤ x1 ∧ x1 < 300 := by omega
  refine ⟨r1, fun hnl => ⟨r1, fun hnf => ⟨by unfold R32; omega, ?_⟩, fun hyf => ?_⟩, fun hyl => ?_⟩
  · have hl : ltr (b x1) = false := decide_eq_false hnl
    have hf : fig (b x1) = false := decide_eq_false hnf
    have hps1 : two2 b x1 = false → psM b N x1 = x1 + 1 := fun h2 => by
      unfold psM; rw [if_neg (by omega), hf, hl, h2]; rfl
    have hps2 : two2 b x1 = true → psM b N x1 = x1 + 1 + 1 := fun h2 => by
      unfold psM; rw [if_neg (by omega), hf, hl, if_pos h2]; show x1 + 2 = _; omega
    have one : two2 b x1 = false → (0 ≤ (b x1) ∧ (b x1) < 65536) ∧ ∃ g13 : Unit, (True) ∧ ∀ (u18 : Int) (σ17 : Mem), R32 u18 → OKm σ17 → (u18 = (if 0 ≤ (b x1) ∧ (b x1) ≤ 255 then ixF (b x1) 11 0 else -1) ∧ σ17 = σ) → ((0 ≤ u18) → R32 (28 + u18) ∧ (0 ≤ σ17 30 5 ∧ σ17 30 5 < 301) ∧ ∀ σ25 : Mem, σ25 = (mset (mset (mset (mset σ17 32 (σ17 30 5) (28 + u18)) 33 (σ17 30 5) x1) 34 (σ17 30 5) (0 : Int)) 30 5 (σ17 30 5 + 1)) → (fun v σ' => v = psM b N x1 ∧ σ' = putS σ (kdC b N x1) x1 (nuC b N x1)) (x1 + 1) σ25) ∧ ((u18 < 0) → (0 ≤ σ17 30 5 ∧ σ17 30 5 < 301) ∧ ∀ σ30 : Mem, σ30 = (mset (mset (mset (mset σ17 32 (σ17 30 5) (42 : Int)) 33 (σ17 30 5) x1) 34 (σ17 30 5) (0 : Int)) 30 5 (σ17 30 5 + 1)) → (fun v σ' => v = psM b N x1 ∧ σ' = putS σ (kdC b N x1) x1 (nuC b N x1)) (x1 + 1) σ30) := by
      intro h2
      refine ⟨by omega, (), trivial, fun u τ hu _ ⟨e1, e2⟩ => ?_⟩
      subst e2
      rw [if_pos (by omega)] at e1
      have hur : u ≤ 11 := by
        have : ∀ (n : Nat) (k : Int), 0 ≤ k → ixF (b x1) n k ≤ k + n := by
          intro n
          induction n with
          | zero => intro k hk; show (-1 : Int) ≤ _; omega
          | succ n ih => intro k hk; have := ih (k + 1) (by omega); unfold ixF; split <;> omega
        have := this 11 0 (by omega)
        omega
      refine ⟨fun hu0 => ⟨by unfold R32; omega, hc, fun ρ e => ⟨(hps1 h2).symm, ?_⟩⟩, fun hu0 => ⟨hc, fun ρ e => ⟨(hps1 h2).symm, ?_⟩⟩⟩
      · rw [e]; unfold putS kdC nuC
        rw [hl, hf, h2, ← e1, if_neg (show ¬ u < 0 by omega)]; rfl
      · rw [e]; unfold putS kdC nuC
        rw [hl, hf, h2, ← e1, if_pos hu0]; rfl
    have dbl : two2 b x1 = true → ∀ (k : Int) (ρ : Mem), k = (if b x1 = 60 then 39 else 40) → ρ = (mset (mset (mset (mset σ 32 (σ 30 5) k) 33 (σ 30 5) x1) 34 (σ 30 5) (0 : Int)) 30 5 (σ 30 5 + 1)) → R32 (x1 + 1 + 1) ∧ (x1 + 1 + 1 = psM b N x1 ∧ ρ = putS σ (kdC b N x1) x1 (nuC b N x1)) := by
      intro h2 k ρ ek e
      refine ⟨by unfold R32; omega, (hps2 h2).symm, ?_⟩
      rw [e, ek]; unfold putS kdC nuC
      rw [hl, hf, h2]; rfl
    refine ⟨fun hge => ⟨r1, one (decide_eq_false (fun q => ?_))⟩, fun hlt => ⟨by omega, ?_⟩⟩
    · have := hB.2.2 (x1 + 1) (by omega); omega
    · rw [h31 (x1 + 1) (by omega) (by omega)]
      refine ⟨fun hne => ⟨r1, one (decide_eq_false (fun q => hne q.2))⟩, fun he => ⟨r1, fun h60 => ⟨r1, fun q => absurd h60 q, fun _ => ⟨hc, fun ρ e => dbl (decide_eq_true ⟨.inl h60, he⟩) 39 ρ (by rw [if_pos h60]) e⟩⟩, fun h60 => ⟨r1, fun h62 => ⟨r1, one (decide_eq_false (fun q => by omega))⟩, fun h62 => ⟨r1, fun _ => ⟨hc, fun ρ e => dbl (decide_eq_true ⟨.inr h62, he⟩) 40 ρ (by rw [if_neg h60]) e⟩, fun q => absurd q h60⟩⟩⟩⟩
  · exact ⟨by unfold R32; omega, H69 (decide_eq_false hnl) (decide_eq_true hyf) (N - x1 - 1).toNat (x1 + 1) (by omega) (by omega) (psM_fig (decide_eq_true hyf) hx.2).symm⟩
  · exact ⟨by unfold R32; omega, H16 (decide_eq_true hyl) (N - x1 - 1).toNat (x1 + 1) (by omega) (by omega) (psM_ltr (decide_eq_true hyl) hx.2).symm⟩)
