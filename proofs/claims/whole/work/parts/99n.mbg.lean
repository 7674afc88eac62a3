theorem btw_43 (p : List Int) : btw 43 p = -1 := by
  rw [btw_n (by unfold nAr; omega), cmO_n (by omega)]
  split
  · rfl
  · split
    · rfl
    · rfl
theorem prt_43 (p : List Int) : prt 43 p = -1 := by
  unfold prt
  rw [if_neg (show ¬ (43 : Int) = 37 by omega), if_neg (show ¬ ((43 : Int) = 22 ∧ cmpd p = true) by omega), if_neg (show ¬ (43 : Int) = 23 by omega), if_neg (show ¬ (43 : Int) = 24 by omega)]
  (repeat' split) <;> rfl
theorem prt_op {k : Int} {p : List Int} (h : 0 ≤ prt k p) : 40 ≤ opP p := by
  unfold prt at h
  by_cases h1 : opP p = 40
  · omega
  rw [if_neg h1] at h
  by_cases h2 : opP p = 42
  · omega
  rw [if_neg h2] at h
  by_cases h3 : opP p = 43
  · omega
  rw [if_neg h3] at h
  by_cases h4 : opP p = 44
  · omega
  rw [if_neg h4] at h; omega
theorem rank_0 {x : Int} (h : rankS x < 1) : 40 ≤ x := by
  rcases Int.lt_or_le x 40 with q | q
  · exfalso
    unfold rankS at h
    rw [if_neg (by omega)] at h
    revert h
    (repeat' split) <;> intro h <;> omega
  · exact q
theorem stl_lowR {m : Int} : ∀ (p : List Int) (o : Int) (s : SK), lowR m (stlS m p o s).1
  | [], o, s => fun x r e => by cases e
  | x :: r, o, s => by
    by_cases q : m ≤ rankS x
    · rw [stl_pop q]; exact stl_lowR r _ _
    · rw [stl_low (lowR.cons (by omega))]; exact lowR.cons (by omega)
theorem mC.push {z0 : Mem} {ti lw a x : Int} {τ σ1 σ2 σ3 : Mem} {p : List Int} {o : Int} {i : Nat} {k : SK} (h : mC z0 ti lw a τ p o i k) (h3 : i + 1 ≤ 300) (e1 : σ1 = mset τ 79 (τ 74 16) x) (e2 : σ2 = mset σ1 74 16 (σ1 74 16 + 1)) (e3 : σ3 = mset σ2 74 18 0) : mC z0 ti lw a σ3 (x :: p) o (i + 1) k := by
  have w := h.w
  have ho := h.2.2.2.2.2.1
  have e16 : τ 74 16 = (p.length : Int) := h.2.2.1
  rw [e3]
  refine mC.set18 (h.keep ?_ ⟨?_, h.2.2.2.1.congr (fun j q1 q2 => ?_)⟩ ?_ (by simp; omega) (by simp; omega) (fun j q => ?_) ?_)
  · rw [e2, mset_hit rfl, e1, mset_off (by omega), e16]; simp
  · rw [e2, mset_off (by omega), e1, mset_hit e16.symm]
  · rw [e2, mset_off (by omega), e1, mset_miss (by omega)]
  · rw [e2, mset_miss (by omega), e1, mset_off (by omega)]; exact h.2.2.2.2.1
  · rw [e2, mset_miss (by omega), e1, mset_off (by omega)]
  · rw [e2, e1]; exact ((Fr.rf _ _).set (by simp)).set (by simp)
theorem mC.emitE {z0 : Mem} {ti lw a oc v : Int} {τ σ' : Mem} {p : List Int} {o : Int} {n m : Nat} {k : SK} (h : mC z0 ti lw a τ p o n k) (hm : n ≤ m ∧ τ 74 13 + 1 + (p.length : Int) ≤ m ∧ m ≤ 300) (e : σ' = mset (mset (mset τ 77 (729 * ti + 121 + 2 * τ 74 13) oc) 77 (729 * ti + 121 + 2 * τ 74 13 + 1) v) 74 13 (τ 74 13 + 1)) (h3 : oc = 0 → Mil v) (h4 : oc = 1 → 0 ≤ v ∧ v ≤ 8) : mC z0 ti lw a σ' p o m (em oc v k) := by
  have ho := h.2.2.2.2.2.1
  refine h.emit ?_ (h.2.2.2.1.congr (fun j _ _ => ?_)) ?_ (by omega) ?_ (by omega) (fun j q => ?_) ?_ ?_ ?_ (fun j q1 q2 => ?_) h3 h4
  · rw [e, mset_miss (by omega), mset_off (by omega), mset_off (by omega)]; exact h.2.2.1
  · rw [e, mset_off (by omega), mset_off (by omega), mset_off (by omega)]
  · rw [e, mset_miss (by omega), mset_off (by omega), mset_off (by omega)]; exact h.2.2.2.2.1
  · rw [e, mset_hit rfl]
  · rw [e, mset_miss (by omega), mset_off (by omega), mset_off (by omega)]
  · rw [e]; exact (((Fr.rf _ _).set (by simp)).set (by simp)).set (by simp)
  · rw [e, mset_off (by omega), mset_miss (by omega), mset_hit rfl]
  · rw [e, mset_off (by omega), mset_hit rfl]
  · rw [e, mset_off (by omega), mset_miss q2, mset_miss q1]
theorem tkM.emitE {b : Int → Int} {N : Int} {i : Nat} {τ σ' : Mem} {c1 c2 v1 v2 v3 : Int} (h : tkM τ b N i) (e : σ' = mset (mset (mset τ 77 c1 v1) 77 c2 v2) 74 13 v3) : tkM σ' b N i := by
  rw [e]; exact ((h.set (by omega) (fun q => by omega)).set (by omega) (fun q => by omega)).set (by omega) (fun _ => by omega)

def wp_X12_behindOne  (σ : Mem) (Q : Int → Mem → Prop) : Prop :=
  ∃ g1 : Int → Int, ∃ g2 : Int, ∃ g3 : List Int, ∃ g4 : Nat, (tkM σ g1 g2 g4 ∧ plC σ g3) ∧
   ∀ (u9 : Int) (σ8 : Mem), R32 u9 → OKm σ8 → (u9 = btw (kd g1 g2 g4) g3 ∧ σ8 = σ) →
   ((u9 < 0) →
    ∃ g12 : List Int, (plC σ8 g12) ∧
    ∀ (u17 : Int) (σ16 : Mem), R32 u17 → OKm σ16 → (u17 = opP g12 ∧ σ16 = σ8) →
    ∃ g19 : Int → Int, ∃ g20 : Int, ∃ g21 : List Int, ∃ g22 : Nat, (tkM σ16 g19 g20 g22 ∧ plC σ16 g21 ∧ u17 = opP g21) ∧
    ∀ (u27 : Int) (σ26 : Mem), R32 u27 → OKm σ26 → (u27 = prt (kd g19 g20 g22) g21 ∧ σ26 = σ16) →
    ((0 ≤ u27) →
     ∃ g30 : Mem, ∃ g31 : Int → Int, ∃ g32 : Int, ∃ g33 : Int, ∃ g34 : Int, ∃ g35 : Int, ∃ g36 : List Int, ∃ g37 : Int, ∃ g38 : Nat, ∃ g39 : SK, (tkM σ26 g31 g32 g38 ∧ mC g30 g33 g34 g35 σ26 g36 g37 g38 g39 ∧ g36.length ≤ 160) ∧
     ∀ σ43 : Mem, OKm σ43 → (tkM σ43 g31 g32 g38 ∧ mC g30 g33 g34 g35 σ43 (stlS (1 : Int) g36 g37 g39).1 (stlS (1 : Int) g36 g37 g39).2.1 g38 (stlS (1 : Int) g36 g37 g39).2.2 ∧ σ43 74 18 = σ26 74 18) →
     ∃ g46 : Int → Int, ∃ g47 : Int, ∃ g48 : Nat, (tkM σ43 g46 g47 g48) ∧
     ∀ σ52 : Mem, OKm σ52 → (tkM σ52 g46 g47 (g48 + 1) ∧ (∀ j : Int, j ≠ 7 → j ≠ 8 → j ≠ 9 → j ≠ 10 → j ≠ 11 → σ52 74 j = σ43 74 j) ∧ Fr [74] σ43 σ52) →
     ((u27 ≠ 0) →
      ∃ g56 : List Int, (plC σ52 g56) ∧
      ∀ (u61 : Int) (σ60 : Mem), R32 u61 → OKm σ60 → (u61 = opI g56 ∧ σ60 = σ52) →
      (0 ≤ u61 ∧ u61 < 160) ∧
      ∀ σ64 : Mem, σ64 = mset σ60 79 u61 u27 →
      ∀ σ67 : Mem, σ67 = mset σ64 74 18 0 →
      Q 0 σ67) ∧
     ((u27 = 0) →
      R32 ((σ52 74 17) - 1) ∧
      ∀ σ70 : Mem, σ70 = mset σ52 74 17 ((σ52 74 17) - 1) →
      R32 ((σ70 74 16) - 1) ∧
      ∀ σ74 : Mem, σ74 = mset σ70 74 16 ((σ70 74 16) - 1) →
      ((u17 ≠ 44) →
       ∃ g79 : Mem, ∃ g80 : Int → Int, ∃ g81 : Int, ∃ g82 : Int, ∃ g83 : Int, ∃ g84 : Int, ∃ g85 : List Int, ∃ g86 : Int, ∃ g87 : Nat, ∃ g88 : SK, (tkM σ74 g80 g81 g87 ∧ mC g79 g82 g83 g84 σ74 g85 g86 g87 g88 ∧ g85.length ≤ 160) ∧
       ∀ (u93 : Int) (σ92 : Mem), R32 u93 → OKm σ92 → (stP g79 g80 g81 g82 g83 g84 σ92 u93 (fun Z Fl => eo (kd g80 g81) Z Fl g85 g86 g87 g88)) →
       Q u93 σ92) ∧
      ((u17 = 44) →
       (0 ≤ σ74 74 12 ∧ σ74 74 12 ≤ 2187 ∧ 0 ≤ σ74 74 13 ∧ σ74 74 13 ≤ 303) ∧
       ∀ σ98 : Mem, σ98 = (mset (mset (mset σ74 77 (σ74 74 12 + 121 + 2 * σ74 74 13) (3 : Int)) 77 (σ74 74 12 + 121 + 2 * σ74 74 13 + 1) (0 : Int)) 74 13 (σ74 74 13 + 1)) →
       ∃ g100 : Mem, ∃ g101 : Int → Int, ∃ g102 : Int, ∃ g103 : Int, ∃ g104 : Int, ∃ g105 : Int, ∃ g106 : List Int, ∃ g107 : Int, ∃ g108 : Nat, ∃ g109 : SK, (tkM σ98 g101 g102 g108 ∧ mC g100 g103 g104 g105 σ98 g106 g107 g108 g109 ∧ g106.length ≤ 160) ∧
       ∀ (u114 : Int) (σ113 : Mem), R32 u114 → OKm σ113 → (stP g100 g101 g102 g103 g104 g105 σ113 u114 (fun Z Fl => eo (kd g101 g102) Z Fl g106 g107 g108 g109)) →
       Q u114 σ113))) ∧
    ((u27 < 0) →
     Q (-1) σ26)) ∧
   ((0 ≤ u9) →
    (((rankS u9) ≠ 4) →
     ∃ g121 : Mem, ∃ g122 : Int → Int, ∃ g123 : Int, ∃ g124 : Int, ∃ g125 : Int, ∃ g126 : Int, ∃ g127 : List Int, ∃ g128 : Int, ∃ g129 : Nat, ∃ g130 : SK, (tkM σ8 g122 g123 g129 ∧ mC g121 g124 g125 g126 σ8 g127 g128 g129 g130 ∧ g127.length ≤ 160) ∧
     ∀ σ134 : Mem, OKm σ134 → (tkM σ134 g122 g123 g129 ∧ mC g121 g124 g125 g126 σ134 (stlS (rankS u9) g127 g128 g130).1 (stlS (rankS u9) g127 g128 g130).2.1 g129 (stlS (rankS u9) g127 g128 g130).2.2 ∧ σ134 74 18 = σ8 74 18) →
     (0 ≤ (σ134 74 16) ∧ (σ134 74 16) < 160) ∧
     ∀ σ138 : Mem, σ138 = mset σ134 79 (σ134 74 16) u9 →
     R32 ((σ138 74 16) + 1) ∧
     ∀ σ141 : Mem, σ141 = mset σ138 74 16 ((σ138 74 16) + 1) →
     ∀ σ145 : Mem, σ145 = mset σ141 74 18 0 →
     ∃ g148 : Int → Int, ∃ g149 : Int, ∃ g150 : Nat, (tkM σ145 g148 g149 g150) ∧
     ∀ σ154 : Mem, OKm σ154 → (tkM σ154 g148 g149 (g150 + 1) ∧ (∀ j : Int, j ≠ 7 → j ≠ 8 → j ≠ 9 → j ≠ 10 → j ≠ 11 → σ154 74 j = σ145 74 j) ∧ Fr [74] σ145 σ154) →
     Q 0 σ154) ∧
    (((rankS u9) = 4) →
     ∃ g157 : Mem, ∃ g158 : Int → Int, ∃ g159 : Int, ∃ g160 : Int, ∃ g161 : Int, ∃ g162 : Int, ∃ g163 : List Int, ∃ g164 : Int, ∃ g165 : Nat, ∃ g166 : SK, (tkM σ8 g158 g159 g165 ∧ mC g157 g160 g161 g162 σ8 g163 g164 g165 g166 ∧ g163.length ≤ 160) ∧
     ∀ σ170 : Mem, OKm σ170 → (tkM σ170 g158 g159 g165 ∧ mC g157 g160 g161 g162 σ170 (stlS (5 : Int) g163 g164 g166).1 (stlS (5 : Int) g163 g164 g166).2.1 g165 (stlS (5 : Int) g163 g164 g166).2.2 ∧ σ170 74 18 = σ8 74 18) →
     (0 ≤ (σ170 74 16) ∧ (σ170 74 16) < 160) ∧
     ∀ σ174 : Mem, σ174 = mset σ170 79 (σ170 74 16) u9 →
     R32 ((σ174 74 16) + 1) ∧
     ∀ σ177 : Mem, σ177 = mset σ174 74 16 ((σ174 74 16) + 1) →
     ∀ σ181 : Mem, σ181 = mset σ177 74 18 0 →
     ∃ g184 : Int → Int, ∃ g185 : Int, ∃ g186 : Nat, (tkM σ181 g184 g185 g186) ∧
     ∀ σ190 : Mem, OKm σ190 → (tkM σ190 g184 g185 (g186 + 1) ∧ (∀ j : Int, j ≠ 7 → j ≠ 8 → j ≠ 9 → j ≠ 10 → j ≠ 11 → σ190 74 j = σ181 74 j) ∧ Fr [74] σ181 σ190) →
     Q 0 σ190))
theorem mt_X12_behindOne {d : Nat} (hd : 4 ≤ d)  {σ : Mem} {Q : Int → Mem → Prop}  (hO : OKm σ) (h : wp_X12_behindOne  σ Q) : Mt yX12_behindOne cX12_behindOne 4 (some .int) d [aR (74)] σ (QI Q) := by
  refine Mt.intro (by decide +kernel) (Nat.le_of_ble_eq_true rfl) [(0, aR (74))] rfl ?_
  unfold wp_X12_behindOne at h
  refine G_aload_n 0 rfl rfl dX12_behindOne_0 ?_
  obtain ⟨g1, g2, g3, g4, c5, h⟩ := h
  refine G_callV (as := []) cf_X12_219 rfl rfl rfl (sp_X12_betweenOf (d - 1) (by omega) _ hO  g1 g2 g3 g4 c5) (by omega) rfl rfl (Nat.le_of_ble_eq_true rfl) dX12_behindOne_1 ?_
  rintro _ σ8 ⟨u9, rfl, z10⟩ o7 r6
  have h := h _ _ (r6 _ rfl) o7 z10
  refine G_istore_n (lv' := [(1, aI (u9)), (0, aR (74))]) rfl rfl (by decide) dX12_behindOne_4 ?_
  refine G_iload_n 0 rfl rfl dX12_behindOne_5 ?_
  refine G_if_lt (r6 _ rfl) dX12_behindOne_6 (tgt := 60) (by decide) (fun c11 => ?_) (fun c11 => ?_)
  · have h := h.1 c11
    refine G_aload_n 1 rfl rfl dX12_behindOne_60 ?_
    obtain ⟨g12, c13, h⟩ := h
    refine G_callV (as := []) cf_X12_177 rfl rfl rfl (sp_X12_openNow (d - 1) (by omega) _ o7  g12 c13) (by omega) rfl rfl (Nat.le_of_ble_eq_true rfl) dX12_behindOne_61 ?_
    rintro _ σ16 ⟨u17, rfl, z18⟩ o15 r14
    have h := h _ _ (r14 _ rfl) o15 z18
    refine G_istore_n (lv' := [(2, aI (u17)), (1, aI (u9)), (0, aR (74))]) rfl rfl (by decide) dX12_behindOne_64 ?_
    refine G_aload_n 2 rfl rfl dX12_behindOne_65 ?_
    refine G_iload_n 0 rfl rfl dX12_behindOne_66 ?_
    obtain ⟨g19, g20, g21, g22, c23, h⟩ := h
    refine G_callV (as := [_]) cf_X12_222 rfl rfl rfl (sp_X12_partOf (d - 1) (by omega) _ o15 _ (r14 _ rfl) g19 g20 g21 g22 c23) (by omega) rfl rfl (Nat.le_of_ble_eq_true rfl) dX12_behindOne_67 ?_
    rintro _ σ26 ⟨u27, rfl, z28⟩ o25 r24
    have h := h _ _ (r24 _ rfl) o25 z28
    refine G_istore_n (lv' := [(3, aI (u27)), (2, aI (u17)), (1, aI (u9)), (0, aR (74))]) rfl rfl (by decide) dX12_behindOne_70 ?_
    refine G_iload_n 0 rfl rfl dX12_behindOne_71 ?_
    refine G_if_ge (r24 _ rfl) dX12_behindOne_72 (tgt := 77) (by decide) (fun c29 => ?_) (fun c29 => ?_)
    · have h := h.1 c29
      refine G_aload_n 3 rfl rfl dX12_behindOne_77 ?_
      refine G_iconst dX12_behindOne_78 ?_
      obtain ⟨g30, g31, g32, g33, g34, g35, g36, g37, g38, g39, c40, h⟩ := h
      refine G_callV (as := [_]) cf_X12_207 rfl rfl rfl (sp_X12_settle (d - 1) (by omega) _ o25 _ (rL 1 rfl) g30 g31 g32 g33 g34 g35 g36 g37 g38 g39 c40) (by omega) rfl rfl (Nat.le_of_ble_eq_true rfl) dX12_behindOne_79 ?_
      rintro _ σ43 ⟨rfl, z45⟩ o42 r41
      have h := h _ o42 z45
      refine G_aload_n 3 rfl rfl dX12_behindOne_82 ?_
      obtain ⟨g46, g47, g48, c49, h⟩ := h
      refine G_callV (as := []) cf_X12_180 rfl rfl rfl (sp_X12_nextTokenK (d - 1) (by omega) _ o42  g46 g47 g48 c49) (by omega) rfl rfl (Nat.le_of_ble_eq_true rfl) dX12_behindOne_83 ?_
      rintro _ σ52 ⟨rfl, z54⟩ o51 r50
      have h := h _ o51 z54
      refine G_iload_n 0 rfl rfl dX12_behindOne_86 ?_
      refine G_if_ne (r24 _ rfl) dX12_behindOne_87 (tgt := 127) (by decide) (fun c55 => ?_) (fun c55 => ?_)
      · have h := h.1 c55
        refine G_aload_n 3 rfl rfl dX12_behindOne_127 ?_
        refine G_get (k := 15) (kd := (2, 79)) (v := aR 79) gf_X12_29 rfl rfl rfl rfl dX12_behindOne_128 ?_
        refine G_aload_n 3 rfl rfl dX12_behindOne_131 ?_
        obtain ⟨g56, c57, h⟩ := h
        refine G_callV (as := []) cf_X12_173 rfl rfl rfl (sp_X12_openAt (d - 1) (by omega) _ o51  g56 c57) (by omega) rfl rfl (Nat.le_of_ble_eq_true rfl) dX12_behindOne_132 ?_
        rintro _ σ60 ⟨u61, rfl, z62⟩ o59 r58
        have h := h _ _ (r58 _ rfl) o59 z62
        refine G_iload_n 0 rfl rfl dX12_behindOne_135 ?_
        obtain ⟨c63, h⟩ := h
        obtain ⟨σ64, e66⟩ : ∃ τ : Mem, τ = mset σ60 79 u61 u27 := ⟨_, rfl⟩
        have h := h σ64 e66
        have o65 : OKm σ64 := by rw [e66]; exact OKm.seti o59 _ _ _ (r24 _ rfl) (isLg_row (show shp 79 = (1, 160, []) from rfl) _)
        refine G_iast (n := 160) rfl c63.1 c63.2 dX12_behindOne_136 ?_
        rw [← e66]
        refine G_aload_n 3 rfl rfl dX12_behindOne_137 ?_
        refine G_iconst dX12_behindOne_138 ?_
        obtain ⟨σ67, e69⟩ : ∃ τ : Mem, τ = mset σ64 74 18 0 := ⟨_, rfl⟩
        have h := h σ67 e69
        have o68 : OKm σ67 := by rw [e69]; exact OKm.seti o65 _ _ _ (r01 (by decide)) rfl
        refine G_put (k := 18) (ki := 18) (kd := (5, 0)) (x := _) pf_X12_210 rfl rfl rfl rfl (fa_z (mset_self _ _ _ _)) (fun _ => narrow_b (by decide)) (fun _ => fits_b (by decide)) dX12_behindOne_139 ?_
        rw [← e69]
        refine G_iconst dX12_behindOne_142 ?_
        exact G_iret rfl (rL 0 rfl) dX12_behindOne_143 ⟨_, rfl, h⟩ o68
      · have h := h.2 c55
        refine G_aload_n 3 rfl rfl dX12_behindOne_90 ?_
        refine G_dup rfl dX12_behindOne_91 ?_
        refine G_get (k := 17) (kd := (0, 0)) (v := aI (σ52 74 17)) gf_X12_170 rfl rfl rfl rfl dX12_behindOne_92 ?_
        refine G_iconst dX12_behindOne_95 ?_
        refine G_isub dX12_behindOne_96 ?_
        obtain ⟨c71, h⟩ := h
        obtain ⟨σ70, e73⟩ : ∃ τ : Mem, τ = mset σ52 74 17 ((σ52 74 17) - 1) := ⟨_, rfl⟩
        have h := h σ70 e73
        have o72 : OKm σ70 := by rw [e73]; exact OKm.seti o51 _ _ _ c71 rfl
        refine G_put (k := 17) (ki := 17) (kd := (0, 0)) (x := _) pf_X12_170 rfl rfl rfl rfl (fa_i (mset_self _ _ _ _)) (fun _ => rfl) (fun _ => rfl) dX12_behindOne_97 ?_
        rw [← e73]
        refine G_aload_n 3 rfl rfl dX12_behindOne_100 ?_
        refine G_dup rfl dX12_behindOne_101 ?_
        refine G_get (k := 16) (kd := (0, 0)) (v := aI (σ70 74 16)) gf_X12_160 rfl rfl rfl rfl dX12_behindOne_102 ?_
        refine G_iconst dX12_behindOne_105 ?_
        refine G_isub dX12_behindOne_106 ?_
        obtain ⟨c75, h⟩ := h
        obtain ⟨σ74, e77⟩ : ∃ τ : Mem, τ = mset σ70 74 16 ((σ70 74 16) - 1) := ⟨_, rfl⟩
        have h := h σ74 e77
        have o76 : OKm σ74 := by rw [e77]; exact OKm.seti o72 _ _ _ c75 rfl
        refine G_put (k := 16) (ki := 16) (kd := (0, 0)) (x := _) pf_X12_160 rfl rfl rfl rfl (fa_i (mset_self _ _ _ _)) (fun _ => rfl) (fun _ => rfl) dX12_behindOne_107 ?_
        rw [← e77]
        refine G_iload_n 1 rfl rfl dX12_behindOne_110 ?_
        refine G_bipush (by decide) dX12_behindOne_111 ?_
        refine G_icmp_ne (r14 _ rfl) (rL 44 rfl) dX12_behindOne_113 (tgt := 122) (by decide) (fun c78 => ?_) (fun c78 => ?_)
        · have h := h.1 c78
          refine G_aload_n 3 rfl rfl dX12_behindOne_122 ?_
          obtain ⟨g79, g80, g81, g82, g83, g84, g85, g86, g87, g88, c89, h⟩ := h
          refine G_callV (as := []) cf_X12_189 rfl rfl rfl (sp_X12_endOne (d - 1) (by omega) _ o76  g79 g80 g81 g82 g83 g84 g85 g86 g87 g88 c89) (by omega) rfl rfl (Nat.le_of_ble_eq_true rfl) dX12_behindOne_123 ?_
          rintro _ σ92 ⟨u93, rfl, z94⟩ o91 r90
          have h := h _ _ (r90 _ rfl) o91 z94
          exact G_iret rfl (r90 _ rfl) dX12_behindOne_126 ⟨_, rfl, h⟩ o91
        · have h := h.2 c78
          refine G_aload_n 3 rfl rfl dX12_behindOne_116 ?_
          refine G_iconst dX12_behindOne_117 ?_
          refine G_iconst dX12_behindOne_118 ?_
          obtain ⟨c95, h⟩ := h
          refine G_callV (as := [_, _]) cf_X12_166 rfl rfl rfl (sp_X12_emit (d - 1) (by omega) _ o76 _ (rL 3 rfl) _ (rL 0 rfl) c95) (by omega) rfl rfl (Nat.le_of_ble_eq_true rfl) dX12_behindOne_119 ?_
          rintro _ σ98 ⟨rfl, e99⟩ o97 r96
          have h := h σ98 e99
          refine G_aload_n 3 rfl rfl dX12_behindOne_122 ?_
          obtain ⟨g100, g101, g102, g103, g104, g105, g106, g107, g108, g109, c110, h⟩ := h
          refine G_callV (as := []) cf_X12_189 rfl rfl rfl (sp_X12_endOne (d - 1) (by omega) _ o97  g100 g101 g102 g103 g104 g105 g106 g107 g108 g109 c110) (by omega) rfl rfl (Nat.le_of_ble_eq_true rfl) dX12_behindOne_123 ?_
          rintro _ σ113 ⟨u114, rfl, z115⟩ o112 r111
          have h := h _ _ (r111 _ rfl) o112 z115
          exact G_iret rfl (r111 _ rfl) dX12_behindOne_126 ⟨_, rfl, h⟩ o112
    · have h := h.2 c29
      refine G_iconst dX12_behindOne_75 ?_
      exact G_iret rfl (rL (-1) rfl) dX12_behindOne_76 ⟨_, rfl, h⟩ o25
  · have h := h.2 c11
    refine G_aload_n 1 rfl rfl dX12_behindOne_9 ?_
    refine G_iload_n 0 rfl rfl dX12_behindOne_10 ?_
    refine G_callS (as := [_]) cf_X12_163 rfl (sp_X12_rank (d - 1) (by omega) _ o7 _ (r6 _ rfl)) (by omega) rfl rfl (Nat.le_of_ble_eq_true rfl) dX12_behindOne_11 ?_
    rintro _ _ ⟨_, rfl, rfl, rfl⟩ o117 r116
    refine G_iconst dX12_behindOne_14 ?_
    refine G_icmp_ne (r116 _ rfl) (rL 4 rfl) dX12_behindOne_15 (tgt := 22) (by decide) (fun c118 => ?_) (fun c118 => ?_)
    · have h := h.1 c118
      refine G_iload_n 0 rfl rfl dX12_behindOne_22 ?_
      refine G_callS (as := [_]) cf_X12_163 rfl (sp_X12_rank (d - 1) (by omega) _ o7 _ (r6 _ rfl)) (by omega) rfl rfl (Nat.le_of_ble_eq_true rfl) dX12_behindOne_23 ?_
      rintro _ _ ⟨_, rfl, rfl, rfl⟩ o120 r119
      obtain ⟨g121, g122, g123, g124, g125, g126, g127, g128, g129, g130, c131, h⟩ := h
      refine G_callV (as := [_]) cf_X12_207 rfl rfl rfl (sp_X12_settle (d - 1) (by omega) _ o7 _ (r119 _ rfl) g121 g122 g123 g124 g125 g126 g127 g128 g129 g130 c131) (by omega) rfl rfl (Nat.le_of_ble_eq_true rfl) dX12_behindOne_26 ?_
      rintro _ σ134 ⟨rfl, z136⟩ o133 r132
      have h := h _ o133 z136
      refine G_aload_n 1 rfl rfl dX12_behindOne_29 ?_
      refine G_get (k := 15) (kd := (2, 79)) (v := aR 79) gf_X12_29 rfl rfl rfl rfl dX12_behindOne_30 ?_
      refine G_aload_n 1 rfl rfl dX12_behindOne_33 ?_
      refine G_get (k := 16) (kd := (0, 0)) (v := aI (σ134 74 16)) gf_X12_160 rfl rfl rfl rfl dX12_behindOne_34 ?_
      refine G_iload_n 0 rfl rfl dX12_behindOne_37 ?_
      obtain ⟨c137, h⟩ := h
      obtain ⟨σ138, e140⟩ : ∃ τ : Mem, τ = mset σ134 79 (σ134 74 16) u9 := ⟨_, rfl⟩
      have h := h σ138 e140
      have o139 : OKm σ138 := by rw [e140]; exact OKm.seti o133 _ _ _ (r6 _ rfl) (isLg_row (show shp 79 = (1, 160, []) from rfl) _)
      refine G_iast (n := 160) rfl c137.1 c137.2 dX12_behindOne_38 ?_
      rw [← e140]
      refine G_aload_n 1 rfl rfl dX12_behindOne_39 ?_
      refine G_dup rfl dX12_behindOne_40 ?_
      refine G_get (k := 16) (kd := (0, 0)) (v := aI (σ138 74 16)) gf_X12_160 rfl rfl rfl rfl dX12_behindOne_41 ?_
      refine G_iconst dX12_behindOne_44 ?_
      refine G_iadd dX12_behindOne_45 ?_
      obtain ⟨c142, h⟩ := h
      obtain ⟨σ141, e144⟩ : ∃ τ : Mem, τ = mset σ138 74 16 ((σ138 74 16) + 1) := ⟨_, rfl⟩
      have h := h σ141 e144
      have o143 : OKm σ141 := by rw [e144]; exact OKm.seti o139 _ _ _ c142 rfl
      refine G_put (k := 16) (ki := 16) (kd := (0, 0)) (x := _) pf_X12_160 rfl rfl rfl rfl (fa_i (mset_self _ _ _ _)) (fun _ => rfl) (fun _ => rfl) dX12_behindOne_46 ?_
      rw [← e144]
      refine G_aload_n 1 rfl rfl dX12_behindOne_49 ?_
      refine G_iconst dX12_behindOne_50 ?_
      obtain ⟨σ145, e147⟩ : ∃ τ : Mem, τ = mset σ141 74 18 0 := ⟨_, rfl⟩
      have h := h σ145 e147
      have o146 : OKm σ145 := by rw [e147]; exact OKm.seti o143 _ _ _ (r01 (by decide)) rfl
      refine G_put (k := 18) (ki := 18) (kd := (5, 0)) (x := _) pf_X12_210 rfl rfl rfl rfl (fa_z (mset_self _ _ _ _)) (fun _ => narrow_b (by decide)) (fun _ => fits_b (by decide)) dX12_behindOne_51 ?_
      rw [← e147]
      refine G_aload_n 1 rfl rfl dX12_behindOne_54 ?_
      obtain ⟨g148, g149, g150, c151, h⟩ := h
      refine G_callV (as := []) cf_X12_180 rfl rfl rfl (sp_X12_nextTokenK (d - 1) (by omega) _ o146  g148 g149 g150 c151) (by omega) rfl rfl (Nat.le_of_ble_eq_true rfl) dX12_behindOne_55 ?_
      rintro _ σ154 ⟨rfl, z156⟩ o153 r152
      have h := h _ o153 z156
      refine G_iconst dX12_behindOne_58 ?_
      exact G_iret rfl (rL 0 rfl) dX12_behindOne_59 ⟨_, rfl, h⟩ o153
    · have h := h.2 c118
      refine G_iconst dX12_behindOne_18 ?_
      refine G_goto (tgt := 26) dX12_behindOne_19 (by decide) ?_
      obtain ⟨g157, g158, g159, g160, g161, g162, g163, g164, g165, g166, c167, h⟩ := h
      refine G_callV (as := [_]) cf_X12_207 rfl rfl rfl (sp_X12_settle (d - 1) (by omega) _ o7 _ (rL 5 rfl) g157 g158 g159 g160 g161 g162 g163 g164 g165 g166 c167) (by omega) rfl rfl (Nat.le_of_ble_eq_true rfl) dX12_behindOne_26 ?_
      rintro _ σ170 ⟨rfl, z172⟩ o169 r168
      have h := h _ o169 z172
      refine G_aload_n 1 rfl rfl dX12_behindOne_29 ?_
      refine G_get (k := 15) (kd := (2, 79)) (v := aR 79) gf_X12_29 rfl rfl rfl rfl dX12_behindOne_30 ?_
      refine G_aload_n 1 rfl rfl dX12_behindOne_33 ?_
      refine G_get (k := 16) (kd := (0, 0)) (v := aI (σ170 74 16)) gf_X12_160 rfl rfl rfl rfl dX12_behindOne_34 ?_
      refine G_iload_n 0 rfl rfl dX12_behindOne_37 ?_
      obtain ⟨c173, h⟩ := h
      obtain ⟨σ174, e176⟩ : ∃ τ : Mem, τ = mset σ170 79 (σ170 74 16) u9 := ⟨_, rfl⟩
      have h := h σ174 e176
      have o175 : OKm σ174 := by rw [e176]; exact OKm.seti o169 _ _ _ (r6 _ rfl) (isLg_row (show shp 79 = (1, 160, []) from rfl) _)
      refine G_iast (n := 160) rfl c173.1 c173.2 dX12_behindOne_38 ?_
      rw [← e176]
      refine G_aload_n 1 rfl rfl dX12_behindOne_39 ?_
      refine G_dup rfl dX12_behindOne_40 ?_
      refine G_get (k := 16) (kd := (0, 0)) (v := aI (σ174 74 16)) gf_X12_160 rfl rfl rfl rfl dX12_behindOne_41 ?_
      refine G_iconst dX12_behindOne_44 ?_
      refine G_iadd dX12_behindOne_45 ?_
      obtain ⟨c178, h⟩ := h
      obtain ⟨σ177, e180⟩ : ∃ τ : Mem, τ = mset σ174 74 16 ((σ174 74 16) + 1) := ⟨_, rfl⟩
      have h := h σ177 e180
      have o179 : OKm σ177 := by rw [e180]; exact OKm.seti o175 _ _ _ c178 rfl
      refine G_put (k := 16) (ki := 16) (kd := (0, 0)) (x := _) pf_X12_160 rfl rfl rfl rfl (fa_i (mset_self _ _ _ _)) (fun _ => rfl) (fun _ => rfl) dX12_behindOne_46 ?_
      rw [← e180]
      refine G_aload_n 1 rfl rfl dX12_behindOne_49 ?_
      refine G_iconst dX12_behindOne_50 ?_
      obtain ⟨σ181, e183⟩ : ∃ τ : Mem, τ = mset σ177 74 18 0 := ⟨_, rfl⟩
      have h := h σ181 e183
      have o182 : OKm σ181 := by rw [e183]; exact OKm.seti o179 _ _ _ (r01 (by decide)) rfl
      refine G_put (k := 18) (ki := 18) (kd := (5, 0)) (x := _) pf_X12_210 rfl rfl rfl rfl (fa_z (mset_self _ _ _ _)) (fun _ => narrow_b (by decide)) (fun _ => fits_b (by decide)) dX12_behindOne_51 ?_
      rw [← e183]
      refine G_aload_n 1 rfl rfl dX12_behindOne_54 ?_
      obtain ⟨g184, g185, g186, c187, h⟩ := h
      refine G_callV (as := []) cf_X12_180 rfl rfl rfl (sp_X12_nextTokenK (d - 1) (by omega) _ o182  g184 g185 g186 c187) (by omega) rfl rfl (Nat.le_of_ble_eq_true rfl) dX12_behindOne_55 ?_
      rintro _ σ190 ⟨rfl, z192⟩ o189 r188
      have h := h _ o189 z192
      refine G_iconst dX12_behindOne_58 ?_
      exact G_iret rfl (rL 0 rfl) dX12_behindOne_59 ⟨_, rfl, h⟩ o189

theorem sp_X12_behindOne (d : Nat) (hd : 4 ≤ d) (σ : Mem) (hO : OKm σ) (z0 : Mem) (b : Int → Int) (N : Int) (ti : Int) (lw : Int) (a : Int) (p : List Int) (o : Int) (i : Nat) (k : SK) (hpre : tkM σ b N i ∧ mC z0 ti lw a σ p o i k ∧ p.length ≤ 120) : Mt yX12_behindOne cX12_behindOne 4 (some .int) d [aR (74)] σ (QI (fun v σ' => (v = -1 ∧ btw (kd b N i) p < 0 ∧ prt (kd b N i) p < 0 ∧ σ' = σ) ∨ ((0 ≤ btw (kd b N i) p ∨ 0 ≤ prt (kd b N i) p) ∧ stP z0 b N ti lw a σ' v (fun Z Fl => ∃ Dn, behP (kd b N) Z Fl Dn p o i k)))) := mt_X12_behindOne hd  hO (by
  unfold wp_X12_behindOne
  obtain ⟨ht, hm, hl⟩ := hpre
  have hpc := hm.plc (by omega)
  have w := hm.w
  have ho := hm.2.2.2.2.2.1
  refine ⟨b, N, p, i, ⟨ht, hpc⟩, fun u9 σ8 _ _ h => ?_⟩
  obtain ⟨e9, e8⟩ := h
  rw [e8, e9]
  refine ⟨fun hneg => ?_, fun h0 => ?_⟩
  · refine ⟨p, hpc, fun u17 σ16 _ _ h => ?_⟩
    obtain ⟨e17, e16⟩ := h
    rw [e16]
    refine ⟨b, N, p, i, ⟨ht, hpc, e17⟩, fun u27 σ26 _ _ h => ?_⟩
    obtain ⟨e27, e26⟩ := h
    rw [e26, e27]
    refine ⟨fun p0 => ?_, fun pn => .inl ⟨rfl, hneg, pn, rfl⟩⟩
    have hk : kd b N i ≠ 43 := fun q => by rw [q, prt_43] at p0; omega
    have h3 := kd_300 ht hk
    have hop := prt_op p0
    refine ⟨z0, b, N, ti, lw, a, p, o, i, k, ⟨ht, hm, by omega⟩, fun σ43 _ h => ?_⟩
    obtain ⟨g1, g2, g3⟩ := h
    have hlo := stl_lowR (m := 1) p o k
    have hln := stl_len (m := 1) p o k
    have hop2 : opP p = opP (stlS 1 p o k).1 := opP_stl (by omega) (show stlS 1 p o k = ((stlS 1 p o k).1, (stlS 1 p o k).2.1, (stlS 1 p o k).2.2) from rfl)
    generalize hS : stlS 1 p o k = S at g2 hlo hln hop2
    obtain ⟨p', o', k'⟩ := S
    dsimp only at g2 hlo hln hop2
    cases p' with
    | nil => exact absurd hop2 (by show ¬ opP p = (-1 : Int); omega)
    | cons x r =>
      have hx : 40 ≤ x := rank_0 (hlo x r rfl)
      have hx2 : opP p = x := by rw [hop2]; show (if 40 ≤ x then x else opP r) = x; rw [if_pos hx]
      refine ⟨b, N, i, g1, fun σ52 _ h => ?_⟩
      obtain ⟨q1, q2, q3⟩ := h
      have m52 := g2.next (b := b) (N := N) (m := i + 1) (by omega) q2 q3
      have c16 : σ52 74 16 = (r.length : Int) + 1 := by have := m52.2.2.1; simp at this; exact this
      have c17 : σ52 74 17 = o' := m52.2.2.2.2.1
      have ho2 := m52.2.2.2.2.2.1
      have w2 := m52.w
      simp at hln ho2 w2
      refine ⟨fun pz => ⟨x :: r, m52.plc (by simp; omega), fun u61 σ60 _ _ h => ?_⟩, fun pz => ?_⟩
      · obtain ⟨e61, e60⟩ := h
        rw [e60, e61, show opI (x :: r) = (r.length : Int) from by show (if 40 ≤ x then _ else _) = _; rw [if_pos hx]]
        refine ⟨by omega, fun σ64 e64 σ67 e67 => .inr ⟨.inr p0, ?_⟩⟩
        refine stP.Z (p := prt (kd b N i) p :: r) (o := o') (w := false) (i := i + 1) (k := k') rfl (fun Z Fl hB => ?_) ?_ ?_ (by rw [e67, mset_hit rfl]; rfl)
        · obtain ⟨Dn, hB⟩ := hB
          unfold behP at hB; rw [if_neg (by omega), if_neg (by omega), if_neg pz, hS] at hB; exact hB
        · rw [e67, e64]; exact (q1.set (by omega) (fun q => by omega)).set (by omega) (fun _ => by omega)
        · rw [e67]
          refine mC.set18 (m52.keep (by rw [e64, mset_off (by omega)]; rw [c16]; simp) ⟨by rw [e64, mset_hit rfl], m52.2.2.2.1.2.congr (fun j z1 z2 => by rw [e64, mset_miss (by omega)])⟩ (by rw [e64, mset_off (by omega)]; exact c17) (by simp; omega) (by simp; omega) (fun j q => by rw [e64, mset_off (by omega)]) (by rw [e64]; exact (Fr.rf _ _).set (by simp)))
      · rw [c17]
        refine ⟨by unfold R32; omega, fun σ70 e70 => ?_⟩
        have d16 : σ70 74 16 = (r.length : Int) + 1 := by rw [e70, mset_miss (by omega)]; exact c16
        rw [d16]
        refine ⟨by unfold R32; omega, fun σ74 e74 => ?_⟩
        have t74 : tkM σ74 b N (i + 1) := by rw [e74, e70]; exact (q1.set (by omega) (fun _ => by omega)).set (by omega) (fun _ => by omega)
        have m74 : mC z0 ti lw a σ74 r (o' - 1) (i + 1) k' := m52.keep (by rw [e74, mset_hit rfl]; omega) (m52.2.2.2.1.2.congr (fun j z1 z2 => by rw [e74, mset_off (by omega), e70, mset_off (by omega)])) (by rw [e74, mset_miss (by omega), e70, mset_hit rfl]) (by simp; omega) (by omega) (fun j q => by rw [e74, mset_miss (by omega), e70, mset_miss (by omega)]) (by rw [e74, e70]; exact ((Fr.rf _ _).set (by simp)).set (by simp))
        have c13 : σ74 74 13 = σ52 74 13 := by rw [e74, mset_miss (by omega), e70, mset_miss (by omega)]
        refine ⟨fun n44 => ⟨z0, b, N, ti, lw, a, r, o' - 1, i + 1, k', ⟨t74, m74, by omega⟩, fun u93 σ92 _ _ hst => .inr ⟨.inr p0, hst.mono (fun Z Fl hB => ?_)⟩⟩, fun y44 => ?_⟩
        · obtain ⟨Dn, hB⟩ := hB
          unfold behP at hB; rw [if_neg (by omega), if_neg (by omega), if_pos pz, hS, if_neg (show ¬ opP p = 44 by omega)] at hB; exact hB
        · have s12 : σ74 74 12 = 729 * ti := m74.1.2.2
          have t12 := m74.1
          have w74 := m74.w
          rw [s12]
          refine ⟨by omega, fun σ98 e98 => ⟨z0, b, N, ti, lw, a, r, o' - 1, i + 1, em 3 0 k', ⟨t74.emitE e98, m74.emitE (m := i + 1) (by omega) e98 (fun q => absurd q (by decide)) (fun q => absurd q (by decide)), by omega⟩, fun u σ113 _ _ hst => .inr ⟨.inr p0, hst.mono (fun Z Fl hB => ?_)⟩⟩⟩
          obtain ⟨Dn, hB⟩ := hB
          unfold behP at hB; rw [if_neg (by omega), if_neg (by omega), if_pos pz, hS, if_pos (show opP p = 44 by omega)] at hB; exact hB
  · have hk : kd b N i ≠ 43 := fun q => by rw [q, btw_43] at h0; omega
    have h3 := kd_300 ht hk
    refine ⟨fun h4 => ⟨z0, b, N, ti, lw, a, p, o, i, k, ⟨ht, hm, by omega⟩, fun σ134 _ h => ?_⟩, fun h4 => ⟨z0, b, N, ti, lw, a, p, o, i, k, ⟨ht, hm, by omega⟩, fun σ134 _ h => ?_⟩⟩
    · obtain ⟨g1, g2, g3⟩ := h
      have l := stl_len (m := rankS (btw (kd b N i) p)) p o k
      have c16 := g2.2.2.1
      refine ⟨by omega, fun σ138 e138 => ⟨by rw [e138, mset_off (by omega)]; unfold R32; omega, fun σ141 e141 σ145 e145 => ⟨b, N, i, ?_, fun σ154 _ h => ?_⟩⟩⟩
      · rw [e145, e141, e138]; exact ((g1.set (by omega) (fun q => by omega)).set (by omega) (fun _ => by omega)).set (by omega) (fun _ => by omega)
      · obtain ⟨q1, q2, q3⟩ := h
        refine .inr ⟨.inl h0, stP.Z (w := false) (i := i + 1) rfl (fun Z Fl hB => ?_) q1 ((g2.push h3 e138 e141 e145).next (b := b) (N := N) (by omega) q2 q3) (by rw [q2 18 (by omega) (by omega) (by omega) (by omega) (by omega), e145, mset_hit rfl]; rfl)⟩
        obtain ⟨Dn, hB⟩ := hB
        unfold behP at hB; rw [if_pos h0, if_neg h4] at hB; exact hB
    · obtain ⟨g1, g2, g3⟩ := h
      have l := stl_len (m := 5) p o k
      have c16 := g2.2.2.1
      refine ⟨by omega, fun σ138 e138 => ⟨by rw [e138, mset_off (by omega)]; unfold R32; omega, fun σ141 e141 σ145 e145 => ⟨b, N, i, ?_, fun σ154 _ h => ?_⟩⟩⟩
      · rw [e145, e141, e138]; exact ((g1.set (by omega) (fun q => by omega)).set (by omega) (fun _ => by omega)).set (by omega) (fun _ => by omega)
      · obtain ⟨q1, q2, q3⟩ := h
        refine .inr ⟨.inl h0, stP.Z (w := false) (i := i + 1) rfl (fun Z Fl hB => ?_) q1 ((g2.push h3 e138 e141 e145).next (b := b) (N := N) (by omega) q2 q3) (by rw [q2 18 (by omega) (by omega) (by omega) (by omega) (by omega), e145, mset_hit rfl]; rfl)⟩
        obtain ⟨Dn, hB⟩ := hB
        unfold behP at hB; rw [if_pos h0, if_pos h4] at hB; exact hB)

def wp_X12_beginOne  (σ : Mem) (Q : Int → Mem → Prop) : Prop :=
 ∀ P20 : Mem → Prop,
 ∀ P39 : Int → Mem → Prop,
 ∀ P51 : Int → Mem → Prop,
 (∀  (σ : Mem), (OKm σ →
   (((nmS (σ 74 9) (σ 74 11)) < 0) →
     P39 (nmS (σ 74 9) (σ 74 11)) σ) ∧
    ((0 ≤ (nmS (σ 74 9) (σ 74 11))) →
     (((nmS (σ 74 9) (σ 74 11)) < 5 ∨ ((nmS (σ 74 9) (σ 74 11)) < 8 ∧ σ 74 14 = 0) ∨ (8 ≤ (nmS (σ 74 9) (σ 74 11)) ∧ σ 74 14 = 1)) →
      P39 (nmS (σ 74 9) (σ 74 11)) σ) ∧
     ((¬ ((nmS (σ 74 9) (σ 74 11)) < 5 ∨ ((nmS (σ 74 9) (σ 74 11)) < 8 ∧ σ 74 14 = 0) ∨ (8 ≤ (nmS (σ 74 9) (σ 74 11)) ∧ σ 74 14 = 1))) →
      Q 5 σ))) → P20  σ) →
 (∀ (v1 : Int) (σ : Mem), (R32 v1 → OKm σ →
   (((σ 74 9) = 1) →
     P51 v1 σ) ∧
    (((σ 74 9) ≠ 1) →
     ((v1 < 0) →
      (((σ 74 9) ≠ 40) →
       (((σ 74 9) ≠ 45) →
        ((0 ≤ (99 : Int) ∧ (99 : Int) < 256) ∧ (0 ≤ (111 : Int) ∧ (111 : Int) < 256) ∧ (0 ≤ (109 : Int) ∧ (109 : Int) < 256) ∧ (0 ≤ (109 : Int) ∧ (109 : Int) < 256) ∧ (0 ≤ (111 : Int) ∧ (111 : Int) < 256) ∧ (0 ≤ (110 : Int) ∧ (110 : Int) < 256)) ∧
        ((¬ (σ 74 9 = 2 ∧ σ 74 11 = ((((((99 : Int) * 256 + (111 : Int)) * 256 + (109 : Int)) * 256 + (109 : Int)) * 256 + (111 : Int)) * 256 + (110 : Int)))) →
         ((0 ≤ (114 : Int) ∧ (114 : Int) < 256) ∧ (0 ≤ (111 : Int) ∧ (111 : Int) < 256) ∧ (0 ≤ (97 : Int) ∧ (97 : Int) < 256) ∧ (0 ≤ (100 : Int) ∧ (100 : Int) < 256) ∧ (0 ≤ (115 : Int) ∧ (115 : Int) < 256)) ∧
         ((¬ (σ 74 9 = 2 ∧ σ 74 11 = (((((114 : Int) * 256 + (111 : Int)) * 256 + (97 : Int)) * 256 + (100 : Int)) * 256 + (115 : Int)))) →
          ((0 ≤ (105 : Int) ∧ (105 : Int) < 256) ∧ (0 ≤ (102 : Int) ∧ (102 : Int) < 256)) ∧
          ((¬ (σ 74 9 = 2 ∧ σ 74 11 = ((105 : Int) * 256 + (102 : Int)))) →
           ((0 ≤ (110 : Int) ∧ (110 : Int) < 256) ∧ (0 ≤ (111 : Int) ∧ (111 : Int) < 256) ∧ (0 ≤ (116 : Int) ∧ (116 : Int) < 256)) ∧
           ((¬ (σ 74 9 = 2 ∧ σ 74 11 = (((110 : Int) * 256 + (111 : Int)) * 256 + (116 : Int)))) →
            Q 1 σ) ∧
           ((σ 74 9 = 2 ∧ σ 74 11 = (((110 : Int) * 256 + (111 : Int)) * 256 + (116 : Int))) →
            ∃ g37 : List Int, (plC σ g37) ∧
            ∀ (u42 : Int) (σ41 : Mem), R32 u42 → OKm σ41 → ((u42 = 1 ∧ askA g37 = true ∨ u42 = 0 ∧ askA g37 = false) ∧ σ41 = σ) →
            ((u42 = 0) →
             Q 1 σ41) ∧
            ((u42 ≠ 0) →
             ∃ g45 : Mem, ∃ g46 : Int → Int, ∃ g47 : Int, ∃ g48 : Int, ∃ g49 : Int, ∃ g50 : Int, ∃ g51 : List Int, ∃ g52 : Int, ∃ g53 : Nat, ∃ g54 : SK, (tkM σ41 g46 g47 g53 ∧ mC g45 g48 g49 g50 σ41 g51 g52 g53 g54 ∧ kd g46 g47 g53 ≠ 43 ∧ g51.length ≤ 120) ∧
             ∀ (u59 : Int) (σ58 : Mem), R32 u59 → OKm σ58 → ((g52 = 8 ∧ u59 = 3 ∧ σ58 = σ41) ∨ (g52 ≠ 8 ∧ u59 = 0 ∧ tkM σ58 g46 g47 (g53 + 1) ∧ mC g45 g48 g49 g50 σ58 ((20 : Int) :: g51) (g52 + 1) (g53 + 1) g54 ∧ σ58 74 18 = σ41 74 18)) →
             Q u59 σ58))) ∧
          ((σ 74 9 = 2 ∧ σ 74 11 = ((105 : Int) * 256 + (102 : Int))) →
           ∃ g61 : Mem, ∃ g62 : Int → Int, ∃ g63 : Int, ∃ g64 : Int, ∃ g65 : Int, ∃ g66 : Int, ∃ g67 : List Int, ∃ g68 : Int, ∃ g69 : Nat, ∃ g70 : SK, (tkM σ g62 g63 g69 ∧ mC g61 g64 g65 g66 σ g67 g68 g69 g70 ∧ kd g62 g63 g69 ≠ 43 ∧ g67.length ≤ 120) ∧
           ∀ (u75 : Int) (σ74 : Mem), R32 u75 → OKm σ74 → ((g68 = 8 ∧ u75 = 3 ∧ σ74 = σ) ∨ (g68 ≠ 8 ∧ u75 = 0 ∧ tkM σ74 g62 g63 (g69 + 1) ∧ mC g61 g64 g65 g66 σ74 ((42 : Int) :: g67) (g68 + 1) (g69 + 1) g70 ∧ σ74 74 18 = σ 74 18)) →
           Q u75 σ74)) ∧
         ((σ 74 9 = 2 ∧ σ 74 11 = (((((114 : Int) * 256 + (111 : Int)) * 256 + (97 : Int)) * 256 + (100 : Int)) * 256 + (115 : Int))) →
          ∃ g77 : Mem, ∃ g78 : Int → Int, ∃ g79 : Int, ∃ g80 : Int, ∃ g81 : Int, ∃ g82 : Int, ∃ g83 : List Int, ∃ g84 : Int, ∃ g85 : Nat, ∃ g86 : SK, (tkM σ g78 g79 g85 ∧ mC g77 g80 g81 g82 σ g83 g84 g85 g86 ∧ kd g78 g79 g85 ≠ 43 ∧ g83.length ≤ 120) ∧
          ∀ (u91 : Int) (σ90 : Mem), R32 u91 → OKm σ90 → ((g84 = 8 ∧ u91 = 3 ∧ σ90 = σ) ∨ (g84 ≠ 8 ∧ u91 = 0 ∧ tkM σ90 g78 g79 (g85 + 1) ∧ mC g77 g80 g81 g82 σ90 ((2 : Int) :: g83) (g84 + 1) (g85 + 1) g86 ∧ σ90 74 18 = σ 74 18)) →
          Q u91 σ90)) ∧
        ((σ 74 9 = 2 ∧ σ 74 11 = ((((((99 : Int) * 256 + (111 : Int)) * 256 + (109 : Int)) * 256 + (109 : Int)) * 256 + (111 : Int)) * 256 + (110 : Int))) →
         ∃ g93 : Mem, ∃ g94 : Int → Int, ∃ g95 : Int, ∃ g96 : Int, ∃ g97 : Int, ∃ g98 : Int, ∃ g99 : List Int, ∃ g100 : Int, ∃ g101 : Nat, ∃ g102 : SK, (tkM σ g94 g95 g101 ∧ mC g93 g96 g97 g98 σ g99 g100 g101 g102 ∧ kd g94 g95 g101 ≠ 43 ∧ g99.length ≤ 120) ∧
         ∀ (u107 : Int) (σ106 : Mem), R32 u107 → OKm σ106 → ((g100 = 8 ∧ u107 = 3 ∧ σ106 = σ) ∨ (g100 ≠ 8 ∧ u107 = 0 ∧ tkM σ106 g94 g95 (g101 + 1) ∧ mC g93 g96 g97 g98 σ106 ((41 : Int) :: g99) (g100 + 1) (g101 + 1) g102 ∧ σ106 74 18 = σ 74 18)) →
         Q u107 σ106)) ∧
       (((σ 74 9) = 45) →
        ∃ g109 : Mem, ∃ g110 : Int → Int, ∃ g111 : Int, ∃ g112 : Int, ∃ g113 : Int, ∃ g114 : Int, ∃ g115 : List Int, ∃ g116 : Int, ∃ g117 : Nat, ∃ g118 : SK, (tkM σ g110 g111 g117 ∧ mC g109 g112 g113 g114 σ g115 g116 g117 g118 ∧ kd g110 g111 g117 ≠ 43 ∧ g115.length ≤ 120) ∧
        ∀ (u123 : Int) (σ122 : Mem), R32 u123 → OKm σ122 → ((g116 = 8 ∧ u123 = 3 ∧ σ122 = σ) ∨ (g116 ≠ 8 ∧ u123 = 0 ∧ tkM σ122 g110 g111 (g117 + 1) ∧ mC g109 g112 g113 g114 σ122 ((5 : Int) :: g115) (g116 + 1) (g117 + 1) g118 ∧ σ122 74 18 = σ 74 18)) →
        Q u123 σ122)) ∧
      (((σ 74 9) = 40) →
       ∃ g125 : Mem, ∃ g126 : Int → Int, ∃ g127 : Int, ∃ g128 : Int, ∃ g129 : Int, ∃ g130 : Int, ∃ g131 : List Int, ∃ g132 : Int, ∃ g133 : Nat, ∃ g134 : SK, (tkM σ g126 g127 g133 ∧ mC g125 g128 g129 g130 σ g131 g132 g133 g134 ∧ kd g126 g127 g133 ≠ 43 ∧ g131.length ≤ 120) ∧
       ∀ (u139 : Int) (σ138 : Mem), R32 u139 → OKm σ138 → ((g132 = 8 ∧ u139 = 3 ∧ σ138 = σ) ∨ (g132 ≠ 8 ∧ u139 = 0 ∧ tkM σ138 g126 g127 (g133 + 1) ∧ mC g125 g128 g129 g130 σ138 ((40 : Int) :: g131) (g132 + 1) (g133 + 1) g134 ∧ σ138 74 18 = σ 74 18)) →
       Q u139 σ138)) ∧
     ((0 ≤ v1) →
      P51 v1 σ))) → P39 v1 σ) →
 (∀ (v1 : Int) (σ : Mem), (R32 v1 → OKm σ →
   (((σ 74 9) ≠ 1) →
     (((σ 74 9) ≠ 1) →
      (0 ≤ σ 74 12 ∧ σ 74 12 ≤ 2187 ∧ 0 ≤ σ 74 13 ∧ σ 74 13 ≤ 303) ∧
      ∀ σ146 : Mem, σ146 = (mset (mset (mset σ 77 (σ 74 12 + 121 + 2 * σ 74 13) (1 : Int)) 77 (σ 74 12 + 121 + 2 * σ 74 13 + 1) v1) 74 13 (σ 74 13 + 1)) →
      ∃ g148 : Int → Int, ∃ g149 : Int, ∃ g150 : Nat, (tkM σ146 g148 g149 g150) ∧
      ∀ σ154 : Mem, OKm σ154 → (tkM σ154 g148 g149 (g150 + 1) ∧ (∀ j : Int, j ≠ 7 → j ≠ 8 → j ≠ 9 → j ≠ 10 → j ≠ 11 → σ154 74 j = σ146 74 j) ∧ Fr [74] σ146 σ154) →
      ∃ g157 : Mem, ∃ g158 : Int → Int, ∃ g159 : Int, ∃ g160 : Int, ∃ g161 : Int, ∃ g162 : Int, ∃ g163 : List Int, ∃ g164 : Int, ∃ g165 : Nat, ∃ g166 : SK, (tkM σ154 g158 g159 g165 ∧ mC g157 g160 g161 g162 σ154 g163 g164 g165 g166 ∧ g163.length ≤ 160) ∧
      ∀ (u171 : Int) (σ170 : Mem), R32 u171 → OKm σ170 → (stP g157 g158 g159 g160 g161 g162 σ170 u171 (fun Z Fl => eo (kd g158 g159) Z Fl g163 g164 g165 g166)) →
      Q u171 σ170) ∧
     (((σ 74 9) = 1) →
      (0 ≤ σ 74 12 ∧ σ 74 12 ≤ 2187 ∧ 0 ≤ σ 74 13 ∧ σ 74 13 ≤ 303) ∧
      ∀ σ176 : Mem, σ176 = (mset (mset (mset σ 77 (σ 74 12 + 121 + 2 * σ 74 13) (1 : Int)) 77 (σ 74 12 + 121 + 2 * σ 74 13 + 1) (σ 74 10)) 74 13 (σ 74 13 + 1)) →
      ∃ g178 : Int → Int, ∃ g179 : Int, ∃ g180 : Nat, (tkM σ176 g178 g179 g180) ∧
      ∀ σ184 : Mem, OKm σ184 → (tkM σ184 g178 g179 (g180 + 1) ∧ (∀ j : Int, j ≠ 7 → j ≠ 8 → j ≠ 9 → j ≠ 10 → j ≠ 11 → σ184 74 j = σ176 74 j) ∧ Fr [74] σ176 σ184) →
      ∃ g187 : Mem, ∃ g188 : Int → Int, ∃ g189 : Int, ∃ g190 : Int, ∃ g191 : Int, ∃ g192 : Int, ∃ g193 : List Int, ∃ g194 : Int, ∃ g195 : Nat, ∃ g196 : SK, (tkM σ184 g188 g189 g195 ∧ mC g187 g190 g191 g192 σ184 g193 g194 g195 g196 ∧ g193.length ≤ 160) ∧
      ∀ (u201 : Int) (σ200 : Mem), R32 u201 → OKm σ200 → (stP g187 g188 g189 g190 g191 g192 σ200 u201 (fun Z Fl => eo (kd g188 g189) Z Fl g193 g194 g195 g196)) →
      Q u201 σ200)) ∧
    (((σ 74 9) = 1) →
     (((σ 74 9) ≠ 1) →
      (0 ≤ σ 74 12 ∧ σ 74 12 ≤ 2187 ∧ 0 ≤ σ 74 13 ∧ σ 74 13 ≤ 303) ∧
      ∀ σ207 : Mem, σ207 = (mset (mset (mset σ 77 (σ 74 12 + 121 + 2 * σ 74 13) (0 : Int)) 77 (σ 74 12 + 121 + 2 * σ 74 13 + 1) v1) 74 13 (σ 74 13 + 1)) →
      ∃ g209 : Int → Int, ∃ g210 : Int, ∃ g211 : Nat, (tkM σ207 g209 g210 g211) ∧
      ∀ σ215 : Mem, OKm σ215 → (tkM σ215 g209 g210 (g211 + 1) ∧ (∀ j : Int, j ≠ 7 → j ≠ 8 → j ≠ 9 → j ≠ 10 → j ≠ 11 → σ215 74 j = σ207 74 j) ∧ Fr [74] σ207 σ215) →
      ∃ g218 : Mem, ∃ g219 : Int → Int, ∃ g220 : Int, ∃ g221 : Int, ∃ g222 : Int, ∃ g223 : Int, ∃ g224 : List Int, ∃ g225 : Int, ∃ g226 : Nat, ∃ g227 : SK, (tkM σ215 g219 g220 g226 ∧ mC g218 g221 g222 g223 σ215 g224 g225 g226 g227 ∧ g224.length ≤ 160) ∧
      ∀ (u232 : Int) (σ231 : Mem), R32 u232 → OKm σ231 → (stP g218 g219 g220 g221 g222 g223 σ231 u232 (fun Z Fl => eo (kd g219 g220) Z Fl g224 g225 g226 g227)) →
      Q u232 σ231) ∧
     (((σ 74 9) = 1) →
      (0 ≤ σ 74 12 ∧ σ 74 12 ≤ 2187 ∧ 0 ≤ σ 74 13 ∧ σ 74 13 ≤ 303) ∧
      ∀ σ237 : Mem, σ237 = (mset (mset (mset σ 77 (σ 74 12 + 121 + 2 * σ 74 13) (0 : Int)) 77 (σ 74 12 + 121 + 2 * σ 74 13 + 1) (σ 74 10)) 74 13 (σ 74 13 + 1)) →
      ∃ g239 : Int → Int, ∃ g240 : Int, ∃ g241 : Nat, (tkM σ237 g239 g240 g241) ∧
      ∀ σ245 : Mem, OKm σ245 → (tkM σ245 g239 g240 (g241 + 1) ∧ (∀ j : Int, j ≠ 7 → j ≠ 8 → j ≠ 9 → j ≠ 10 → j ≠ 11 → σ245 74 j = σ237 74 j) ∧ Fr [74] σ237 σ245) →
      ∃ g248 : Mem, ∃ g249 : Int → Int, ∃ g250 : Int, ∃ g251 : Int, ∃ g252 : Int, ∃ g253 : Int, ∃ g254 : List Int, ∃ g255 : Int, ∃ g256 : Nat, ∃ g257 : SK, (tkM σ245 g249 g250 g256 ∧ mC g248 g251 g252 g253 σ245 g254 g255 g256 g257 ∧ g254.length ≤ 160) ∧
      ∀ (u262 : Int) (σ261 : Mem), R32 u262 → OKm σ261 → (stP g248 g249 g250 g251 g252 g253 σ261 u262 (fun Z Fl => eo (kd g249 g250) Z Fl g254 g255 g256 g257)) →
      Q u262 σ261))) → P51 v1 σ) →
  (((σ 74 9) ≠ 1) →
    P20 σ) ∧
   (((σ 74 9) = 1) →
    (((σ 74 10) ≤ 9999) →
     P20 σ) ∧
    ((9999 < (σ 74 10)) →
     Q 2 σ))
theorem mt_X12_beginOne {d : Nat} (hd : 5 ≤ d)  {σ : Mem} {Q : Int → Mem → Prop}  (hO : OKm σ) (h : wp_X12_beginOne  σ Q) : Mt yX12_beginOne cX12_beginOne 2 (some .int) d [aR (74)] σ (QI Q) := by
  refine Mt.intro (by decide +kernel) (Nat.le_of_ble_eq_true rfl) [(0, aR (74))] rfl ?_
  unfold wp_X12_beginOne at h
  have h := h (fun  (σ : Mem) => OKm σ → G yX12_beginOne cX12_beginOne 2 (some .int) d (QI Q) 20 [(0, aR (74))] [] σ)
    (fun (v1 : Int) (σ : Mem) => R32 v1 → OKm σ → G yX12_beginOne cX12_beginOne 2 (some .int) d (QI Q) 39 [(0, aR (74)), (1, aI (v1))] [] σ)
    (fun (v1 : Int) (σ : Mem) => R32 v1 → OKm σ → G yX12_beginOne cX12_beginOne 2 (some .int) d (QI Q) 51 [(0, aR (74)), (1, aI (v1))] [] σ) ?_ ?_ ?_
  · refine G_aload_n 0 rfl rfl dX12_beginOne_0 ?_
    refine G_get (k := 9) (kd := (0, 0)) (v := aI (σ 74 9)) gf_X12_113 rfl rfl rfl rfl dX12_beginOne_1 ?_
    refine G_iconst dX12_beginOne_4 ?_
    refine G_icmp_ne (OKm.i hO 74 9 rfl) (rL 1 rfl) dX12_beginOne_5 (tgt := 20) (by decide) (fun c1 => ?_) (fun c1 => ?_)
    · have h := h.1 c1
      exact G_pick [0] rfl (h hO)
    · have h := h.2 c1
      refine G_aload_n 0 rfl rfl dX12_beginOne_8 ?_
      refine G_get (k := 10) (kd := (0, 0)) (v := aI (σ 74 10)) gf_X12_119 rfl rfl rfl rfl dX12_beginOne_9 ?_
      refine G_sipush (by decide) dX12_beginOne_12 ?_
      refine G_icmp_le (OKm.i hO 74 10 rfl) (rL 9999 rfl) dX12_beginOne_15 (tgt := 20) (by decide) (fun c2 => ?_) (fun c2 => ?_)
      · have h := h.1 c2
        exact G_pick [0] rfl (h hO)
      · have h := h.2 c2
        refine G_iconst dX12_beginOne_18 ?_
        exact G_iret rfl (rL 2 rfl) dX12_beginOne_19 ⟨_, rfl, h⟩ hO
  · intro  σ h  hO
    have h := h  hO
    refine G_aload_n 0 rfl rfl dX12_beginOne_20 ?_
    refine G_callV (as := []) cf_X12_183 rfl rfl rfl (sp_X12_nameOf (d - 1) (by omega) _ hO ) (by omega) rfl rfl (Nat.le_of_ble_eq_true rfl) dX12_beginOne_21 ?_
    rintro _ _ ⟨_, rfl, rfl, rfl⟩ o4 r3
    refine G_istore_n (lv' := [(1, aI ((nmS (σ 74 9) (σ 74 11)))), (0, aR (74))]) rfl rfl (by decide) dX12_beginOne_24 ?_
    refine G_iload_n 0 rfl rfl dX12_beginOne_25 ?_
    refine G_if_lt (r3 _ rfl) dX12_beginOne_26 (tgt := 39) (by decide) (fun c5 => ?_) (fun c5 => ?_)
    · have h := h.1 c5
      exact G_pick [1, 0] rfl (h (r3 _ rfl) hO)
    · have h := h.2 c5
      refine G_aload_n 1 rfl rfl dX12_beginOne_29 ?_
      refine G_iload_n 0 rfl rfl dX12_beginOne_30 ?_
      refine G_callV (as := [_]) cf_X12_186 rfl rfl rfl (sp_X12_isOf (d - 1) (by omega) _ hO _ (r3 _ rfl)) (by omega) rfl rfl (Nat.le_of_ble_eq_true rfl) dX12_beginOne_31 ?_
      rintro _ _ ⟨_, rfl, rfl, rfl⟩ o7 r6
      refine G_if_ne (bI_R _) dX12_beginOne_34 (tgt := 39) (by decide) (fun c8 => ?_) (fun c8 => ?_)
      · have h := h.1 (bI_ne c8)
        exact G_pick [1, 0] rfl (h (r3 _ rfl) hO)
      · have h := h.2 ((bI_0 _).mp c8)
        refine G_iconst dX12_beginOne_37 ?_
        exact G_iret rfl (rL 5 rfl) dX12_beginOne_38 ⟨_, rfl, h⟩ hO
  · intro v1 σ h hv1 hO
    have h := h hv1 hO
    refine G_aload_n 0 rfl rfl dX12_beginOne_39 ?_
    refine G_get (k := 9) (kd := (0, 0)) (v := aI (σ 74 9)) gf_X12_113 rfl rfl rfl rfl dX12_beginOne_40 ?_
    refine G_iconst dX12_beginOne_43 ?_
    refine G_icmp_eq (OKm.i hO 74 9 rfl) (rL 1 rfl) dX12_beginOne_44 (tgt := 51) (by decide) (fun c9 => ?_) (fun c9 => ?_)
    · have h := h.1 c9
      exact G_pick [0, 1] rfl (h hv1 hO)
    · have h := h.2 c9
      refine G_iload_n 1 rfl rfl dX12_beginOne_47 ?_
      refine G_if_lt hv1 dX12_beginOne_48 (tgt := 93) (by decide) (fun c10 => ?_) (fun c10 => ?_)
      · have h := h.1 c10
        refine G_aload_n 0 rfl rfl dX12_beginOne_93 ?_
        refine G_get (k := 9) (kd := (0, 0)) (v := aI (σ 74 9)) gf_X12_113 rfl rfl rfl rfl dX12_beginOne_94 ?_
        refine G_bipush (by decide) dX12_beginOne_97 ?_
        refine G_icmp_ne (OKm.i hO 74 9 rfl) (rL 40 rfl) dX12_beginOne_99 (tgt := 109) (by decide) (fun c11 => ?_) (fun c11 => ?_)
        · have h := h.1 c11
          refine G_aload_n 0 rfl rfl dX12_beginOne_109 ?_
          refine G_get (k := 9) (kd := (0, 0)) (v := aI (σ 74 9)) gf_X12_113 rfl rfl rfl rfl dX12_beginOne_110 ?_
          refine G_bipush (by decide) dX12_beginOne_113 ?_
          refine G_icmp_ne (OKm.i hO 74 9 rfl) (rL 45 rfl) dX12_beginOne_115 (tgt := 124) (by decide) (fun c12 => ?_) (fun c12 => ?_)
          · have h := h.1 c12
            refine G_aload_n 0 rfl rfl dX12_beginOne_124 ?_
            refine G_bipush (by decide) dX12_beginOne_125 ?_
            refine G_bipush (by decide) dX12_beginOne_127 ?_
            refine G_bipush (by decide) dX12_beginOne_129 ?_
            refine G_bipush (by decide) dX12_beginOne_131 ?_
            refine G_bipush (by decide) dX12_beginOne_133 ?_
            refine G_bipush (by decide) dX12_beginOne_135 ?_
            obtain ⟨c13, h⟩ := h
            refine G_callS (as := [_, _, _, _, _, _]) cf_X12_195 rfl (sp_X12_w6 (d - 1) (by omega) _ hO _ (rL 99 rfl) _ (rL 111 rfl) _ (rL 109 rfl) _ (rL 109 rfl) _ (rL 111 rfl) _ (rL 110 rfl) c13) (by omega) rfl rfl (Nat.le_of_ble_eq_true rfl) dX12_beginOne_137 ?_
            rintro _ _ ⟨_, rfl, rfl, rfl⟩ o15 r14
            refine G_callV (as := [_]) cf_X12_199 rfl rfl rfl (sp_X12_isWord (d - 1) (by omega) _ hO _ (r14 _ rfl)) (by omega) rfl rfl (Nat.le_of_ble_eq_true rfl) dX12_beginOne_140 ?_
            rintro _ _ ⟨_, rfl, rfl, rfl⟩ o17 r16
            refine G_if_eq (bI_R _) dX12_beginOne_143 (tgt := 153) (by decide) (fun c18 => ?_) (fun c18 => ?_)
            · have h := h.1 ((bI_0 _).mp c18)
              refine G_aload_n 0 rfl rfl dX12_beginOne_153 ?_
              refine G_bipush (by decide) dX12_beginOne_154 ?_
              refine G_bipush (by decide) dX12_beginOne_156 ?_
              refine G_bipush (by decide) dX12_beginOne_158 ?_
              refine G_bipush (by decide) dX12_beginOne_160 ?_
              refine G_bipush (by decide) dX12_beginOne_162 ?_
              obtain ⟨c19, h⟩ := h
              refine G_callS (as := [_, _, _, _, _]) cf_X12_147 rfl (sp_X12_w5 (d - 1) (by omega) _ hO _ (rL 114 rfl) _ (rL 111 rfl) _ (rL 97 rfl) _ (rL 100 rfl) _ (rL 115 rfl) c19) (by omega) rfl rfl (Nat.le_of_ble_eq_true rfl) dX12_beginOne_164 ?_
              rintro _ _ ⟨_, rfl, rfl, rfl⟩ o21 r20
              refine G_callV (as := [_]) cf_X12_199 rfl rfl rfl (sp_X12_isWord (d - 1) (by omega) _ hO _ (r20 _ rfl)) (by omega) rfl rfl (Nat.le_of_ble_eq_true rfl) dX12_beginOne_167 ?_
              rintro _ _ ⟨_, rfl, rfl, rfl⟩ o23 r22
              refine G_if_eq (bI_R _) dX12_beginOne_170 (tgt := 179) (by decide) (fun c24 => ?_) (fun c24 => ?_)
              · have h := h.1 ((bI_0 _).mp c24)
                refine G_aload_n 0 rfl rfl dX12_beginOne_179 ?_
                refine G_bipush (by decide) dX12_beginOne_180 ?_
                refine G_bipush (by decide) dX12_beginOne_182 ?_
                obtain ⟨c25, h⟩ := h
                refine G_callS (as := [_, _]) cf_X12_135 rfl (sp_X12_w2 (d - 1) (by omega) _ hO _ (rL 105 rfl) _ (rL 102 rfl) c25) (by omega) rfl rfl (Nat.le_of_ble_eq_true rfl) dX12_beginOne_184 ?_
                rintro _ _ ⟨_, rfl, rfl, rfl⟩ o27 r26
                refine G_callV (as := [_]) cf_X12_199 rfl rfl rfl (sp_X12_isWord (d - 1) (by omega) _ hO _ (r26 _ rfl)) (by omega) rfl rfl (Nat.le_of_ble_eq_true rfl) dX12_beginOne_187 ?_
                rintro _ _ ⟨_, rfl, rfl, rfl⟩ o29 r28
                refine G_if_eq (bI_R _) dX12_beginOne_190 (tgt := 200) (by decide) (fun c30 => ?_) (fun c30 => ?_)
                · have h := h.1 ((bI_0 _).mp c30)
                  refine G_aload_n 0 rfl rfl dX12_beginOne_200 ?_
                  refine G_bipush (by decide) dX12_beginOne_201 ?_
                  refine G_bipush (by decide) dX12_beginOne_203 ?_
                  refine G_bipush (by decide) dX12_beginOne_205 ?_
                  obtain ⟨c31, h⟩ := h
                  refine G_callS (as := [_, _, _]) cf_X12_139 rfl (sp_X12_w3 (d - 1) (by omega) _ hO _ (rL 110 rfl) _ (rL 111 rfl) _ (rL 116 rfl) c31) (by omega) rfl rfl (Nat.le_of_ble_eq_true rfl) dX12_beginOne_207 ?_
                  rintro _ _ ⟨_, rfl, rfl, rfl⟩ o33 r32
                  refine G_callV (as := [_]) cf_X12_199 rfl rfl rfl (sp_X12_isWord (d - 1) (by omega) _ hO _ (r32 _ rfl)) (by omega) rfl rfl (Nat.le_of_ble_eq_true rfl) dX12_beginOne_210 ?_
                  rintro _ _ ⟨_, rfl, rfl, rfl⟩ o35 r34
                  refine G_if_eq (bI_R _) dX12_beginOne_213 (tgt := 232) (by decide) (fun c36 => ?_) (fun c36 => ?_)
                  · have h := h.1 ((bI_0 _).mp c36)
                    refine G_iconst dX12_beginOne_232 ?_
                    exact G_iret rfl (rL 1 rfl) dX12_beginOne_233 ⟨_, rfl, h⟩ hO
                  · have h := h.2 (bI_ne c36)
                    refine G_aload_n 0 rfl rfl dX12_beginOne_216 ?_
                    obtain ⟨g37, c38, h⟩ := h
                    refine G_callV (as := []) cf_X12_203 rfl rfl rfl (sp_X12_isAskAhead (d - 1) (by omega) _ hO  g37 c38) (by omega) rfl rfl (Nat.le_of_ble_eq_true rfl) dX12_beginOne_217 ?_
                    rintro _ σ41 ⟨u42, rfl, z43⟩ o40 r39
                    have h := h _ _ (r39 _ rfl) o40 z43
                    refine G_if_eq (r39 _ rfl) dX12_beginOne_220 (tgt := 232) (by decide) (fun c44 => ?_) (fun c44 => ?_)
                    · have h := h.1 c44
                      refine G_iconst dX12_beginOne_232 ?_
                      exact G_iret rfl (rL 1 rfl) dX12_beginOne_233 ⟨_, rfl, h⟩ o40
                    · have h := h.2 c44
                      refine G_aload_n 0 rfl rfl dX12_beginOne_223 ?_
                      refine G_bipush (by decide) dX12_beginOne_224 ?_
                      obtain ⟨g45, g46, g47, g48, g49, g50, g51, g52, g53, g54, c55, h⟩ := h
                      refine G_callV (as := [_]) cf_X12_192 rfl rfl rfl (sp_X12_opened (d - 1) (by omega) _ o40 _ (rL 20 rfl) g45 g46 g47 g48 g49 g50 g51 g52 g53 g54 c55) (by omega) rfl rfl (Nat.le_of_ble_eq_true rfl) dX12_beginOne_226 ?_
                      rintro _ σ58 ⟨u59, rfl, z60⟩ o57 r56
                      have h := h _ _ (r56 _ rfl) o57 z60
                      refine G_goto (tgt := 233) dX12_beginOne_229 (by decide) ?_
                      exact G_iret rfl (r56 _ rfl) dX12_beginOne_233 ⟨_, rfl, h⟩ o57
                · have h := h.2 (bI_ne c30)
                  refine G_aload_n 0 rfl rfl dX12_beginOne_193 ?_
                  refine G_bipush (by decide) dX12_beginOne_194 ?_
                  obtain ⟨g61, g62, g63, g64, g65, g66, g67, g68, g69, g70, c71, h⟩ := h
                  refine G_callV (as := [_]) cf_X12_192 rfl rfl rfl (sp_X12_opened (d - 1) (by omega) _ hO _ (rL 42 rfl) g61 g62 g63 g64 g65 g66 g67 g68 g69 g70 c71) (by omega) rfl rfl (Nat.le_of_ble_eq_true rfl) dX12_beginOne_196 ?_
                  rintro _ σ74 ⟨u75, rfl, z76⟩ o73 r72
                  have h := h _ _ (r72 _ rfl) o73 z76
                  exact G_iret rfl (r72 _ rfl) dX12_beginOne_199 ⟨_, rfl, h⟩ o73
              · have h := h.2 (bI_ne c24)
                refine G_aload_n 0 rfl rfl dX12_beginOne_173 ?_
                refine G_iconst dX12_beginOne_174 ?_
                obtain ⟨g77, g78, g79, g80, g81, g82, g83, g84, g85, g86, c87, h⟩ := h
                refine G_callV (as := [_]) cf_X12_192 rfl rfl rfl (sp_X12_opened (d - 1) (by omega) _ hO _ (rL 2 rfl) g77 g78 g79 g80 g81 g82 g83 g84 g85 g86 c87) (by omega) rfl rfl (Nat.le_of_ble_eq_true rfl) dX12_beginOne_175 ?_
                rintro _ σ90 ⟨u91, rfl, z92⟩ o89 r88
                have h := h _ _ (r88 _ rfl) o89 z92
                exact G_iret rfl (r88 _ rfl) dX12_beginOne_178 ⟨_, rfl, h⟩ o89
            · have h := h.2 (bI_ne c18)
              refine G_aload_n 0 rfl rfl dX12_beginOne_146 ?_
              refine G_bipush (by decide) dX12_beginOne_147 ?_
              obtain ⟨g93, g94, g95, g96, g97, g98, g99, g100, g101, g102, c103, h⟩ := h
              refine G_callV (as := [_]) cf_X12_192 rfl rfl rfl (sp_X12_opened (d - 1) (by omega) _ hO _ (rL 41 rfl) g93 g94 g95 g96 g97 g98 g99 g100 g101 g102 c103) (by omega) rfl rfl (Nat.le_of_ble_eq_true rfl) dX12_beginOne_149 ?_
              rintro _ σ106 ⟨u107, rfl, z108⟩ o105 r104
              have h := h _ _ (r104 _ rfl) o105 z108
              exact G_iret rfl (r104 _ rfl) dX12_beginOne_152 ⟨_, rfl, h⟩ o105
          · have h := h.2 c12
            refine G_aload_n 0 rfl rfl dX12_beginOne_118 ?_
            refine G_iconst dX12_beginOne_119 ?_
            obtain ⟨g109, g110, g111, g112, g113, g114, g115, g116, g117, g118, c119, h⟩ := h
            refine G_callV (as := [_]) cf_X12_192 rfl rfl rfl (sp_X12_opened (d - 1) (by omega) _ hO _ (rL 5 rfl) g109 g110 g111 g112 g113 g114 g115 g116 g117 g118 c119) (by omega) rfl rfl (Nat.le_of_ble_eq_true rfl) dX12_beginOne_120 ?_
            rintro _ σ122 ⟨u123, rfl, z124⟩ o121 r120
            have h := h _ _ (r120 _ rfl) o121 z124
            exact G_iret rfl (r120 _ rfl) dX12_beginOne_123 ⟨_, rfl, h⟩ o121
        · have h := h.2 c11
          refine G_aload_n 0 rfl rfl dX12_beginOne_102 ?_
          refine G_bipush (by decide) dX12_beginOne_103 ?_
          obtain ⟨g125, g126, g127, g128, g129, g130, g131, g132, g133, g134, c135, h⟩ := h
          refine G_callV (as := [_]) cf_X12_192 rfl rfl rfl (sp_X12_opened (d - 1) (by omega) _ hO _ (rL 40 rfl) g125 g126 g127 g128 g129 g130 g131 g132 g133 g134 c135) (by omega) rfl rfl (Nat.le_of_ble_eq_true rfl) dX12_beginOne_105 ?_
          rintro _ σ138 ⟨u139, rfl, z140⟩ o137 r136
          have h := h _ _ (r136 _ rfl) o137 z140
          exact G_iret rfl (r136 _ rfl) dX12_beginOne_108 ⟨_, rfl, h⟩ o137
      · have h := h.2 c10
        exact G_pick [0, 1] rfl (h hv1 hO)
  · intro v1 σ h hv1 hO
    have h := h hv1 hO
    refine G_aload_n 0 rfl rfl dX12_beginOne_51 ?_
    refine G_aload_n 0 rfl rfl dX12_beginOne_52 ?_
    refine G_get (k := 9) (kd := (0, 0)) (v := aI (σ 74 9)) gf_X12_113 rfl rfl rfl rfl dX12_beginOne_53 ?_
    refine G_iconst dX12_beginOne_56 ?_
    refine G_icmp_ne (OKm.i hO 74 9 rfl) (rL 1 rfl) dX12_beginOne_57 (tgt := 64) (by decide) (fun c141 => ?_) (fun c141 => ?_)
    · have h := h.1 c141
      refine G_iconst dX12_beginOne_64 ?_
      refine G_aload_n 0 rfl rfl dX12_beginOne_65 ?_
      refine G_get (k := 9) (kd := (0, 0)) (v := aI (σ 74 9)) gf_X12_113 rfl rfl rfl rfl dX12_beginOne_66 ?_
      refine G_iconst dX12_beginOne_69 ?_
      refine G_icmp_ne (OKm.i hO 74 9 rfl) (rL 1 rfl) dX12_beginOne_70 (tgt := 80) (by decide) (fun c142 => ?_) (fun c142 => ?_)
      · have h := h.1 c142
        refine G_iload_n 1 rfl rfl dX12_beginOne_80 ?_
        obtain ⟨c143, h⟩ := h
        refine G_callV (as := [_, _]) cf_X12_166 rfl rfl rfl (sp_X12_emit (d - 1) (by omega) _ hO _ (rL 1 rfl) _ hv1 c143) (by omega) rfl rfl (Nat.le_of_ble_eq_true rfl) dX12_beginOne_81 ?_
        rintro _ σ146 ⟨rfl, e147⟩ o145 r144
        have h := h σ146 e147
        refine G_aload_n 0 rfl rfl dX12_beginOne_84 ?_
        obtain ⟨g148, g149, g150, c151, h⟩ := h
        refine G_callV (as := []) cf_X12_180 rfl rfl rfl (sp_X12_nextTokenK (d - 1) (by omega) _ o145  g148 g149 g150 c151) (by omega) rfl rfl (Nat.le_of_ble_eq_true rfl) dX12_beginOne_85 ?_
        rintro _ σ154 ⟨rfl, z156⟩ o153 r152
        have h := h _ o153 z156
        refine G_aload_n 0 rfl rfl dX12_beginOne_88 ?_
        obtain ⟨g157, g158, g159, g160, g161, g162, g163, g164, g165, g166, c167, h⟩ := h
        refine G_callV (as := []) cf_X12_189 rfl rfl rfl (sp_X12_endOne (d - 1) (by omega) _ o153  g157 g158 g159 g160 g161 g162 g163 g164 g165 g166 c167) (by omega) rfl rfl (Nat.le_of_ble_eq_true rfl) dX12_beginOne_89 ?_
        rintro _ σ170 ⟨u171, rfl, z172⟩ o169 r168
        have h := h _ _ (r168 _ rfl) o169 z172
        exact G_iret rfl (r168 _ rfl) dX12_beginOne_92 ⟨_, rfl, h⟩ o169
      · have h := h.2 c142
        refine G_aload_n 0 rfl rfl dX12_beginOne_73 ?_
        refine G_get (k := 10) (kd := (0, 0)) (v := aI (σ 74 10)) gf_X12_119 rfl rfl rfl rfl dX12_beginOne_74 ?_
        refine G_goto (tgt := 81) dX12_beginOne_77 (by decide) ?_
        obtain ⟨c173, h⟩ := h
        refine G_callV (as := [_, _]) cf_X12_166 rfl rfl rfl (sp_X12_emit (d - 1) (by omega) _ hO _ (rL 1 rfl) _ (OKm.i hO 74 10 rfl) c173) (by omega) rfl rfl (Nat.le_of_ble_eq_true rfl) dX12_beginOne_81 ?_
        rintro _ σ176 ⟨rfl, e177⟩ o175 r174
        have h := h σ176 e177
        refine G_aload_n 0 rfl rfl dX12_beginOne_84 ?_
        obtain ⟨g178, g179, g180, c181, h⟩ := h
        refine G_callV (as := []) cf_X12_180 rfl rfl rfl (sp_X12_nextTokenK (d - 1) (by omega) _ o175  g178 g179 g180 c181) (by omega) rfl rfl (Nat.le_of_ble_eq_true rfl) dX12_beginOne_85 ?_
        rintro _ σ184 ⟨rfl, z186⟩ o183 r182
        have h := h _ o183 z186
        refine G_aload_n 0 rfl rfl dX12_beginOne_88 ?_
        obtain ⟨g187, g188, g189, g190, g191, g192, g193, g194, g195, g196, c197, h⟩ := h
        refine G_callV (as := []) cf_X12_189 rfl rfl rfl (sp_X12_endOne (d - 1) (by omega) _ o183  g187 g188 g189 g190 g191 g192 g193 g194 g195 g196 c197) (by omega) rfl rfl (Nat.le_of_ble_eq_true rfl) dX12_beginOne_89 ?_
        rintro _ σ200 ⟨u201, rfl, z202⟩ o199 r198
        have h := h _ _ (r198 _ rfl) o199 z202
        exact G_iret rfl (r198 _ rfl) dX12_beginOne_92 ⟨_, rfl, h⟩ o199
    · have h := h.2 c141
      refine G_iconst dX12_beginOne_60 ?_
      refine G_goto (tgt := 65) dX12_beginOne_61 (by decide) ?_
      refine G_aload_n 0 rfl rfl dX12_beginOne_65 ?_
      refine G_get (k := 9) (kd := (0, 0)) (v := aI (σ 74 9)) gf_X12_113 rfl rfl rfl rfl dX12_beginOne_66 ?_
      refine G_iconst dX12_beginOne_69 ?_
      refine G_icmp_ne (OKm.i hO 74 9 rfl) (rL 1 rfl) dX12_beginOne_70 (tgt := 80) (by decide) (fun c203 => ?_) (fun c203 => ?_)
      · have h := h.1 c203
        refine G_iload_n 1 rfl rfl dX12_beginOne_80 ?_
        obtain ⟨c204, h⟩ := h
        refine G_callV (as := [_, _]) cf_X12_166 rfl rfl rfl (sp_X12_emit (d - 1) (by omega) _ hO _ (rL 0 rfl) _ hv1 c204) (by omega) rfl rfl (Nat.le_of_ble_eq_true rfl) dX12_beginOne_81 ?_
        rintro _ σ207 ⟨rfl, e208⟩ o206 r205
        have h := h σ207 e208
        refine G_aload_n 0 rfl rfl dX12_beginOne_84 ?_
        obtain ⟨g209, g210, g211, c212, h⟩ := h
        refine G_callV (as := []) cf_X12_180 rfl rfl rfl (sp_X12_nextTokenK (d - 1) (by omega) _ o206  g209 g210 g211 c212) (by omega) rfl rfl (Nat.le_of_ble_eq_true rfl) dX12_beginOne_85 ?_
        rintro _ σ215 ⟨rfl, z217⟩ o214 r213
        have h := h _ o214 z217
        refine G_aload_n 0 rfl rfl dX12_beginOne_88 ?_
        obtain ⟨g218, g219, g220, g221, g222, g223, g224, g225, g226, g227, c228, h⟩ := h
        refine G_callV (as := []) cf_X12_189 rfl rfl rfl (sp_X12_endOne (d - 1) (by omega) _ o214  g218 g219 g220 g221 g222 g223 g224 g225 g226 g227 c228) (by omega) rfl rfl (Nat.le_of_ble_eq_true rfl) dX12_beginOne_89 ?_
        rintro _ σ231 ⟨u232, rfl, z233⟩ o230 r229
        have h := h _ _ (r229 _ rfl) o230 z233
        exact G_iret rfl (r229 _ rfl) dX12_beginOne_92 ⟨_, rfl, h⟩ o230
      · have h := h.2 c203
        refine G_aload_n 0 rfl rfl dX12_beginOne_73 ?_
        refine G_get (k := 10) (kd := (0, 0)) (v := aI (σ 74 10)) gf_X12_119 rfl rfl rfl rfl dX12_beginOne_74 ?_
        refine G_goto (tgt := 81) dX12_beginOne_77 (by decide) ?_
        obtain ⟨c234, h⟩ := h
        refine G_callV (as := [_, _]) cf_X12_166 rfl rfl rfl (sp_X12_emit (d - 1) (by omega) _ hO _ (rL 0 rfl) _ (OKm.i hO 74 10 rfl) c234) (by omega) rfl rfl (Nat.le_of_ble_eq_true rfl) dX12_beginOne_81 ?_
        rintro _ σ237 ⟨rfl, e238⟩ o236 r235
        have h := h σ237 e238
        refine G_aload_n 0 rfl rfl dX12_beginOne_84 ?_
        obtain ⟨g239, g240, g241, c242, h⟩ := h
        refine G_callV (as := []) cf_X12_180 rfl rfl rfl (sp_X12_nextTokenK (d - 1) (by omega) _ o236  g239 g240 g241 c242) (by omega) rfl rfl (Nat.le_of_ble_eq_true rfl) dX12_beginOne_85 ?_
        rintro _ σ245 ⟨rfl, z247⟩ o244 r243
        have h := h _ o244 z247
        refine G_aload_n 0 rfl rfl dX12_beginOne_88 ?_
        obtain ⟨g248, g249, g250, g251, g252, g253, g254, g255, g256, g257, c258, h⟩ := h
        refine G_callV (as := []) cf_X12_189 rfl rfl rfl (sp_X12_endOne (d - 1) (by omega) _ o244  g248 g249 g250 g251 g252 g253 g254 g255 g256 g257 c258) (by omega) rfl rfl (Nat.le_of_ble_eq_true rfl) dX12_beginOne_89 ?_
        rintro _ σ261 ⟨u262, rfl, z263⟩ o260 r259
        have h := h _ _ (r259 _ rfl) o260 z263
        exact G_iret rfl (r259 _ rfl) dX12_beginOne_92 ⟨_, rfl, h⟩ o260

theorem sp_X12_beginOne (d : Nat) (hd : 5 ≤ d) (σ : Mem) (hO : OKm σ) (z0 : Mem) (b : Int → Int) (N : Int) (ti : Int) (lw : Int) (a : Int) (p : List Int) (o : Int) (i : Nat) (k : SK) (hpre : tkM σ b N i ∧ mC z0 ti lw a σ p o i k ∧ σ 74 18 = 0 ∧ p.length ≤ 120) : Mt yX12_beginOne cX12_beginOne 2 (some .int) d [aR (74)] σ (QI (fun v σ' => stP z0 b N ti lw a σ' v (fun Z Fl => begP (kd b N) (nu b N) lw Z Fl p o i k))) := mt_X12_beginOne hd  hO (by
  unfold wp_X12_beginOne
  intro P20 P39 P51 h20 h39 h51
  obtain ⟨ht, hm, h18, hl⟩ := hpre
  obtain ⟨-, ⟨i4, i5, i60, i62, i61, i35, i43, i45, i42, i47, i40, i41, i59⟩, hkr⟩ := tk_sg ht
  have hn := nmS_kd ht
  have t1 := tk_num ht
  have e14 : σ 74 14 = if lw = 9 then 0 else 1 := hm.2.1
  have s12 : σ 74 12 = 729 * ti := hm.1.2.2
  have t12 := hm.1
  have w := hm.w
  have hof : (kd b N i < 5 ∨ (kd b N i < 8 ∧ σ 74 14 = 0) ∨ (8 ≤ kd b N i ∧ σ 74 14 = 1)) ↔ (kd b N i < 5 ∨ (kd b N i < 8 ∧ lw = 9) ∨ (8 ≤ kd b N i ∧ lw ≠ 9)) := by
    rw [e14]
    by_cases q : lw = 9
    · rw [if_pos q]; omega
    · rw [if_neg q]; omega
  have opn2 : ∀ (c u : Int) (ρ : Mem), ((o = 8 ∧ u = 3 ∧ ρ = σ) ∨ (o ≠ 8 ∧ u = 0 ∧ tkM ρ b N (i + 1) ∧ mC z0 ti lw a ρ (c :: p) (o + 1) (i + 1) k ∧ ρ 74 18 = σ 74 18)) → (∀ Z Fl, begP (kd b N) (nu b N) lw Z Fl p o i k → opn Z Fl c p o i k) → stP z0 b N ti lw a ρ u (fun Z Fl => begP (kd b N) (nu b N) lw Z Fl p o i k) := by
    intro c u ρ h hB
    rcases h with ⟨h8, hu, hr⟩ | ⟨h8, hu, g1, g2, g3⟩
    · rw [hu, hr]
      exact stP.F (i := i) (by omega) (fun Z Fl h => by have h := hB Z Fl h; unfold opn at h; rw [if_pos h8] at h; exact h) ht hm.frl
    · rw [hu]
      exact stP.Z (w := false) rfl (fun Z Fl h => by have h := hB Z Fl h; unfold opn at h; rw [if_neg h8] at h; exact h) g1 g2 (by rw [g3, h18]; rfl)
  by_cases c41 : kd b N i = 41
  · have h1 : σ 74 9 = 1 := t1.1.mpr c41
    have hnu := t1.2 c41
    have h3 := kd_300 ht (by omega)
    refine ⟨fun q => absurd h1 q, fun _ => ⟨fun hle => ?_, fun hgt => ?_⟩⟩
    · refine h20 _ (fun _ => ?_)
      rw [hn, if_neg (by omega)]
      refine ⟨fun _ => ?_, fun q => absurd q (by omega)⟩
      refine h39 _ _ (fun _ _ => ⟨fun _ => ?_, fun q => absurd h1 q⟩)
      refine h51 _ _ (fun _ _ => ⟨fun q => absurd h1 q, fun _ => ⟨fun q => absurd h1 q, fun _ => ?_⟩⟩)
      rw [s12]
      refine ⟨by omega, fun σ237 e237 => ⟨b, N, i, ht.emitE e237, fun σ245 _ h => ?_⟩⟩
      obtain ⟨g1, g2, g3⟩ := h
      have m237 := hm.emitE (m := i + 1) (by omega) e237 (fun _ => by unfold Mil; omega) (fun q => absurd q (by decide))
      refine ⟨z0, b, N, ti, lw, a, p, o, i + 1, _, ⟨g1, m237.next (b := b) (N := N) (by omega) g2 g3, by omega⟩, fun u ρ _ _ hst => hst.mono (fun Z Fl hB => ?_)⟩
      unfold begP at hB
      rw [if_pos c41, if_neg (by omega), show nu b N i = σ 74 10 by omega] at hB; exact hB
    · refine stP.F (i := i) (by omega) (fun Z Fl hB => ?_) ht hm.frl
      unfold begP at hB
      rw [if_pos c41, if_pos (by omega)] at hB; exact hB
  have n1 : σ 74 9 ≠ 1 := fun q => c41 (t1.1.mp q)
  refine ⟨fun _ => ?_, fun q => absurd q n1⟩
  refine h20 _ (fun _ => ?_)
  rw [hn]
  by_cases c8 : 0 ≤ kd b N i ∧ kd b N i ≤ 8
  · have h3 := kd_300 ht (by omega)
    rw [if_pos c8, hof]
    refine ⟨fun q => absurd q (by omega), fun _ => ⟨fun ho => ?_, fun ho => ?_⟩⟩
    · refine h39 _ _ (fun _ _ => ⟨fun q => absurd q n1, fun _ => ⟨fun q => absurd q (by omega), fun _ => ?_⟩⟩)
      refine h51 _ _ (fun _ _ => ⟨fun _ => ⟨fun _ => ?_, fun q => absurd q n1⟩, fun q => absurd q n1⟩)
      rw [s12]
      refine ⟨by omega, fun σ237 e237 => ⟨b, N, i, ht.emitE e237, fun σ245 _ h => ?_⟩⟩
      obtain ⟨g1, g2, g3⟩ := h
      have m237 := hm.emitE (m := i + 1) (by omega) e237 (fun q => absurd q (by decide)) (fun _ => c8)
      refine ⟨z0, b, N, ti, lw, a, p, o, i + 1, _, ⟨g1, m237.next (b := b) (N := N) (by omega) g2 g3, by omega⟩, fun u ρ _ _ hst => hst.mono (fun Z Fl hB => ?_)⟩
      unfold begP at hB
      rw [if_neg c41, if_pos c8, if_pos (by omega)] at hB; exact hB
    · refine stP.F (i := i) (by omega) (fun Z Fl hB => ?_) ht hm.frl
      unfold begP at hB
      rw [if_neg c41, if_pos c8, if_neg (by omega)] at hB; exact hB
  rw [if_neg c8]
  refine ⟨fun _ => ?_, fun q => absurd q (by decide)⟩
  refine h39 _ _ (fun _ _ => ⟨fun q => absurd q n1, fun _ => ⟨fun _ => ?_, fun q => absurd q (by decide)⟩⟩)
  rw [tkw_common ht, tkw_roads ht, tkw_if ht, tkw_not ht]
  have bq : ∀ Z Fl, begP (kd b N) (nu b N) lw Z Fl p o i k → (if kd b N i = 36 then opn Z Fl 40 p o i k else if kd b N i = 33 then opn Z Fl 5 p o i k else if kd b N i = 18 then opn Z Fl 41 p o i k else if kd b N i = 20 then opn Z Fl 2 p o i k else if kd b N i = 21 then opn Z Fl 42 p o i k else if kd b N i = 27 ∧ askA p = true then opn Z Fl 20 p o i k else Fl 1 i) := fun Z Fl h => by
    unfold begP at h; rw [if_neg c41, if_neg c8] at h; exact h
  refine ⟨fun a40 => ?_, fun a40 => ?_⟩
  case refine_2 =>
    have kk := i40.mp a40
    exact ⟨z0, b, N, ti, lw, a, p, o, i, k, ⟨ht, hm, by omega, hl⟩, fun u ρ _ _ h => opn2 40 u ρ h (fun Z Fl hB => by have hB := bq Z Fl hB; rw [if_pos kk] at hB; exact hB)⟩
  have k36 : ¬ kd b N i = 36 := fun q => a40 (i40.mpr q)
  refine ⟨fun a45 => ?_, fun a45 => ?_⟩
  case refine_2 =>
    have kk := i45.mp a45
    exact ⟨z0, b, N, ti, lw, a, p, o, i, k, ⟨ht, hm, by omega, hl⟩, fun u ρ _ _ h => opn2 5 u ρ h (fun Z Fl hB => by have hB := bq Z Fl hB; rw [if_neg k36, if_pos kk] at hB; exact hB)⟩
  have k33 : ¬ kd b N i = 33 := fun q => a45 (i45.mpr q)
  refine ⟨by decide, fun k18 => ?_, fun k18 => ⟨z0, b, N, ti, lw, a, p, o, i, k, ⟨ht, hm, by omega, hl⟩, fun u ρ _ _ h => opn2 41 u ρ h (fun Z Fl hB => by have hB := bq Z Fl hB; rw [if_neg k36, if_neg k33, if_pos k18] at hB; exact hB)⟩⟩
  refine ⟨by decide, fun k20 => ?_, fun k20 => ⟨z0, b, N, ti, lw, a, p, o, i, k, ⟨ht, hm, by omega, hl⟩, fun u ρ _ _ h => opn2 2 u ρ h (fun Z Fl hB => by have hB := bq Z Fl hB; rw [if_neg k36, if_neg k33, if_neg k18, if_pos k20] at hB; exact hB)⟩⟩
  refine ⟨by decide, fun k21 => ?_, fun k21 => ⟨z0, b, N, ti, lw, a, p, o, i, k, ⟨ht, hm, by omega, hl⟩, fun u ρ _ _ h => opn2 42 u ρ h (fun Z Fl hB => by have hB := bq Z Fl hB; rw [if_neg k36, if_neg k33, if_neg k18, if_neg k20, if_pos k21] at hB; exact hB)⟩⟩
  refine ⟨by decide, fun k27 => ?_, fun k27 => ⟨p, hm.plc (by omega), fun u σ41 _ _ h => ?_⟩⟩
  · refine stP.F (i := i) (by omega) (fun Z Fl hB => ?_) ht hm.frl
    have hB := bq Z Fl hB
    rw [if_neg k36, if_neg k33, if_neg k18, if_neg k20, if_neg k21, if_neg (fun q => k27 q.1)] at hB; exact hB
  · obtain ⟨hc, e41⟩ := h
    rw [e41]
    refine ⟨fun u0 => ?_, fun u0 => ⟨z0, b, N, ti, lw, a, p, o, i, k, ⟨ht, hm, by omega, hl⟩, fun u ρ _ _ h => opn2 20 u ρ h (fun Z Fl hB => by have hB := bq Z Fl hB; rw [if_neg k36, if_neg k33, if_neg k18, if_neg k20, if_neg k21, if_pos ⟨k27, by rcases hc with z | z; exact z.2; exact absurd z.1 u0⟩] at hB; exact hB)⟩⟩
    · have hca : askA p = false := by
        rcases hc with z | z
        · exact absurd z.1 (by omega)
        · exact z.2
      refine stP.F (i := i) (by omega) (fun Z Fl hB => ?_) ht hm.frl
      have hB := bq Z Fl hB
      rw [if_neg k36, if_neg k33, if_neg k18, if_neg k20, if_neg k21, if_neg (fun q => by rw [hca] at q; exact absurd q.2 (by decide))] at hB; exact hB)
