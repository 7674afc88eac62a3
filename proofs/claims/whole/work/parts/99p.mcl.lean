def wp_X12_pair (x1 : Int) (x2 : Int) (x3 : Int) (x4 : Int) (x5 : Int) (σ : Mem) (Q : Int → Mem → Prop) : Prop :=
  R32 (x1 + 1) ∧
   ∃ g2 : Int → Int, ∃ g3 : Int, ∃ g4 : Nat, (tkM σ g2 g3 g4 ∧ (0 ≤ (x1 + 1) ∧ (x1 + 1) < 2916) ∧ x2 ≤ 9999) ∧
   ∀ (u9 : Int) (σ8 : Mem), R32 u9 → OKm σ8 → (figA g2 g3 σ σ8 u9 (x1 + 1) (pN (kd g2 g3) (nu g2 g3) (0 : Int) x2 g4)) →
   ((u9 = 0) →
    R32 (x1 + 2) ∧
    ∃ g13 : Int → Int, ∃ g14 : Int, ∃ g15 : Nat, ∃ g16 : Int, (tkM σ8 g13 g14 g15 ∧ wdQ x3 g16 ∧ (0 ≤ (x1 + 2) ∧ (x1 + 2) < 2916) ∧ x5 ≤ 9999) ∧
    ∀ (u21 : Int) (σ20 : Mem), R32 u21 → OKm σ20 → (figA g13 g14 σ8 σ20 u21 (x1 + 2) (pW (kd g13 g14) (nu g13 g14) g16 x4 x5 g15)) →
    Q u21 σ20) ∧
   ((u9 ≠ 0) →
    Q u9 σ8)
theorem mt_X12_pair {d : Nat} (hd : 4 ≤ d) {x1 : Int} {x2 : Int} {x3 : Int} {x4 : Int} {x5 : Int} {σ : Mem} {Q : Int → Mem → Prop} (hx1 : R32 x1) (hx2 : R32 x2) (hx3 : R64 x3) (hx4 : R32 x4) (hx5 : R32 x5) (hO : OKm σ) (h : wp_X12_pair x1 x2 x3 x4 x5 σ Q) : Mt yX12_pair cX12_pair 8 (some .int) d [aR (74), aI (x1), aI (x2), aL (x3), aI (x4), aI (x5)] σ (QI Q) := by
  refine Mt.intro (by decide +kernel) (Nat.le_of_ble_eq_true rfl) [(0, aR (74)), (1, aI (x1)), (2, aI (x2)), (3, aL (x3)), (5, aI (x4)), (6, aI (x5))] rfl ?_
  unfold wp_X12_pair at h
  refine G_aload_n 0 rfl rfl dX12_pair_0 ?_
  refine G_iload_n 1 rfl rfl dX12_pair_1 ?_
  refine G_iconst dX12_pair_2 ?_
  refine G_iadd dX12_pair_3 ?_
  refine G_iconst dX12_pair_4 ?_
  refine G_iload_n 2 rfl rfl dX12_pair_5 ?_
  obtain ⟨c1, h⟩ := h
  obtain ⟨g2, g3, g4, c5, h⟩ := h
  refine G_callV (as := [_, _, _]) cf_X12_231 rfl rfl rfl (sp_X12_figure (d - 1) (by omega) _ hO _ c1 _ (rL 0 rfl) _ hx2 g2 g3 g4 c5) (by omega) rfl rfl (Nat.le_of_ble_eq_true rfl) dX12_pair_6 ?_
  rintro _ σ8 ⟨u9, rfl, z10⟩ o7 r6
  have h := h _ _ (r6 _ rfl) o7 z10
  refine G_istore (lv' := [(7, aI (u9)), (0, aR (74)), (1, aI (x1)), (2, aI (x2)), (3, aL (x3)), (5, aI (x4)), (6, aI (x5))]) rfl (by decide) dX12_pair_9 ?_
  refine G_iload 0 rfl dX12_pair_11 ?_
  refine G_if_eq (r6 _ rfl) dX12_pair_13 (tgt := 21) (by decide) (fun c11 => ?_) (fun c11 => ?_)
  · have h := h.1 c11
    refine G_aload_n 1 rfl rfl dX12_pair_21 ?_
    refine G_lload_n 4 rfl rfl dX12_pair_22 ?_
    refine G_iload_n 2 rfl rfl dX12_pair_23 ?_
    refine G_iconst dX12_pair_24 ?_
    refine G_iadd dX12_pair_25 ?_
    refine G_iload 5 rfl dX12_pair_26 ?_
    refine G_iload 6 rfl dX12_pair_28 ?_
    obtain ⟨c12, h⟩ := h
    obtain ⟨g13, g14, g15, g16, c17, h⟩ := h
    refine G_callV (as := [_, _, _, _]) cf_X12_238 rfl rfl rfl (sp_X12_worded (d - 1) (by omega) _ o7 _ hx3 _ c12 _ hx4 _ hx5 g13 g14 g15 g16 c17) (by omega) rfl rfl (Nat.le_of_ble_eq_true rfl) dX12_pair_30 ?_
    rintro _ σ20 ⟨u21, rfl, z22⟩ o19 r18
    have h := h _ _ (r18 _ rfl) o19 z22
    exact G_iret rfl (r18 _ rfl) dX12_pair_33 ⟨_, rfl, h⟩ o19
  · have h := h.2 c11
    refine G_iload 0 rfl dX12_pair_16 ?_
    refine G_goto (tgt := 33) dX12_pair_18 (by decide) ?_
    exact G_iret rfl (r6 _ rfl) dX12_pair_33 ⟨_, rfl, h⟩ o7

theorem sp_X12_pair (d : Nat) (hd : 4 ≤ d) (σ : Mem) (hO : OKm σ) (x1 : Int) (hx1 : R32 x1) (x2 : Int) (hx2 : R32 x2) (x3 : Int) (hx3 : R64 x3) (x4 : Int) (hx4 : R32 x4) (x5 : Int) (hx5 : R32 x5) (b : Int → Int) (N : Int) (i : Nat) (kq : Int) (hpre : tkM σ b N i ∧ wdQ x3 kq ∧ (0 ≤ x1 ∧ x1 + 5 < 2916) ∧ x2 ≤ 9999 ∧ x5 ≤ 9999) : Mt yX12_pair cX12_pair 8 (some .int) d [aR (74), aI (x1), aI (x2), aL (x3), aI (x4), aI (x5)] σ (QI (fun v σ' => pA2 b N σ σ' v x1 (pP2 (kd b N) (nu b N) x2 kq x4 x5 i))) := mt_X12_pair hd hx1 hx2 hx3 hx4 hx5 hO (by
  unfold wp_X12_pair
  obtain ⟨ht, hq, hx, hx2, hx5⟩ := hpre
  refine ⟨by unfold R32; omega, b, N, i, ⟨ht, by omega, hx2⟩, fun u9 σ8 _ _ h => ?_⟩
  cases h1 : pN (kd b N) (nu b N) 0 x2 i with
  | inl e =>
    rw [h1] at h
    obtain ⟨hu, hv, g1, g2⟩ := h
    have e2 : pP2 (kd b N) (nu b N) x2 kq x4 x5 i = .inl e := by simp only [pP2, h1]
    rw [e2]
    exact ⟨fun q => absurd q (by omega), fun _ => ⟨hu, hv, g1, g2.wd (by omega)⟩⟩
  | inr q =>
    rw [h1] at h
    obtain ⟨hu, g1, g2, g3⟩ := h
    refine ⟨fun _ => ⟨by unfold R32; omega, b, N, q.2, kq, ⟨g1, hq, by omega, hx5⟩, fun u σ20 _ _ h => ?_⟩, fun z => absurd hu z⟩
    cases h2 : pW (kd b N) (nu b N) kq x4 x5 q.2 with
    | inl e =>
      rw [h2] at h
      obtain ⟨hu, hv, k1, k2⟩ := h
      have e2 : pP2 (kd b N) (nu b N) x2 kq x4 x5 i = .inl e := by simp only [pP2, h1, h2]
      rw [e2]; exact ⟨hu, hv, k1, g2.tr k2 (by omega) (by omega)⟩
    | inr r =>
      rw [h2] at h
      obtain ⟨hu, k1, k2, k3⟩ := h
      have e2 : pP2 (kd b N) (nu b N) x2 kq x4 x5 i = .inr ((q.1, r.1), r.2) := by simp only [pP2, h1, h2]
      rw [e2]; exact ⟨hu, k1, g2.tr k2 (by omega) (by omega), by rw [k2.2.2 _ (by omega)]; exact g3, k3⟩)

theorem pN_rg {K M : Nat → Int} {lo hi x : Int} {i j : Nat} (h : pN K M lo hi i = .inr (x, j)) : lo ≤ x ∧ x ≤ hi := by
  unfold pN at h
  by_cases q : K i = 41
  · rw [if_pos q] at h
    by_cases r : lo ≤ M i ∧ M i ≤ hi
    · rw [if_pos r] at h
      have := congrArg Prod.fst (Sum.inr.inj h)
      have : M i = x := this
      omega
    · rw [if_neg r] at h; cases h
  · rw [if_neg q] at h; cases h
theorem pW_rg {K M : Nat → Int} {k lo hi x : Int} {i j : Nat} (h : pW K M k lo hi i = .inr (x, j)) : lo ≤ x ∧ x ≤ hi := by
  unfold pW at h
  by_cases q : K i = k
  · rw [if_pos q] at h; exact pN_rg h
  · rw [if_neg q] at h; cases h
theorem pP2_er {K M : Nat → Int} {top kq lo hi : Int} {i : Nat} {e : Int × Nat} (h : pP2 K M top kq lo hi i = .inl e) (c : Int → Int → Nat → QR) : qB (pN K M 0 top i) (fun a i1 => qB (pW K M kq lo hi i1) (fun x i2 => c a x i2)) = .inl e := by
  cases h1 : pN K M 0 top i with
  | inl e' =>
    simp only [pP2, h1] at h
    rw [qB_er rfl]; cases h; rfl
  | inr q =>
    cases h2 : pW K M kq lo hi q.2 with
    | inl e' =>
      simp only [pP2, h1, h2] at h
      rw [qB_ok (show (Sum.inr q : NR) = .inr (q.1, q.2) from rfl), qB_er h2]; cases h; rfl
    | inr r => simp only [pP2, h1, h2] at h; cases h
theorem pP2_ok {K M : Nat → Int} {top kq lo hi : Int} {i j : Nat} {a x : Int} (h : pP2 K M top kq lo hi i = .inr ((a, x), j)) (c : Int → Int → Nat → QR) : qB (pN K M 0 top i) (fun a i1 => qB (pW K M kq lo hi i1) (fun x i2 => c a x i2)) = c a x j ∧ (0 ≤ a ∧ a ≤ top) ∧ (lo ≤ x ∧ x ≤ hi) := by
  cases h1 : pN K M 0 top i with
  | inl e' => simp only [pP2, h1] at h; cases h
  | inr q =>
    cases h2 : pW K M kq lo hi q.2 with
    | inl e' => simp only [pP2, h1, h2] at h; cases h
    | inr r =>
      simp only [pP2, h1, h2] at h
      cases h
      exact ⟨by rw [qB_ok (show (Sum.inr q : NR) = .inr (q.1, q.2) from rfl), qB_ok (show pW K M kq lo hi q.2 = .inr (r.1, r.2) from h2)], pN_rg (show pN K M 0 top i = .inr (q.1, q.2) from h1), pW_rg (show pW K M kq lo hi q.2 = .inr (r.1, r.2) from h2)⟩
def clQ (σ : Mem) (x : Int) (c : Cl) : Prop := clOK c ∧ (1 ≤ clN c.1 → σ 77 (x + 1) = c.2.1) ∧ (2 ≤ clN c.1 → σ 77 (x + 2) = c.2.2.1) ∧ (4 ≤ clN c.1 → σ 77 (x + 3) = c.2.2.2.1 ∧ σ 77 (x + 4) = c.2.2.2.2)
def deA (b : Int → Int) (N : Int) (σ σ' : Mem) (v x : Int) (r : QR) : Prop := match r with
  | .inl e => v = e.1 ∧ 1 ≤ v ∧ tkM σ' b N e.2 ∧ fgF σ σ' (x + 1) (x + 5)
  | .inr q => v = 0 ∧ tkM σ' b N q.2 ∧ fgF σ σ' (x + 1) (x + 5) ∧ clQ σ' x q.1
theorem deA.E {b : Int → Int} {N : Int} {σ σ' : Mem} {v x : Int} {r : QR} {e : Int × Nat} (hr : r = .inl e) (h1 : v = e.1) (h2 : 1 ≤ v) (h3 : tkM σ' b N e.2) (h4 : fgF σ σ' (x + 1) (x + 5)) : deA b N σ σ' v x r := by subst hr; exact ⟨h1, h2, h3, h4⟩
theorem deA.O {b : Int → Int} {N : Int} {σ σ' : Mem} {v x : Int} {r : QR} {c : Cl} {j : Nat} (hr : r = .inr (c, j)) (h1 : v = 0) (h3 : tkM σ' b N j) (h4 : fgF σ σ' (x + 1) (x + 5)) (h5 : clQ σ' x c) : deA b N σ σ' v x r := by subst hr; exact ⟨h1, h3, h4, h5⟩

def wp_X12_roadClause (x1 : Int) (σ : Mem) (Q : Int → Mem → Prop) : Prop :=
  ((0 ≤ (116 : Int) ∧ (116 : Int) < 256) ∧ (0 ≤ (111 : Int) ∧ (111 : Int) < 256)) ∧
   ∃ g4 : Int → Int, ∃ g5 : Int, ∃ g6 : Nat, ∃ g7 : Int, (tkM σ g4 g5 g6 ∧ wdQ ((116 : Int) * 256 + (111 : Int)) g7 ∧ (0 ≤ x1 ∧ x1 + 5 < 2916) ∧ (7 : Int) ≤ 9999 ∧ (7 : Int) ≤ 9999) ∧
   ∀ (u12 : Int) (σ11 : Mem), R32 u12 → OKm σ11 → (pA2 g4 g5 σ σ11 u12 x1 (pP2 (kd g4 g5) (nu g4 g5) (7 : Int) g7 (0 : Int) (7 : Int) g6)) →
   ((u12 ≠ 0) →
    ((u12 = 0) →
     ((0 ≤ (116 : Int) ∧ (116 : Int) < 256) ∧ (0 ≤ (104 : Int) ∧ (104 : Int) < 256) ∧ (0 ≤ (105 : Int) ∧ (105 : Int) < 256) ∧ (0 ≤ (99 : Int) ∧ (99 : Int) < 256) ∧ (0 ≤ (107 : Int) ∧ (107 : Int) < 256)) ∧
     R32 (x1 + 4) ∧
     ∃ g20 : Int → Int, ∃ g21 : Int, ∃ g22 : Nat, ∃ g23 : Int, (tkM σ11 g20 g21 g22 ∧ wdQ (((((116 : Int) * 256 + (104 : Int)) * 256 + (105 : Int)) * 256 + (99 : Int)) * 256 + (107 : Int)) g23 ∧ (0 ≤ (x1 + 4) ∧ (x1 + 4) < 2916) ∧ (99 : Int) ≤ 9999) ∧
     ∀ (u28 : Int) (σ27 : Mem), R32 u28 → OKm σ27 → (figA g20 g21 σ11 σ27 u28 (x1 + 4) (pW (kd g20 g21) (nu g20 g21) g23 (1 : Int) (99 : Int) g22)) →
     Q u28 σ27) ∧
    ((u12 ≠ 0) →
     Q u12 σ11)) ∧
   ((u12 = 0) →
    ((0 ≤ (108 : Int) ∧ (108 : Int) < 256) ∧ (0 ≤ (111 : Int) ∧ (111 : Int) < 256) ∧ (0 ≤ (110 : Int) ∧ (110 : Int) < 256) ∧ (0 ≤ (103 : Int) ∧ (103 : Int) < 256)) ∧
    R32 (x1 + 3) ∧
    ∃ g34 : Int → Int, ∃ g35 : Int, ∃ g36 : Nat, ∃ g37 : Int, (tkM σ11 g34 g35 g36 ∧ wdQ ((((108 : Int) * 256 + (111 : Int)) * 256 + (110 : Int)) * 256 + (103 : Int)) g37 ∧ (0 ≤ (x1 + 3) ∧ (x1 + 3) < 2916) ∧ (9 : Int) ≤ 9999) ∧
    ∀ (u42 : Int) (σ41 : Mem), R32 u42 → OKm σ41 → (figA g34 g35 σ11 σ41 u42 (x1 + 3) (pW (kd g34 g35) (nu g34 g35) g37 (1 : Int) (9 : Int) g36)) →
    ((u42 = 0) →
     ((0 ≤ (116 : Int) ∧ (116 : Int) < 256) ∧ (0 ≤ (104 : Int) ∧ (104 : Int) < 256) ∧ (0 ≤ (105 : Int) ∧ (105 : Int) < 256) ∧ (0 ≤ (99 : Int) ∧ (99 : Int) < 256) ∧ (0 ≤ (107 : Int) ∧ (107 : Int) < 256)) ∧
     R32 (x1 + 4) ∧
     ∃ g49 : Int → Int, ∃ g50 : Int, ∃ g51 : Nat, ∃ g52 : Int, (tkM σ41 g49 g50 g51 ∧ wdQ (((((116 : Int) * 256 + (104 : Int)) * 256 + (105 : Int)) * 256 + (99 : Int)) * 256 + (107 : Int)) g52 ∧ (0 ≤ (x1 + 4) ∧ (x1 + 4) < 2916) ∧ (99 : Int) ≤ 9999) ∧
     ∀ (u57 : Int) (σ56 : Mem), R32 u57 → OKm σ56 → (figA g49 g50 σ41 σ56 u57 (x1 + 4) (pW (kd g49 g50) (nu g49 g50) g52 (1 : Int) (99 : Int) g51)) →
     Q u57 σ56) ∧
    ((u42 ≠ 0) →
     Q u42 σ41))
theorem mt_X12_roadClause {d : Nat} (hd : 5 ≤ d) {x1 : Int} {σ : Mem} {Q : Int → Mem → Prop} (hx1 : R32 x1) (hO : OKm σ) (h : wp_X12_roadClause x1 σ Q) : Mt yX12_roadClause cX12_roadClause 3 (some .int) d [aR (74), aI (x1)] σ (QI Q) := by
  refine Mt.intro (by decide +kernel) (Nat.le_of_ble_eq_true rfl) [(0, aR (74)), (1, aI (x1))] rfl ?_
  unfold wp_X12_roadClause at h
  refine G_aload_n 0 rfl rfl dX12_roadClause_0 ?_
  refine G_iload_n 1 rfl rfl dX12_roadClause_1 ?_
  refine G_bipush (by decide) dX12_roadClause_2 ?_
  refine G_bipush (by decide) dX12_roadClause_4 ?_
  refine G_bipush (by decide) dX12_roadClause_6 ?_
  obtain ⟨c1, h⟩ := h
  refine G_callS (as := [_, _]) cf_X12_135 rfl (sp_X12_w2 (d - 1) (by omega) _ hO _ (rL 116 rfl) _ (rL 111 rfl) c1) (by omega) rfl rfl (Nat.le_of_ble_eq_true rfl) dX12_roadClause_8 ?_
  rintro _ _ ⟨_, rfl, rfl, rfl⟩ o3 r2
  refine G_iconst dX12_roadClause_11 ?_
  refine G_bipush (by decide) dX12_roadClause_12 ?_
  obtain ⟨g4, g5, g6, g7, c8, h⟩ := h
  refine G_callV (as := [_, _, _, _, _]) cf_X12_242 rfl rfl rfl (sp_X12_pair (d - 1) (by omega) _ hO _ hx1 _ (rL 7 rfl) _ (r2 _ rfl) _ (rL 0 rfl) _ (rL 7 rfl) g4 g5 g6 g7 c8) (by omega) rfl rfl (Nat.le_of_ble_eq_true rfl) dX12_roadClause_14 ?_
  rintro _ σ11 ⟨u12, rfl, z13⟩ o10 r9
  have h := h _ _ (r9 _ rfl) o10 z13
  refine G_istore_n (lv' := [(2, aI (u12)), (0, aR (74)), (1, aI (x1))]) rfl rfl (by decide) dX12_roadClause_17 ?_
  refine G_iload_n 0 rfl rfl dX12_roadClause_18 ?_
  refine G_if_ne (r9 _ rfl) dX12_roadClause_19 (tgt := 44) (by decide) (fun c14 => ?_) (fun c14 => ?_)
  · have h := h.1 c14
    refine G_iload_n 0 rfl rfl dX12_roadClause_44 ?_
    refine G_if_eq (r9 _ rfl) dX12_roadClause_45 (tgt := 52) (by decide) (fun c15 => ?_) (fun c15 => ?_)
    · have h := h.1 c15
      refine G_aload_n 1 rfl rfl dX12_roadClause_52 ?_
      refine G_bipush (by decide) dX12_roadClause_53 ?_
      refine G_bipush (by decide) dX12_roadClause_55 ?_
      refine G_bipush (by decide) dX12_roadClause_57 ?_
      refine G_bipush (by decide) dX12_roadClause_59 ?_
      refine G_bipush (by decide) dX12_roadClause_61 ?_
      obtain ⟨c16, h⟩ := h
      refine G_callS (as := [_, _, _, _, _]) cf_X12_147 rfl (sp_X12_w5 (d - 1) (by omega) _ o10 _ (rL 116 rfl) _ (rL 104 rfl) _ (rL 105 rfl) _ (rL 99 rfl) _ (rL 107 rfl) c16) (by omega) rfl rfl (Nat.le_of_ble_eq_true rfl) dX12_roadClause_63 ?_
      rintro _ _ ⟨_, rfl, rfl, rfl⟩ o18 r17
      refine G_iload_n 2 rfl rfl dX12_roadClause_66 ?_
      refine G_iconst dX12_roadClause_67 ?_
      refine G_iadd dX12_roadClause_68 ?_
      refine G_iconst dX12_roadClause_69 ?_
      refine G_bipush (by decide) dX12_roadClause_70 ?_
      obtain ⟨c19, h⟩ := h
      obtain ⟨g20, g21, g22, g23, c24, h⟩ := h
      refine G_callV (as := [_, _, _, _]) cf_X12_238 rfl rfl rfl (sp_X12_worded (d - 1) (by omega) _ o10 _ (r17 _ rfl) _ c19 _ (rL 1 rfl) _ (rL 99 rfl) g20 g21 g22 g23 c24) (by omega) rfl rfl (Nat.le_of_ble_eq_true rfl) dX12_roadClause_72 ?_
      rintro _ σ27 ⟨u28, rfl, z29⟩ o26 r25
      have h := h _ _ (r25 _ rfl) o26 z29
      exact G_iret rfl (r25 _ rfl) dX12_roadClause_75 ⟨_, rfl, h⟩ o26
    · have h := h.2 c15
      refine G_iload_n 0 rfl rfl dX12_roadClause_48 ?_
      refine G_goto (tgt := 75) dX12_roadClause_49 (by decide) ?_
      exact G_iret rfl (r9 _ rfl) dX12_roadClause_75 ⟨_, rfl, h⟩ o10
  · have h := h.2 c14
    refine G_aload_n 1 rfl rfl dX12_roadClause_22 ?_
    refine G_bipush (by decide) dX12_roadClause_23 ?_
    refine G_bipush (by decide) dX12_roadClause_25 ?_
    refine G_bipush (by decide) dX12_roadClause_27 ?_
    refine G_bipush (by decide) dX12_roadClause_29 ?_
    obtain ⟨c30, h⟩ := h
    refine G_callS (as := [_, _, _, _]) cf_X12_143 rfl (sp_X12_w4 (d - 1) (by omega) _ o10 _ (rL 108 rfl) _ (rL 111 rfl) _ (rL 110 rfl) _ (rL 103 rfl) c30) (by omega) rfl rfl (Nat.le_of_ble_eq_true rfl) dX12_roadClause_31 ?_
    rintro _ _ ⟨_, rfl, rfl, rfl⟩ o32 r31
    refine G_iload_n 2 rfl rfl dX12_roadClause_34 ?_
    refine G_iconst dX12_roadClause_35 ?_
    refine G_iadd dX12_roadClause_36 ?_
    refine G_iconst dX12_roadClause_37 ?_
    refine G_bipush (by decide) dX12_roadClause_38 ?_
    obtain ⟨c33, h⟩ := h
    obtain ⟨g34, g35, g36, g37, c38, h⟩ := h
    refine G_callV (as := [_, _, _, _]) cf_X12_238 rfl rfl rfl (sp_X12_worded (d - 1) (by omega) _ o10 _ (r31 _ rfl) _ c33 _ (rL 1 rfl) _ (rL 9 rfl) g34 g35 g36 g37 c38) (by omega) rfl rfl (Nat.le_of_ble_eq_true rfl) dX12_roadClause_40 ?_
    rintro _ σ41 ⟨u42, rfl, z43⟩ o40 r39
    have h := h _ _ (r39 _ rfl) o40 z43
    refine G_istore_n (lv' := [(2, aI (u42)), (0, aR (74)), (1, aI (x1))]) rfl rfl (by decide) dX12_roadClause_43 ?_
    refine G_iload_n 0 rfl rfl dX12_roadClause_44 ?_
    refine G_if_eq (r39 _ rfl) dX12_roadClause_45 (tgt := 52) (by decide) (fun c44 => ?_) (fun c44 => ?_)
    · have h := h.1 c44
      refine G_aload_n 1 rfl rfl dX12_roadClause_52 ?_
      refine G_bipush (by decide) dX12_roadClause_53 ?_
      refine G_bipush (by decide) dX12_roadClause_55 ?_
      refine G_bipush (by decide) dX12_roadClause_57 ?_
      refine G_bipush (by decide) dX12_roadClause_59 ?_
      refine G_bipush (by decide) dX12_roadClause_61 ?_
      obtain ⟨c45, h⟩ := h
      refine G_callS (as := [_, _, _, _, _]) cf_X12_147 rfl (sp_X12_w5 (d - 1) (by omega) _ o40 _ (rL 116 rfl) _ (rL 104 rfl) _ (rL 105 rfl) _ (rL 99 rfl) _ (rL 107 rfl) c45) (by omega) rfl rfl (Nat.le_of_ble_eq_true rfl) dX12_roadClause_63 ?_
      rintro _ _ ⟨_, rfl, rfl, rfl⟩ o47 r46
      refine G_iload_n 2 rfl rfl dX12_roadClause_66 ?_
      refine G_iconst dX12_roadClause_67 ?_
      refine G_iadd dX12_roadClause_68 ?_
      refine G_iconst dX12_roadClause_69 ?_
      refine G_bipush (by decide) dX12_roadClause_70 ?_
      obtain ⟨c48, h⟩ := h
      obtain ⟨g49, g50, g51, g52, c53, h⟩ := h
      refine G_callV (as := [_, _, _, _]) cf_X12_238 rfl rfl rfl (sp_X12_worded (d - 1) (by omega) _ o40 _ (r46 _ rfl) _ c48 _ (rL 1 rfl) _ (rL 99 rfl) g49 g50 g51 g52 c53) (by omega) rfl rfl (Nat.le_of_ble_eq_true rfl) dX12_roadClause_72 ?_
      rintro _ σ56 ⟨u57, rfl, z58⟩ o55 r54
      have h := h _ _ (r54 _ rfl) o55 z58
      exact G_iret rfl (r54 _ rfl) dX12_roadClause_75 ⟨_, rfl, h⟩ o55
    · have h := h.2 c44
      refine G_iload_n 0 rfl rfl dX12_roadClause_48 ?_
      refine G_goto (tgt := 75) dX12_roadClause_49 (by decide) ?_
      exact G_iret rfl (r39 _ rfl) dX12_roadClause_75 ⟨_, rfl, h⟩ o40

theorem sp_X12_roadClause (d : Nat) (hd : 5 ≤ d) (σ : Mem) (hO : OKm σ) (x1 : Int) (hx1 : R32 x1) (b : Int → Int) (N : Int) (i : Nat) (hpre : tkM σ b N i ∧ (0 ≤ x1 ∧ x1 + 5 < 2916)) : Mt yX12_roadClause cX12_roadClause 3 (some .int) d [aR (74), aI (x1)] σ (QI (fun v σ' => deA b N σ σ' v x1 (pDeed (kd b N) (nu b N) 2 i))) := mt_X12_roadClause hd hx1 hO (by
  unfold wp_X12_roadClause
  obtain ⟨ht, hx⟩ := hpre
  rw [pD2]
  refine ⟨by decide, b, N, i, 12, ⟨ht, fun σ b N i h => tkw_to h, by omega, by omega, by omega⟩, fun u12 σ11 _ _ h => ?_⟩
  cases h1 : pP2 (kd b N) (nu b N) 7 12 0 7 i with
  | inl e =>
    rw [h1] at h
    obtain ⟨hu, hv, g1, g2⟩ := h
    have he := pP2_er h1 (fun a x i2 => qB (pW (kd b N) (nu b N) 3 1 9 i2) (fun l i3 => qB (pW (kd b N) (nu b N) 4 1 99 i3) (fun t i4 => .inr ((2, a, x, l, t), i4))))
    exact ⟨fun z => ⟨fun z2 => absurd z2 z, fun _ => deA.E he hu hv g1 (g2.wd (by omega))⟩, fun z => absurd z (by omega)⟩
  | inr q =>
    obtain ⟨⟨a1, b1⟩, j⟩ := q
    rw [h1] at h
    obtain ⟨hu, g1, g2, g3, g4⟩ := h
    obtain ⟨he, r1, r2⟩ := pP2_ok h1 (fun a x i2 => qB (pW (kd b N) (nu b N) 3 1 9 i2) (fun l i3 => qB (pW (kd b N) (nu b N) 4 1 99 i3) (fun t i4 => .inr ((2, a, x, l, t), i4))))
    refine ⟨fun z => absurd hu z, fun _ => ⟨by decide, by unfold R32; omega, b, N, j, 3, ⟨g1, fun σ b N i h => tkw_long h, by omega, by omega⟩, fun u42 σ41 _ _ h => ?_⟩⟩
    cases h2 : pW (kd b N) (nu b N) 3 1 9 j with
    | inl e =>
      rw [h2] at h
      obtain ⟨hu, hv, k1, k2⟩ := h
      exact ⟨fun z => absurd z (by omega), fun _ => deA.E (by rw [he, qB_er h2]) hu hv k1 (g2.tr k2 (by omega) (by omega))⟩
    | inr r =>
      obtain ⟨l1, j2⟩ := r
      rw [h2] at h
      obtain ⟨hu, k1, k2, k3⟩ := h
      have r3 := pW_rg h2
      refine ⟨fun _ => ⟨by decide, by unfold R32; omega, b, N, j2, 4, ⟨k1, fun σ b N i h => tkw_thick h, by omega, by omega⟩, fun u57 σ56 _ _ h => ?_⟩, fun z => absurd hu z⟩
      cases h3 : pW (kd b N) (nu b N) 4 1 99 j2 with
      | inl e =>
        rw [h3] at h
        obtain ⟨hu, hv, m1, m2⟩ := h
        exact deA.E (by rw [he, qB_ok h2, qB_er h3]) hu hv m1 ((g2.tr (lo := x1 + 1) (hi := x1 + 5) k2 (by omega) (by omega)).tr m2 (by omega) (by omega))
      | inr t =>
        obtain ⟨t1, j3⟩ := t
        rw [h3] at h
        obtain ⟨hu, m1, m2, m3⟩ := h
        have r4 := pW_rg h3
        refine deA.O (by rw [he, qB_ok h2, qB_ok h3]) hu m1 ((g2.tr (lo := x1 + 1) (hi := x1 + 5) k2 (by omega) (by omega)).tr m2 (by omega) (by omega)) ⟨.inr (.inl ⟨rfl, r1, r2, r3, r4⟩), fun _ => ?_, fun _ => ?_, fun _ => ⟨?_, m3⟩⟩
        · rw [m2.2.2 _ (by omega), k2.2.2 _ (by omega)]; exact g3
        · rw [m2.2.2 _ (by omega), k2.2.2 _ (by omega)]; exact g4
        · rw [m2.2.2 _ (by omega)]; exact k3)

def lwF (σ σ' : Mem) (ti x a : Int) : Prop := Fr [74, 77, 79] σ σ' ∧ (∀ j : Int, (j < 7 ∨ j = 12 ∨ j = 14 ∨ j = 15 ∨ 19 ≤ j) → σ' 74 j = σ 74 j) ∧ ∀ j : Int, j ≠ x + 1 → j ≠ x + 2 → (j < 729 * ti + 121 + 2 * a ∨ 729 * ti + 729 ≤ j) → σ' 77 j = σ 77 j
def lwA (b : Int → Int) (N ti : Int) (σ σ' : Mem) (v x : Int) (r : PR) : Prop := match r with
  | .inl e => v = e.1 ∧ 1 ≤ v ∧ tkM σ' b N e.2 ∧ lwF σ σ' ti x (σ 74 13)
  | .inr q => v = 0 ∧ tkM σ' b N q.2 ∧ lwF σ σ' ti x (σ 74 13) ∧ (σ' 74 13 ≤ (q.2 : Int) ∧ q.2 ≤ 300) ∧ (σ' 77 (x + 1) = σ 74 13 ∧ σ' 77 (x + 2) = σ' 74 13) ∧ FM (cdM σ' ti) (ovM σ' ti) (σ 74 13) (σ' 74 13) q.1 ∧ Bd q.1

def wp_X12_lawClause (x1 : Int) (σ : Mem) (Q : Int → Mem → Prop) : Prop :=
  (0 ≤ (x1 + 1) ∧ (x1 + 1) < 2916) ∧
   ∀ σ2 : Mem, σ2 = mset σ 77 (x1 + 1) (σ 74 13) →
   ∃ g5 : Int → Int, ∃ g6 : Int, ∃ g7 : Int, ∃ g8 : Int, ∃ g9 : Nat, (tkM σ2 g5 g6 g9 ∧ (0 ≤ g7 ∧ g7 ≤ 3) ∧ σ2 74 12 = 729 * g7 ∧ σ2 74 14 = (if g8 = 9 then 0 else 1) ∧ (0 ≤ σ2 74 13 ∧ σ2 74 13 ≤ (g9 : Int) ∧ g9 ≤ 300)) ∧
   ∀ (u14 : Int) (σ13 : Mem), R32 u14 → OKm σ13 → (smA g5 g6 g7 σ2 σ13 u14 (pS (kd g5 g6) (nu g5 g6) g8 8 g9)) →
   (0 ≤ (x1 + 2) ∧ (x1 + 2) < 2916) ∧
   ∀ σ17 : Mem, σ17 = mset σ13 77 (x1 + 2) (σ13 74 13) →
   Q u14 σ17
theorem mt_X12_lawClause {d : Nat} (hd : 7 ≤ d) {x1 : Int} {σ : Mem} {Q : Int → Mem → Prop} (hx1 : R32 x1) (hO : OKm σ) (h : wp_X12_lawClause x1 σ Q) : Mt yX12_lawClause cX12_lawClause 3 (some .int) d [aR (74), aI (x1)] σ (QI Q) := by
  refine Mt.intro (by decide +kernel) (Nat.le_of_ble_eq_true rfl) [(0, aR (74)), (1, aI (x1))] rfl ?_
  unfold wp_X12_lawClause at h
  refine G_aload_n 0 rfl rfl dX12_lawClause_0 ?_
  refine G_get (k := 2) (kd := (2, 77)) (v := aR 77) gf_X12_16 rfl rfl rfl rfl dX12_lawClause_1 ?_
  refine G_iload_n 1 rfl rfl dX12_lawClause_4 ?_
  refine G_iconst dX12_lawClause_5 ?_
  refine G_iadd dX12_lawClause_6 ?_
  refine G_aload_n 0 rfl rfl dX12_lawClause_7 ?_
  refine G_get (k := 13) (kd := (0, 0)) (v := aI (σ 74 13)) gf_X12_154 rfl rfl rfl rfl dX12_lawClause_8 ?_
  obtain ⟨c1, h⟩ := h
  obtain ⟨σ2, e4⟩ : ∃ τ : Mem, τ = mset σ 77 (x1 + 1) (σ 74 13) := ⟨_, rfl⟩
  have h := h σ2 e4
  have o3 : OKm σ2 := by rw [e4]; exact OKm.seti hO _ _ _ (OKm.i hO 74 13 rfl) (isLg_row (show shp 77 = (1, 2916, []) from rfl) _)
  refine G_iast (n := 2916) rfl c1.1 c1.2 dX12_lawClause_11 ?_
  rw [← e4]
  refine G_aload_n 0 rfl rfl dX12_lawClause_12 ?_
  obtain ⟨g5, g6, g7, g8, g9, c10, h⟩ := h
  refine G_callV (as := []) cf_X12_235 rfl rfl rfl (sp_X12_summed (d - 1) (by omega) _ o3  g5 g6 g7 g8 g9 c10) (by omega) rfl rfl (Nat.le_of_ble_eq_true rfl) dX12_lawClause_13 ?_
  rintro _ σ13 ⟨u14, rfl, z15⟩ o12 r11
  have h := h _ _ (r11 _ rfl) o12 z15
  refine G_istore_n (lv' := [(2, aI (u14)), (0, aR (74)), (1, aI (x1))]) rfl rfl (by decide) dX12_lawClause_16 ?_
  refine G_aload_n 1 rfl rfl dX12_lawClause_17 ?_
  refine G_get (k := 2) (kd := (2, 77)) (v := aR 77) gf_X12_16 rfl rfl rfl rfl dX12_lawClause_18 ?_
  refine G_iload_n 2 rfl rfl dX12_lawClause_21 ?_
  refine G_iconst dX12_lawClause_22 ?_
  refine G_iadd dX12_lawClause_23 ?_
  refine G_aload_n 1 rfl rfl dX12_lawClause_24 ?_
  refine G_get (k := 13) (kd := (0, 0)) (v := aI (σ13 74 13)) gf_X12_154 rfl rfl rfl rfl dX12_lawClause_25 ?_
  obtain ⟨c16, h⟩ := h
  obtain ⟨σ17, e19⟩ : ∃ τ : Mem, τ = mset σ13 77 (x1 + 2) (σ13 74 13) := ⟨_, rfl⟩
  have h := h σ17 e19
  have o18 : OKm σ17 := by rw [e19]; exact OKm.seti o12 _ _ _ (OKm.i o12 74 13 rfl) (isLg_row (show shp 77 = (1, 2916, []) from rfl) _)
  refine G_iast (n := 2916) rfl c16.1 c16.2 dX12_lawClause_28 ?_
  rw [← e19]
  refine G_iload_n 0 rfl rfl dX12_lawClause_29 ?_
  exact G_iret rfl (r11 _ rfl) dX12_lawClause_30 ⟨_, rfl, h⟩ o18

theorem sp_X12_lawClause (d : Nat) (hd : 7 ≤ d) (σ : Mem) (hO : OKm σ) (x1 : Int) (hx1 : R32 x1) (b : Int → Int) (N : Int) (ti : Int) (lw : Int) (i : Nat) (hpre : tkM σ b N i ∧ (0 ≤ ti ∧ ti ≤ 3) ∧ σ 74 12 = 729 * ti ∧ σ 74 14 = (if lw = 9 then 0 else 1) ∧ (0 ≤ σ 74 13 ∧ σ 74 13 ≤ (i : Int) ∧ i ≤ 300) ∧ (729 * ti < x1 ∧ x1 + 4 ≤ 729 * ti + 120)) : Mt yX12_lawClause cX12_lawClause 3 (some .int) d [aR (74), aI (x1)] σ (QI (fun v σ' => lwA b N ti σ σ' v x1 (pS (kd b N) (nu b N) lw 8 i))) := mt_X12_lawClause hd hx1 hO (by
  unfold wp_X12_lawClause
  obtain ⟨ht, hti, h12, h14, h13, hx⟩ := hpre
  refine ⟨by omega, fun σ2 e2 => ?_⟩
  have c : ∀ j : Int, σ2 74 j = σ 74 j := fun j => by rw [e2, mset_off (by omega)]
  have t2 : tkM σ2 b N i := by rw [e2]; exact ht.set (by omega) (fun q => by omega)
  refine ⟨b, N, ti, lw, i, ⟨t2, hti, by rw [c]; exact h12, by rw [c]; exact h14, by rw [c]; exact h13⟩, fun u14 σ13 _ _ h => ⟨by omega, fun σ17 e17 => ?_⟩⟩
  have LF : frL σ2 σ13 ti (σ2 74 13) → lwF σ σ17 ti x1 (σ 74 13) := fun hf => by
    rw [c] at hf
    refine ⟨?_, fun j q => by rw [e17, mset_off (by omega), hf.2.1 j q]; exact c j, fun j q1 q2 q3 => by rw [e17, mset_miss q2, hf.2.2 j q3, e2, mset_miss q1]⟩
    rw [e17]
    exact Fr.set (fun q hq => by rw [hf.1 q hq, e2, mset_ne (by simp at hq; omega)]) (by simp)
  have T : ∀ j : Nat, tkM σ13 b N j → tkM σ17 b N j := fun j h => by rw [e17]; exact h.set (by omega) (fun q => by omega)
  cases hr : pS (kd b N) (nu b N) lw 8 i with
  | inl e =>
    rw [hr] at h
    obtain ⟨a1, a2, a3, a4⟩ := h
    exact ⟨a1, a2, T _ a3, LF a4⟩
  | inr q =>
    rw [hr] at h
    obtain ⟨a1, a3, a4, a5, a6, a7⟩ := h
    have d : σ17 74 13 = σ13 74 13 := by rw [e17, mset_off (by omega)]
    refine ⟨a1, T _ a3, LF a4, by rw [d]; exact a5, ⟨?_, by rw [d, e17, mset_hit rfl]⟩, ?_, a7⟩
    · rw [e17, mset_miss (by omega), a4.2.2 _ (by rw [c]; omega), e2, mset_hit rfl]
    · rw [d]
      rw [c] at a6
      have hab := a6.1
      exact a6.congr (fun j q1 q2 => ⟨by show σ17 77 _ = σ13 77 _; rw [e17, mset_miss (by omega)], by show σ17 77 _ = σ13 77 _; rw [e17, mset_miss (by omega)]⟩))

theorem deA.P2 {b : Int → Int} {N : Int} {σ σ' : Mem} {v x top kq lo hi c : Int} {i : Nat} (h : pA2 b N σ σ' v x (pP2 (kd b N) (nu b N) top kq lo hi i)) (hc : clN c = 2) (ho : ∀ a y, 0 ≤ a → a ≤ top → lo ≤ y → y ≤ hi → clOK (c, a, y, 0, 0)) : deA b N σ σ' v x (qB (pN (kd b N) (nu b N) 0 top i) (fun a i1 => qB (pW (kd b N) (nu b N) kq lo hi i1) (fun y i2 => .inr ((c, a, y, 0, 0), i2)))) := by
  cases h1 : pP2 (kd b N) (nu b N) top kq lo hi i with
  | inl e =>
    rw [h1] at h
    obtain ⟨hu, hv, g1, g2⟩ := h
    exact deA.E (pP2_er h1 (fun a y i2 => .inr ((c, a, y, 0, 0), i2))) hu hv g1 (g2.wd (by omega))
  | inr q =>
    obtain ⟨⟨a1, b1⟩, j⟩ := q
    rw [h1] at h
    obtain ⟨hu, g1, g2, g3, g4⟩ := h
    obtain ⟨he, r1, r2⟩ := pP2_ok h1 (fun a y i2 => .inr ((c, a, y, 0, 0), i2))
    exact deA.O he hu g1 (g2.wd (by omega)) ⟨ho a1 b1 r1.1 r1.2 r2.1 r2.2, fun _ => g3, fun _ => g4, fun q => absurd q (by show ¬ 4 ≤ clN c; omega)⟩
theorem deA.P1 {b : Int → Int} {N : Int} {σ σ' : Mem} {v x lo hi c : Int} {i : Nat} (h : figA b N σ σ' v (x + 1) (pN (kd b N) (nu b N) lo hi i)) (hc : clN c = 1) (ho : ∀ a, lo ≤ a → a ≤ hi → clOK (c, a, 0, 0, 0)) : deA b N σ σ' v x (qB (pN (kd b N) (nu b N) lo hi i) (fun a i1 => .inr ((c, a, 0, 0, 0), i1))) := by
  cases h1 : pN (kd b N) (nu b N) lo hi i with
  | inl e =>
    rw [h1] at h
    obtain ⟨hu, hv, g1, g2⟩ := h
    exact deA.E (qB_er rfl) hu hv g1 (g2.wd (by omega))
  | inr q =>
    obtain ⟨a1, j⟩ := q
    rw [h1] at h
    obtain ⟨hu, g1, g2, g3⟩ := h
    have r := pN_rg h1
    exact deA.O (qB_ok rfl) hu g1 (g2.wd (by omega)) ⟨ho a1 r.1 r.2, fun _ => g3, fun q => absurd q (by show ¬ 2 ≤ clN c; omega), fun q => absurd q (by show ¬ 4 ≤ clN c; omega)⟩

def wp_X12_body (x1 : Int) (x2 : Int) (σ : Mem) (Q : Int → Mem → Prop) : Prop :=
  (x1 = 2 →
    ∃ g2 : Int → Int, ∃ g3 : Int, ∃ g4 : Nat, (tkM σ g2 g3 g4 ∧ (0 ≤ x2 ∧ x2 + 5 < 2916)) ∧
    ∀ (u9 : Int) (σ8 : Mem), R32 u9 → OKm σ8 → (deA g2 g3 σ σ8 u9 x2 (pDeed (kd g2 g3) (nu g2 g3) 2 g4)) →
    Q u9 σ8) ∧
   (x1 ≠ 2 →
    (x1 = 3 →
     ((0 ≤ (109 : Int) ∧ (109 : Int) < 256) ∧ (0 ≤ (111 : Int) ∧ (111 : Int) < 256) ∧ (0 ≤ (117 : Int) ∧ (117 : Int) < 256) ∧ (0 ≤ (116 : Int) ∧ (116 : Int) < 256) ∧ (0 ≤ (104 : Int) ∧ (104 : Int) < 256)) ∧
     ∃ g15 : Int → Int, ∃ g16 : Int, ∃ g17 : Nat, ∃ g18 : Int, (tkM σ g15 g16 g17 ∧ wdQ (((((109 : Int) * 256 + (111 : Int)) * 256 + (117 : Int)) * 256 + (116 : Int)) * 256 + (104 : Int)) g18 ∧ (0 ≤ x2 ∧ x2 + 5 < 2916) ∧ (7 : Int) ≤ 9999 ∧ (9 : Int) ≤ 9999) ∧
     ∀ (u23 : Int) (σ22 : Mem), R32 u23 → OKm σ22 → (pA2 g15 g16 σ σ22 u23 x2 (pP2 (kd g15 g16) (nu g15 g16) (7 : Int) g18 (1 : Int) (9 : Int) g17)) →
     Q u23 σ22) ∧
    (x1 ≠ 3 →
     (x1 = 4 →
      ((0 ≤ (98 : Int) ∧ (98 : Int) < 256) ∧ (0 ≤ (121 : Int) ∧ (121 : Int) < 256)) ∧
      ∃ g29 : Int → Int, ∃ g30 : Int, ∃ g31 : Nat, ∃ g32 : Int, (tkM σ g29 g30 g31 ∧ wdQ ((98 : Int) * 256 + (121 : Int)) g32 ∧ (0 ≤ x2 ∧ x2 + 5 < 2916) ∧ (15 : Int) ≤ 9999 ∧ (5 : Int) ≤ 9999) ∧
      ∀ (u37 : Int) (σ36 : Mem), R32 u37 → OKm σ36 → (pA2 g29 g30 σ σ36 u37 x2 (pP2 (kd g29 g30) (nu g29 g30) (15 : Int) g32 (0 : Int) (5 : Int) g31)) →
      Q u37 σ36) ∧
     (x1 ≠ 4 →
      (x1 = 5 →
       R32 (x2 + 1) ∧
       ∃ g41 : Int → Int, ∃ g42 : Int, ∃ g43 : Nat, (tkM σ g41 g42 g43 ∧ (0 ≤ (x2 + 1) ∧ (x2 + 1) < 2916) ∧ (15 : Int) ≤ 9999) ∧
       ∀ (u48 : Int) (σ47 : Mem), R32 u48 → OKm σ47 → (figA g41 g42 σ σ47 u48 (x2 + 1) (pN (kd g41 g42) (nu g41 g42) (0 : Int) (15 : Int) g43)) →
       Q u48 σ47) ∧
      (x1 ≠ 5 →
       (x1 = 6 →
        R32 (x2 + 1) ∧
        ∃ g52 : Int → Int, ∃ g53 : Int, ∃ g54 : Nat, (tkM σ g52 g53 g54 ∧ (0 ≤ (x2 + 1) ∧ (x2 + 1) < 2916) ∧ (99 : Int) ≤ 9999) ∧
        ∀ (u59 : Int) (σ58 : Mem), R32 u59 → OKm σ58 → (figA g52 g53 σ σ58 u59 (x2 + 1) (pN (kd g52 g53) (nu g52 g53) (1 : Int) (99 : Int) g54)) →
        Q u59 σ58) ∧
       (x1 ≠ 6 →
        (x1 = 7 →
         R32 (x2 + 1) ∧
         ∃ g63 : Int → Int, ∃ g64 : Int, ∃ g65 : Nat, (tkM σ g63 g64 g65 ∧ (0 ≤ (x2 + 1) ∧ (x2 + 1) < 2916) ∧ (60 : Int) ≤ 9999) ∧
         ∀ (u70 : Int) (σ69 : Mem), R32 u70 → OKm σ69 → (figA g63 g64 σ σ69 u70 (x2 + 1) (pN (kd g63 g64) (nu g63 g64) (1 : Int) (60 : Int) g65)) →
         Q u70 σ69) ∧
        (x1 ≠ 7 →
         ∃ g72 : Int → Int, ∃ g73 : Int, ∃ g74 : Int, ∃ g75 : Int, ∃ g76 : Nat, (tkM σ g72 g73 g76 ∧ (0 ≤ g74 ∧ g74 ≤ 3) ∧ σ 74 12 = 729 * g74 ∧ σ 74 14 = (if g75 = 9 then 0 else 1) ∧ (0 ≤ σ 74 13 ∧ σ 74 13 ≤ (g76 : Int) ∧ g76 ≤ 300) ∧ (729 * g74 < x2 ∧ x2 + 4 ≤ 729 * g74 + 120)) ∧
         ∀ (u81 : Int) (σ80 : Mem), R32 u81 → OKm σ80 → (lwA g72 g73 g74 σ σ80 u81 x2 (pS (kd g72 g73) (nu g72 g73) g75 8 g76)) →
         Q u81 σ80))))))
theorem mt_X12_body {d : Nat} (hd : 8 ≤ d) {x1 : Int} {x2 : Int} {σ : Mem} {Q : Int → Mem → Prop} (hx1 : R32 x1) (hx2 : R32 x2) (hO : OKm σ) (h : wp_X12_body x1 x2 σ Q) : Mt yX12_body cX12_body 3 (some .int) d [aR (74), aI (x1), aI (x2)] σ (QI Q) := by
  refine Mt.intro (by decide +kernel) (Nat.le_of_ble_eq_true rfl) [(0, aR (74)), (1, aI (x1)), (2, aI (x2))] rfl ?_
  unfold wp_X12_body at h
  refine G_iload_n 1 rfl rfl dX12_body_0 ?_
  refine G_tsw (tgt := 40) 0 2 (by decide) (rL _ rfl) (by decide) rfl (by decide) hx1 dX12_body_1 (fun n83 => ?_) (fun n83 => ?_)
  · have h := h.1 n83
    refine G_aload_n 0 rfl rfl dX12_body_40 ?_
    refine G_iload_n 2 rfl rfl dX12_body_41 ?_
    obtain ⟨g2, g3, g4, c5, h⟩ := h
    refine G_callV (as := [_]) cf_X12_246 rfl rfl rfl (sp_X12_roadClause (d - 1) (by omega) _ hO _ hx2 g2 g3 g4 c5) (by omega) rfl rfl (Nat.le_of_ble_eq_true rfl) dX12_body_42 ?_
    rintro _ σ8 ⟨u9, rfl, z10⟩ o7 r6
    have h := h _ _ (r6 _ rfl) o7 z10
    exact G_iret rfl (r6 _ rfl) dX12_body_45 ⟨_, rfl, h⟩ o7
  · have h := h.2 n83
    have n84 : (3 : Int) ≤ x1 ∨ x1 < 2 := tsw_next (by decide) (tsw_0 _ _) n83
    refine G_tsw (tgt := 46) 1 3 (by decide) (rL _ rfl) (by decide) rfl (by decide) hx1 dX12_body_1 (fun n85 => ?_) (fun n85 => ?_)
    · have h := h.1 n85
      refine G_aload_n 0 rfl rfl dX12_body_46 ?_
      refine G_iload_n 2 rfl rfl dX12_body_47 ?_
      refine G_bipush (by decide) dX12_body_48 ?_
      refine G_bipush (by decide) dX12_body_50 ?_
      refine G_bipush (by decide) dX12_body_52 ?_
      refine G_bipush (by decide) dX12_body_54 ?_
      refine G_bipush (by decide) dX12_body_56 ?_
      refine G_bipush (by decide) dX12_body_58 ?_
      obtain ⟨c12, h⟩ := h
      refine G_callS (as := [_, _, _, _, _]) cf_X12_147 rfl (sp_X12_w5 (d - 1) (by omega) _ hO _ (rL 109 rfl) _ (rL 111 rfl) _ (rL 117 rfl) _ (rL 116 rfl) _ (rL 104 rfl) c12) (by omega) rfl rfl (Nat.le_of_ble_eq_true rfl) dX12_body_60 ?_
      rintro _ _ ⟨_, rfl, rfl, rfl⟩ o14 r13
      refine G_iconst dX12_body_63 ?_
      refine G_bipush (by decide) dX12_body_64 ?_
      obtain ⟨g15, g16, g17, g18, c19, h⟩ := h
      refine G_callV (as := [_, _, _, _, _]) cf_X12_242 rfl rfl rfl (sp_X12_pair (d - 1) (by omega) _ hO _ hx2 _ (rL 7 rfl) _ (r13 _ rfl) _ (rL 1 rfl) _ (rL 9 rfl) g15 g16 g17 g18 c19) (by omega) rfl rfl (Nat.le_of_ble_eq_true rfl) dX12_body_66 ?_
      rintro _ σ22 ⟨u23, rfl, z24⟩ o21 r20
      have h := h _ _ (r20 _ rfl) o21 z24
      exact G_iret rfl (r20 _ rfl) dX12_body_69 ⟨_, rfl, h⟩ o21
    · have h := h.2 n85
      have n86 : (4 : Int) ≤ x1 ∨ x1 < 2 := tsw_next (by decide) n84 n85
      refine G_tsw (tgt := 70) 2 4 (by decide) (rL _ rfl) (by decide) rfl (by decide) hx1 dX12_body_1 (fun n87 => ?_) (fun n87 => ?_)
      · have h := h.1 n87
        refine G_aload_n 0 rfl rfl dX12_body_70 ?_
        refine G_iload_n 2 rfl rfl dX12_body_71 ?_
        refine G_bipush (by decide) dX12_body_72 ?_
        refine G_bipush (by decide) dX12_body_74 ?_
        refine G_bipush (by decide) dX12_body_76 ?_
        obtain ⟨c26, h⟩ := h
        refine G_callS (as := [_, _]) cf_X12_135 rfl (sp_X12_w2 (d - 1) (by omega) _ hO _ (rL 98 rfl) _ (rL 121 rfl) c26) (by omega) rfl rfl (Nat.le_of_ble_eq_true rfl) dX12_body_78 ?_
        rintro _ _ ⟨_, rfl, rfl, rfl⟩ o28 r27
        refine G_iconst dX12_body_81 ?_
        refine G_iconst dX12_body_82 ?_
        obtain ⟨g29, g30, g31, g32, c33, h⟩ := h
        refine G_callV (as := [_, _, _, _, _]) cf_X12_242 rfl rfl rfl (sp_X12_pair (d - 1) (by omega) _ hO _ hx2 _ (rL 15 rfl) _ (r27 _ rfl) _ (rL 0 rfl) _ (rL 5 rfl) g29 g30 g31 g32 c33) (by omega) rfl rfl (Nat.le_of_ble_eq_true rfl) dX12_body_83 ?_
        rintro _ σ36 ⟨u37, rfl, z38⟩ o35 r34
        have h := h _ _ (r34 _ rfl) o35 z38
        exact G_iret rfl (r34 _ rfl) dX12_body_86 ⟨_, rfl, h⟩ o35
      · have h := h.2 n87
        have n88 : (5 : Int) ≤ x1 ∨ x1 < 2 := tsw_next (by decide) n86 n87
        refine G_tsw (tgt := 87) 3 5 (by decide) (rL _ rfl) (by decide) rfl (by decide) hx1 dX12_body_1 (fun n89 => ?_) (fun n89 => ?_)
        · have h := h.1 n89
          refine G_aload_n 0 rfl rfl dX12_body_87 ?_
          refine G_iload_n 2 rfl rfl dX12_body_88 ?_
          refine G_iconst dX12_body_89 ?_
          refine G_iadd dX12_body_90 ?_
          refine G_iconst dX12_body_91 ?_
          refine G_bipush (by decide) dX12_body_92 ?_
          obtain ⟨c40, h⟩ := h
          obtain ⟨g41, g42, g43, c44, h⟩ := h
          refine G_callV (as := [_, _, _]) cf_X12_231 rfl rfl rfl (sp_X12_figure (d - 1) (by omega) _ hO _ c40 _ (rL 0 rfl) _ (rL 15 rfl) g41 g42 g43 c44) (by omega) rfl rfl (Nat.le_of_ble_eq_true rfl) dX12_body_94 ?_
          rintro _ σ47 ⟨u48, rfl, z49⟩ o46 r45
          have h := h _ _ (r45 _ rfl) o46 z49
          exact G_iret rfl (r45 _ rfl) dX12_body_97 ⟨_, rfl, h⟩ o46
        · have h := h.2 n89
          have n90 : (6 : Int) ≤ x1 ∨ x1 < 2 := tsw_next (by decide) n88 n89
          refine G_tsw (tgt := 98) 4 6 (by decide) (rL _ rfl) (by decide) rfl (by decide) hx1 dX12_body_1 (fun n91 => ?_) (fun n91 => ?_)
          · have h := h.1 n91
            refine G_aload_n 0 rfl rfl dX12_body_98 ?_
            refine G_iload_n 2 rfl rfl dX12_body_99 ?_
            refine G_iconst dX12_body_100 ?_
            refine G_iadd dX12_body_101 ?_
            refine G_iconst dX12_body_102 ?_
            refine G_bipush (by decide) dX12_body_103 ?_
            obtain ⟨c51, h⟩ := h
            obtain ⟨g52, g53, g54, c55, h⟩ := h
            refine G_callV (as := [_, _, _]) cf_X12_231 rfl rfl rfl (sp_X12_figure (d - 1) (by omega) _ hO _ c51 _ (rL 1 rfl) _ (rL 99 rfl) g52 g53 g54 c55) (by omega) rfl rfl (Nat.le_of_ble_eq_true rfl) dX12_body_105 ?_
            rintro _ σ58 ⟨u59, rfl, z60⟩ o57 r56
            have h := h _ _ (r56 _ rfl) o57 z60
            exact G_iret rfl (r56 _ rfl) dX12_body_108 ⟨_, rfl, h⟩ o57
          · have h := h.2 n91
            have n92 : (7 : Int) ≤ x1 ∨ x1 < 2 := tsw_next (by decide) n90 n91
            refine G_tsw (tgt := 109) 5 7 (by decide) (rL _ rfl) (by decide) rfl (by decide) hx1 dX12_body_1 (fun n93 => ?_) (fun n93 => ?_)
            · have h := h.1 n93
              refine G_aload_n 0 rfl rfl dX12_body_109 ?_
              refine G_iload_n 2 rfl rfl dX12_body_110 ?_
              refine G_iconst dX12_body_111 ?_
              refine G_iadd dX12_body_112 ?_
              refine G_iconst dX12_body_113 ?_
              refine G_bipush (by decide) dX12_body_114 ?_
              obtain ⟨c62, h⟩ := h
              obtain ⟨g63, g64, g65, c66, h⟩ := h
              refine G_callV (as := [_, _, _]) cf_X12_231 rfl rfl rfl (sp_X12_figure (d - 1) (by omega) _ hO _ c62 _ (rL 1 rfl) _ (rL 60 rfl) g63 g64 g65 c66) (by omega) rfl rfl (Nat.le_of_ble_eq_true rfl) dX12_body_116 ?_
              rintro _ σ69 ⟨u70, rfl, z71⟩ o68 r67
              have h := h _ _ (r67 _ rfl) o68 z71
              exact G_iret rfl (r67 _ rfl) dX12_body_119 ⟨_, rfl, h⟩ o68
            · have h := h.2 n93
              have n94 : (8 : Int) ≤ x1 ∨ x1 < 2 := tsw_next (by decide) n92 n93
              refine G_tswd (tgt := 120) hx1 (tsw_out n94) (by decide) dX12_body_1 ?_
              refine G_aload_n 0 rfl rfl dX12_body_120 ?_
              refine G_iload_n 2 rfl rfl dX12_body_121 ?_
              obtain ⟨g72, g73, g74, g75, g76, c77, h⟩ := h
              refine G_callV (as := [_]) cf_X12_249 rfl rfl rfl (sp_X12_lawClause (d - 1) (by omega) _ hO _ hx2 g72 g73 g74 g75 g76 c77) (by omega) rfl rfl (Nat.le_of_ble_eq_true rfl) dX12_body_122 ?_
              rintro _ σ80 ⟨u81, rfl, z82⟩ o79 r78
              have h := h _ _ (r78 _ rfl) o79 z82
              exact G_iret rfl (r78 _ rfl) dX12_body_125 ⟨_, rfl, h⟩ o79

theorem sp_X12_body (d : Nat) (hd : 8 ≤ d) (σ : Mem) (hO : OKm σ) (x1 : Int) (hx1 : R32 x1) (x2 : Int) (hx2 : R32 x2) (b : Int → Int) (N : Int) (ti : Int) (lw : Int) (i : Nat) (hpre : tkM σ b N i ∧ (0 ≤ ti ∧ ti ≤ 3) ∧ σ 74 12 = 729 * ti ∧ (0 ≤ σ 74 13 ∧ σ 74 13 ≤ (i : Int) ∧ i ≤ 300) ∧ (729 * ti < x2 ∧ x2 + 4 ≤ 729 * ti + 120) ∧ (0 ≤ x1 ∧ x1 ≤ 7) ∧ (x1 ≤ 1 → σ 74 14 = (if lw = 9 then 0 else 1))) : Mt yX12_body cX12_body 3 (some .int) d [aR (74), aI (x1), aI (x2)] σ (QI (fun v σ' => (2 ≤ x1 → deA b N σ σ' v x2 (pDeed (kd b N) (nu b N) x1 i)) ∧ (x1 ≤ 1 → lwA b N ti σ σ' v x2 (pS (kd b N) (nu b N) lw 8 i)))) := mt_X12_body hd hx1 hx2 hO (by
  unfold wp_X12_body
  obtain ⟨ht, hti, h12, h13, hx, hx1, h14⟩ := hpre
  refine ⟨fun s2 => ⟨b, N, i, ⟨ht, by omega⟩, fun u ρ _ _ h => ⟨fun _ => by rw [s2]; exact h, fun q => absurd q (by omega)⟩⟩, fun s2 => ?_⟩
  refine ⟨fun s3 => ⟨by decide, b, N, i, 5, ⟨ht, fun σ b N i h => tkw_mouth h, by omega, by omega, by omega⟩, fun u ρ _ _ h => ⟨fun _ => by rw [s3, pD3]; exact deA.P2 h rfl (fun a y q1 q2 q3 q4 => .inr (.inr (.inl ⟨rfl, ⟨q1, q2⟩, q3, q4⟩))), fun q => absurd q (by omega)⟩⟩, fun s3 => ?_⟩
  refine ⟨fun s4 => ⟨by decide, b, N, i, 15, ⟨ht, fun σ b N i h => tkw_by h, by omega, by omega, by omega⟩, fun u ρ _ _ h => ⟨fun _ => by rw [s4, pD4]; exact deA.P2 h rfl (fun a y q1 q2 q3 q4 => .inr (.inr (.inr (.inl ⟨rfl, ⟨q1, q2⟩, q3, q4⟩)))), fun q => absurd q (by omega)⟩⟩, fun s4 => ?_⟩
  refine ⟨fun s5 => ⟨by unfold R32; omega, b, N, i, ⟨ht, by omega, by omega⟩, fun u ρ _ _ h => ⟨fun _ => by rw [s5, pD5]; exact deA.P1 h rfl (fun a q1 q2 => .inr (.inr (.inr (.inr (.inl ⟨rfl, q1, q2⟩))))), fun q => absurd q (by omega)⟩⟩, fun s5 => ?_⟩
  refine ⟨fun s6 => ⟨by unfold R32; omega, b, N, i, ⟨ht, by omega, by omega⟩, fun u ρ _ _ h => ⟨fun _ => by rw [s6, pD6]; exact deA.P1 h rfl (fun a q1 q2 => .inr (.inr (.inr (.inr (.inr (.inl ⟨rfl, q1, q2⟩)))))), fun q => absurd q (by omega)⟩⟩, fun s6 => ?_⟩
  refine ⟨fun s7 => ⟨by unfold R32; omega, b, N, i, ⟨ht, by omega, by omega⟩, fun u ρ _ _ h => ⟨fun _ => by rw [s7, pD7]; exact deA.P1 h rfl (fun a q1 q2 => .inr (.inr (.inr (.inr (.inr (.inr ⟨rfl, q1, q2⟩)))))), fun q => absurd q (by omega)⟩⟩, fun s7 => ?_⟩
  exact ⟨b, N, ti, lw, i, ⟨ht, hti, h12, h14 (by omega), h13, hx⟩, fun u ρ _ _ h => ⟨fun q => absurd q (by omega), fun _ => h⟩⟩)

def wp_X12_sortOf  (σ : Mem) (Q : Int → Mem → Prop) : Prop :=
  ((0 ≤ (115 : Int) ∧ (115 : Int) < 256) ∧ (0 ≤ (117 : Int) ∧ (117 : Int) < 256) ∧ (0 ≤ (99 : Int) ∧ (99 : Int) < 256) ∧ (0 ≤ (107 : Int) ∧ (107 : Int) < 256) ∧ (0 ≤ (115 : Int) ∧ (115 : Int) < 256)) ∧
   ((¬ (σ 74 9 = 2 ∧ σ 74 11 = (((((115 : Int) * 256 + (117 : Int)) * 256 + (99 : Int)) * 256 + (107 : Int)) * 256 + (115 : Int)))) →
    ((0 ≤ (115 : Int) ∧ (115 : Int) < 256) ∧ (0 ≤ (119 : Int) ∧ (119 : Int) < 256) ∧ (0 ≤ (101 : Int) ∧ (101 : Int) < 256) ∧ (0 ≤ (108 : Int) ∧ (108 : Int) < 256) ∧ (0 ≤ (108 : Int) ∧ (108 : Int) < 256) ∧ (0 ≤ (115 : Int) ∧ (115 : Int) < 256)) ∧
    ((¬ (σ 74 9 = 2 ∧ σ 74 11 = ((((((115 : Int) * 256 + (119 : Int)) * 256 + (101 : Int)) * 256 + (108 : Int)) * 256 + (108 : Int)) * 256 + (115 : Int)))) →
     ((0 ≤ (114 : Int) ∧ (114 : Int) < 256) ∧ (0 ≤ (111 : Int) ∧ (111 : Int) < 256) ∧ (0 ≤ (97 : Int) ∧ (97 : Int) < 256) ∧ (0 ≤ (100 : Int) ∧ (100 : Int) < 256)) ∧
     ((¬ (σ 74 9 = 2 ∧ σ 74 11 = ((((114 : Int) * 256 + (111 : Int)) * 256 + (97 : Int)) * 256 + (100 : Int)))) →
      ((0 ≤ (103 : Int) ∧ (103 : Int) < 256) ∧ (0 ≤ (111 : Int) ∧ (111 : Int) < 256) ∧ (0 ≤ (101 : Int) ∧ (101 : Int) < 256) ∧ (0 ≤ (114 : Int) ∧ (114 : Int) < 256)) ∧
      ((¬ (σ 74 9 = 2 ∧ σ 74 11 = ((((103 : Int) * 256 + (111 : Int)) * 256 + (101 : Int)) * 256 + (114 : Int)))) →
       ((0 ≤ (103 : Int) ∧ (103 : Int) < 256) ∧ (0 ≤ (111 : Int) ∧ (111 : Int) < 256)) ∧
       ((¬ (σ 74 9 = 2 ∧ σ 74 11 = ((103 : Int) * 256 + (111 : Int)))) →
        ((0 ≤ (114 : Int) ∧ (114 : Int) < 256) ∧ (0 ≤ (101 : Int) ∧ (101 : Int) < 256) ∧ (0 ≤ (108 : Int) ∧ (108 : Int) < 256) ∧ (0 ≤ (97 : Int) ∧ (97 : Int) < 256) ∧ (0 ≤ (121 : Int) ∧ (121 : Int) < 256)) ∧
        ((¬ (σ 74 9 = 2 ∧ σ 74 11 = (((((114 : Int) * 256 + (101 : Int)) * 256 + (108 : Int)) * 256 + (97 : Int)) * 256 + (121 : Int)))) →
         ((0 ≤ (99 : Int) ∧ (99 : Int) < 256) ∧ (0 ≤ (111 : Int) ∧ (111 : Int) < 256) ∧ (0 ≤ (105 : Int) ∧ (105 : Int) < 256) ∧ (0 ≤ (108 : Int) ∧ (108 : Int) < 256)) ∧
         ((¬ (σ 74 9 = 2 ∧ σ 74 11 = ((((99 : Int) * 256 + (111 : Int)) * 256 + (105 : Int)) * 256 + (108 : Int)))) →
          ((0 ≤ (100 : Int) ∧ (100 : Int) < 256) ∧ (0 ≤ (97 : Int) ∧ (97 : Int) < 256) ∧ (0 ≤ (121 : Int) ∧ (121 : Int) < 256)) ∧
          ((¬ (σ 74 9 = 2 ∧ σ 74 11 = (((100 : Int) * 256 + (97 : Int)) * 256 + (121 : Int)))) →
           Q (-1) σ) ∧
          ((σ 74 9 = 2 ∧ σ 74 11 = (((100 : Int) * 256 + (97 : Int)) * 256 + (121 : Int))) →
           Q 7 σ)) ∧
         ((σ 74 9 = 2 ∧ σ 74 11 = ((((99 : Int) * 256 + (111 : Int)) * 256 + (105 : Int)) * 256 + (108 : Int))) →
          Q 6 σ)) ∧
        ((σ 74 9 = 2 ∧ σ 74 11 = (((((114 : Int) * 256 + (101 : Int)) * 256 + (108 : Int)) * 256 + (97 : Int)) * 256 + (121 : Int))) →
         Q 5 σ)) ∧
       ((σ 74 9 = 2 ∧ σ 74 11 = ((103 : Int) * 256 + (111 : Int))) →
        Q 4 σ)) ∧
      ((σ 74 9 = 2 ∧ σ 74 11 = ((((103 : Int) * 256 + (111 : Int)) * 256 + (101 : Int)) * 256 + (114 : Int))) →
       Q 3 σ)) ∧
     ((σ 74 9 = 2 ∧ σ 74 11 = ((((114 : Int) * 256 + (111 : Int)) * 256 + (97 : Int)) * 256 + (100 : Int))) →
      Q 2 σ)) ∧
    ((σ 74 9 = 2 ∧ σ 74 11 = ((((((115 : Int) * 256 + (119 : Int)) * 256 + (101 : Int)) * 256 + (108 : Int)) * 256 + (108 : Int)) * 256 + (115 : Int))) →
     Q 1 σ)) ∧
   ((σ 74 9 = 2 ∧ σ 74 11 = (((((115 : Int) * 256 + (117 : Int)) * 256 + (99 : Int)) * 256 + (107 : Int)) * 256 + (115 : Int))) →
    Q 0 σ)
theorem mt_X12_sortOf {d : Nat} (hd : 5 ≤ d)  {σ : Mem} {Q : Int → Mem → Prop}  (hO : OKm σ) (h : wp_X12_sortOf  σ Q) : Mt yX12_sortOf cX12_sortOf 1 (some .int) d [aR (74)] σ (QI Q) := by
  refine Mt.intro (by decide +kernel) (Nat.le_of_ble_eq_true rfl) [(0, aR (74))] rfl ?_
  unfold wp_X12_sortOf at h
  refine G_aload_n 0 rfl rfl dX12_sortOf_0 ?_
  refine G_bipush (by decide) dX12_sortOf_1 ?_
  refine G_bipush (by decide) dX12_sortOf_3 ?_
  refine G_bipush (by decide) dX12_sortOf_5 ?_
  refine G_bipush (by decide) dX12_sortOf_7 ?_
  refine G_bipush (by decide) dX12_sortOf_9 ?_
  obtain ⟨c1, h⟩ := h
  refine G_callS (as := [_, _, _, _, _]) cf_X12_147 rfl (sp_X12_w5 (d - 1) (by omega) _ hO _ (rL 115 rfl) _ (rL 117 rfl) _ (rL 99 rfl) _ (rL 107 rfl) _ (rL 115 rfl) c1) (by omega) rfl rfl (Nat.le_of_ble_eq_true rfl) dX12_sortOf_11 ?_
  rintro _ _ ⟨_, rfl, rfl, rfl⟩ o3 r2
  refine G_callV (as := [_]) cf_X12_199 rfl rfl rfl (sp_X12_isWord (d - 1) (by omega) _ hO _ (r2 _ rfl)) (by omega) rfl rfl (Nat.le_of_ble_eq_true rfl) dX12_sortOf_14 ?_
  rintro _ _ ⟨_, rfl, rfl, rfl⟩ o5 r4
  refine G_if_eq (bI_R _) dX12_sortOf_17 (tgt := 22) (by decide) (fun c6 => ?_) (fun c6 => ?_)
  · have h := h.1 ((bI_0 _).mp c6)
    refine G_aload_n 0 rfl rfl dX12_sortOf_22 ?_
    refine G_bipush (by decide) dX12_sortOf_23 ?_
    refine G_bipush (by decide) dX12_sortOf_25 ?_
    refine G_bipush (by decide) dX12_sortOf_27 ?_
    refine G_bipush (by decide) dX12_sortOf_29 ?_
    refine G_bipush (by decide) dX12_sortOf_31 ?_
    refine G_bipush (by decide) dX12_sortOf_33 ?_
    obtain ⟨c7, h⟩ := h
    refine G_callS (as := [_, _, _, _, _, _]) cf_X12_195 rfl (sp_X12_w6 (d - 1) (by omega) _ hO _ (rL 115 rfl) _ (rL 119 rfl) _ (rL 101 rfl) _ (rL 108 rfl) _ (rL 108 rfl) _ (rL 115 rfl) c7) (by omega) rfl rfl (Nat.le_of_ble_eq_true rfl) dX12_sortOf_35 ?_
    rintro _ _ ⟨_, rfl, rfl, rfl⟩ o9 r8
    refine G_callV (as := [_]) cf_X12_199 rfl rfl rfl (sp_X12_isWord (d - 1) (by omega) _ hO _ (r8 _ rfl)) (by omega) rfl rfl (Nat.le_of_ble_eq_true rfl) dX12_sortOf_38 ?_
    rintro _ _ ⟨_, rfl, rfl, rfl⟩ o11 r10
    refine G_if_eq (bI_R _) dX12_sortOf_41 (tgt := 46) (by decide) (fun c12 => ?_) (fun c12 => ?_)
    · have h := h.1 ((bI_0 _).mp c12)
      refine G_aload_n 0 rfl rfl dX12_sortOf_46 ?_
      refine G_bipush (by decide) dX12_sortOf_47 ?_
      refine G_bipush (by decide) dX12_sortOf_49 ?_
      refine G_bipush (by decide) dX12_sortOf_51 ?_
      refine G_bipush (by decide) dX12_sortOf_53 ?_
      obtain ⟨c13, h⟩ := h
      refine G_callS (as := [_, _, _, _]) cf_X12_143 rfl (sp_X12_w4 (d - 1) (by omega) _ hO _ (rL 114 rfl) _ (rL 111 rfl) _ (rL 97 rfl) _ (rL 100 rfl) c13) (by omega) rfl rfl (Nat.le_of_ble_eq_true rfl) dX12_sortOf_55 ?_
      rintro _ _ ⟨_, rfl, rfl, rfl⟩ o15 r14
      refine G_callV (as := [_]) cf_X12_199 rfl rfl rfl (sp_X12_isWord (d - 1) (by omega) _ hO _ (r14 _ rfl)) (by omega) rfl rfl (Nat.le_of_ble_eq_true rfl) dX12_sortOf_58 ?_
      rintro _ _ ⟨_, rfl, rfl, rfl⟩ o17 r16
      refine G_if_eq (bI_R _) dX12_sortOf_61 (tgt := 66) (by decide) (fun c18 => ?_) (fun c18 => ?_)
      · have h := h.1 ((bI_0 _).mp c18)
        refine G_aload_n 0 rfl rfl dX12_sortOf_66 ?_
        refine G_bipush (by decide) dX12_sortOf_67 ?_
        refine G_bipush (by decide) dX12_sortOf_69 ?_
        refine G_bipush (by decide) dX12_sortOf_71 ?_
        refine G_bipush (by decide) dX12_sortOf_73 ?_
        obtain ⟨c19, h⟩ := h
        refine G_callS (as := [_, _, _, _]) cf_X12_143 rfl (sp_X12_w4 (d - 1) (by omega) _ hO _ (rL 103 rfl) _ (rL 111 rfl) _ (rL 101 rfl) _ (rL 114 rfl) c19) (by omega) rfl rfl (Nat.le_of_ble_eq_true rfl) dX12_sortOf_75 ?_
        rintro _ _ ⟨_, rfl, rfl, rfl⟩ o21 r20
        refine G_callV (as := [_]) cf_X12_199 rfl rfl rfl (sp_X12_isWord (d - 1) (by omega) _ hO _ (r20 _ rfl)) (by omega) rfl rfl (Nat.le_of_ble_eq_true rfl) dX12_sortOf_78 ?_
        rintro _ _ ⟨_, rfl, rfl, rfl⟩ o23 r22
        refine G_if_eq (bI_R _) dX12_sortOf_81 (tgt := 86) (by decide) (fun c24 => ?_) (fun c24 => ?_)
        · have h := h.1 ((bI_0 _).mp c24)
          refine G_aload_n 0 rfl rfl dX12_sortOf_86 ?_
          refine G_bipush (by decide) dX12_sortOf_87 ?_
          refine G_bipush (by decide) dX12_sortOf_89 ?_
          obtain ⟨c25, h⟩ := h
          refine G_callS (as := [_, _]) cf_X12_135 rfl (sp_X12_w2 (d - 1) (by omega) _ hO _ (rL 103 rfl) _ (rL 111 rfl) c25) (by omega) rfl rfl (Nat.le_of_ble_eq_true rfl) dX12_sortOf_91 ?_
          rintro _ _ ⟨_, rfl, rfl, rfl⟩ o27 r26
          refine G_callV (as := [_]) cf_X12_199 rfl rfl rfl (sp_X12_isWord (d - 1) (by omega) _ hO _ (r26 _ rfl)) (by omega) rfl rfl (Nat.le_of_ble_eq_true rfl) dX12_sortOf_94 ?_
          rintro _ _ ⟨_, rfl, rfl, rfl⟩ o29 r28
          refine G_if_eq (bI_R _) dX12_sortOf_97 (tgt := 102) (by decide) (fun c30 => ?_) (fun c30 => ?_)
          · have h := h.1 ((bI_0 _).mp c30)
            refine G_aload_n 0 rfl rfl dX12_sortOf_102 ?_
            refine G_bipush (by decide) dX12_sortOf_103 ?_
            refine G_bipush (by decide) dX12_sortOf_105 ?_
            refine G_bipush (by decide) dX12_sortOf_107 ?_
            refine G_bipush (by decide) dX12_sortOf_109 ?_
            refine G_bipush (by decide) dX12_sortOf_111 ?_
            obtain ⟨c31, h⟩ := h
            refine G_callS (as := [_, _, _, _, _]) cf_X12_147 rfl (sp_X12_w5 (d - 1) (by omega) _ hO _ (rL 114 rfl) _ (rL 101 rfl) _ (rL 108 rfl) _ (rL 97 rfl) _ (rL 121 rfl) c31) (by omega) rfl rfl (Nat.le_of_ble_eq_true rfl) dX12_sortOf_113 ?_
            rintro _ _ ⟨_, rfl, rfl, rfl⟩ o33 r32
            refine G_callV (as := [_]) cf_X12_199 rfl rfl rfl (sp_X12_isWord (d - 1) (by omega) _ hO _ (r32 _ rfl)) (by omega) rfl rfl (Nat.le_of_ble_eq_true rfl) dX12_sortOf_116 ?_
            rintro _ _ ⟨_, rfl, rfl, rfl⟩ o35 r34
            refine G_if_eq (bI_R _) dX12_sortOf_119 (tgt := 124) (by decide) (fun c36 => ?_) (fun c36 => ?_)
            · have h := h.1 ((bI_0 _).mp c36)
              refine G_aload_n 0 rfl rfl dX12_sortOf_124 ?_
              refine G_bipush (by decide) dX12_sortOf_125 ?_
              refine G_bipush (by decide) dX12_sortOf_127 ?_
              refine G_bipush (by decide) dX12_sortOf_129 ?_
              refine G_bipush (by decide) dX12_sortOf_131 ?_
              obtain ⟨c37, h⟩ := h
              refine G_callS (as := [_, _, _, _]) cf_X12_143 rfl (sp_X12_w4 (d - 1) (by omega) _ hO _ (rL 99 rfl) _ (rL 111 rfl) _ (rL 105 rfl) _ (rL 108 rfl) c37) (by omega) rfl rfl (Nat.le_of_ble_eq_true rfl) dX12_sortOf_133 ?_
              rintro _ _ ⟨_, rfl, rfl, rfl⟩ o39 r38
              refine G_callV (as := [_]) cf_X12_199 rfl rfl rfl (sp_X12_isWord (d - 1) (by omega) _ hO _ (r38 _ rfl)) (by omega) rfl rfl (Nat.le_of_ble_eq_true rfl) dX12_sortOf_136 ?_
              rintro _ _ ⟨_, rfl, rfl, rfl⟩ o41 r40
              refine G_if_eq (bI_R _) dX12_sortOf_139 (tgt := 147) (by decide) (fun c42 => ?_) (fun c42 => ?_)
              · have h := h.1 ((bI_0 _).mp c42)
                refine G_aload_n 0 rfl rfl dX12_sortOf_147 ?_
                refine G_bipush (by decide) dX12_sortOf_148 ?_
                refine G_bipush (by decide) dX12_sortOf_150 ?_
                refine G_bipush (by decide) dX12_sortOf_152 ?_
                obtain ⟨c43, h⟩ := h
                refine G_callS (as := [_, _, _]) cf_X12_139 rfl (sp_X12_w3 (d - 1) (by omega) _ hO _ (rL 100 rfl) _ (rL 97 rfl) _ (rL 121 rfl) c43) (by omega) rfl rfl (Nat.le_of_ble_eq_true rfl) dX12_sortOf_154 ?_
                rintro _ _ ⟨_, rfl, rfl, rfl⟩ o45 r44
                refine G_callV (as := [_]) cf_X12_199 rfl rfl rfl (sp_X12_isWord (d - 1) (by omega) _ hO _ (r44 _ rfl)) (by omega) rfl rfl (Nat.le_of_ble_eq_true rfl) dX12_sortOf_157 ?_
                rintro _ _ ⟨_, rfl, rfl, rfl⟩ o47 r46
                refine G_if_eq (bI_R _) dX12_sortOf_160 (tgt := 168) (by decide) (fun c48 => ?_) (fun c48 => ?_)
                · have h := h.1 ((bI_0 _).mp c48)
                  refine G_iconst dX12_sortOf_168 ?_
                  exact G_iret rfl (rL (-1) rfl) dX12_sortOf_169 ⟨_, rfl, h⟩ hO
                · have h := h.2 (bI_ne c48)
                  refine G_bipush (by decide) dX12_sortOf_163 ?_
                  refine G_goto (tgt := 169) dX12_sortOf_165 (by decide) ?_
                  exact G_iret rfl (rL 7 rfl) dX12_sortOf_169 ⟨_, rfl, h⟩ hO
              · have h := h.2 (bI_ne c42)
                refine G_bipush (by decide) dX12_sortOf_142 ?_
                refine G_goto (tgt := 169) dX12_sortOf_144 (by decide) ?_
                exact G_iret rfl (rL 6 rfl) dX12_sortOf_169 ⟨_, rfl, h⟩ hO
            · have h := h.2 (bI_ne c36)
              refine G_iconst dX12_sortOf_122 ?_
              exact G_iret rfl (rL 5 rfl) dX12_sortOf_123 ⟨_, rfl, h⟩ hO
          · have h := h.2 (bI_ne c30)
            refine G_iconst dX12_sortOf_100 ?_
            exact G_iret rfl (rL 4 rfl) dX12_sortOf_101 ⟨_, rfl, h⟩ hO
        · have h := h.2 (bI_ne c24)
          refine G_iconst dX12_sortOf_84 ?_
          exact G_iret rfl (rL 3 rfl) dX12_sortOf_85 ⟨_, rfl, h⟩ hO
      · have h := h.2 (bI_ne c18)
        refine G_iconst dX12_sortOf_64 ?_
        exact G_iret rfl (rL 2 rfl) dX12_sortOf_65 ⟨_, rfl, h⟩ hO
    · have h := h.2 (bI_ne c12)
      refine G_iconst dX12_sortOf_44 ?_
      exact G_iret rfl (rL 1 rfl) dX12_sortOf_45 ⟨_, rfl, h⟩ hO
  · have h := h.2 (bI_ne c6)
    refine G_iconst dX12_sortOf_20 ?_
    exact G_iret rfl (rL 0 rfl) dX12_sortOf_21 ⟨_, rfl, h⟩ hO

theorem sp_X12_sortOf (d : Nat) (hd : 5 ≤ d) (σ : Mem) (hO : OKm σ) (b : Int → Int) (N : Int) (i : Nat) (hpre : tkM σ b N i) : Mt yX12_sortOf cX12_sortOf 1 (some .int) d [aR (74)] σ (QI (fun v σ' => v = clS (kd b N i) ∧ σ' = σ)) := mt_X12_sortOf hd  hO (by
  unfold wp_X12_sortOf
  rw [tkw_sucks hpre, tkw_swells hpre, tkw_road hpre, tkw_goer hpre, tkw_go hpre, tkw_relay hpre, tkw_coil hpre, tkw_day hpre]
  refine ⟨by decide, fun a0 => ?_, fun a0 => ⟨by rw [a0]; rfl, rfl⟩⟩
  refine ⟨by decide, fun a1 => ?_, fun a1 => ⟨by rw [a1]; rfl, rfl⟩⟩
  refine ⟨by decide, fun a2 => ?_, fun a2 => ⟨by rw [a2]; rfl, rfl⟩⟩
  refine ⟨by decide, fun a3 => ?_, fun a3 => ⟨by rw [a3]; rfl, rfl⟩⟩
  refine ⟨by decide, fun a4 => ?_, fun a4 => ⟨by rw [a4]; rfl, rfl⟩⟩
  refine ⟨by decide, fun a5 => ?_, fun a5 => ⟨by rw [a5]; rfl, rfl⟩⟩
  refine ⟨by decide, fun a6 => ?_, fun a6 => ⟨by rw [a6]; rfl, rfl⟩⟩
  refine ⟨by decide, fun a7 => ⟨by unfold clS; rw [if_neg a0, if_neg a1, if_neg a2, if_neg a3, if_neg a4, if_neg a5, if_neg a6, if_neg a7], rfl⟩, fun a7 => ⟨by rw [a7]; rfl, rfl⟩⟩)
