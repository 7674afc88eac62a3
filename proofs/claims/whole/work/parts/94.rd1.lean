def stC (σ : Mem) (b : Int → Int) (N : Int) (m : Nat) : Prop := σ 30 5 = (m : Int) ∧ ∀ i : Nat, i < m → σ 32 (i : Int) = kd b N i ∧ σ 33 (i : Int) = ps b N i ∧ (kd b N i = 41 → σ 34 (i : Int) = nu b N i)
theorem stC.put {σ : Mem} {b : Int → Int} {N : Int} {m : Nat} {k s n : Int} (h : stC σ b N m) (hk : k = kd b N m) (hs : s = ps b N m) (hn : kd b N m = 41 → n = nu b N m) : stC (putS σ k s n) b N (m + 1) := by
  unfold putS
  rw [h.1]
  refine ⟨by rw [mset_hit rfl]; omega, fun i hi => ?_⟩
  simp (disch := omega) only [mset_off]
  by_cases e : i = m
  · rw [e, mset_hit rfl, mset_hit rfl, mset_hit rfl]; exact ⟨hk, hs, hn⟩
  · rw [mset_miss (by omega), mset_miss (by omega), mset_miss (by omega)]; exact h.2 i (by omega)
/-- the tape, cut up -/
def tokC (σ : Mem) (b : Int → Int) (N : Int) : Prop := (0 ≤ σ 30 5 ∧ σ 30 5 ≤ 301) ∧ σ 30 1 = N ∧ (∀ i : Nat, (i : Int) < σ 30 5 → σ 32 (i : Int) = kd b N i ∧ σ 33 (i : Int) = ps b N i ∧ (kd b N i = 41 → σ 34 (i : Int) = nu b N i)) ∧ ∀ i : Nat, σ 30 5 ≤ (i : Int) → ps b N i = N

def wp_X8_cutUp  (σ : Mem) (Q : Mem → Prop) : Prop :=
 ∀ P7 : Int → Mem → Prop,
 (∀ (v1 : Int) (σ : Mem), (R32 v1 → OKm σ →
   (((σ 30 1) ≤ v1) →
     (0 ≤ σ 30 5 ∧ σ 30 5 < 301) ∧
     ∀ σ8 : Mem, σ8 = (mset (mset (mset (mset σ 32 (σ 30 5) (43 : Int)) 33 (σ 30 5) (σ 30 1)) 34 (σ 30 5) (0 : Int)) 30 5 (σ 30 5 + 1)) →
     Q σ8) ∧
    ((v1 < (σ 30 1)) →
     (0 ≤ v1 ∧ v1 < 300) ∧
     (((σ 31 v1) = 32) →
      R32 (v1 + 1) ∧ P7 (v1 + 1) σ) ∧
     (((σ 31 v1) ≠ 32) →
      (0 ≤ v1 ∧ v1 < 300) ∧
      (((σ 31 v1) ≠ 10) →
       ∃ g17 : Int → Int, ∃ g18 : Int, (isTp g17 g18 ∧ σ 30 1 = g18 ∧ (∀ i : Int, 0 ≤ i → i < g18 → σ 31 i = g17 i) ∧ (0 ≤ v1 ∧ v1 < g18) ∧ (0 ≤ σ 30 5 ∧ σ 30 5 < 301)) ∧
       ∀ (u23 : Int) (σ22 : Mem), R32 u23 → OKm σ22 → (u23 = psM g17 g18 v1 ∧ σ22 = putS σ (kdC g17 g18 v1) v1 (nuC g17 g18 v1)) →
       R32 (v1 + 1) ∧
       P7 (max (v1 + 1) u23) σ22) ∧
      (((σ 31 v1) = 10) →
       R32 (v1 + 1) ∧ P7 (v1 + 1) σ)))) → P7 v1 σ) →
  ∀ σ1 : Mem, σ1 = mset σ 30 5 0 →
   P7 0 σ1
theorem mt_X8_cutUp {d : Nat} (hd : 6 ≤ d)  {σ : Mem} {Q : Mem → Prop}  (hO : OKm σ) (h : wp_X8_cutUp  σ Q) : Mt yX8_cutUp cX8_cutUp 3 none d [aR (30)] σ (QV Q) := by
  refine Mt.intro (by decide +kernel) (Nat.le_of_ble_eq_true rfl) [(0, aR (30))] rfl ?_
  unfold wp_X8_cutUp at h
  have h := h (fun (v1 : Int) (σ : Mem) => R32 v1 → OKm σ → G yX8_cutUp cX8_cutUp 3 none d (QV Q) 7 [(0, aR (30)), (1, aI (v1))] [] σ) ?_
  · refine G_aload_n 0 rfl rfl dX8_cutUp_0 ?_
    refine G_iconst dX8_cutUp_1 ?_
    obtain ⟨σ1, e3⟩ : ∃ τ : Mem, τ = mset σ 30 5 0 := ⟨_, rfl⟩
    have h := h σ1 e3
    have o2 : OKm σ1 := by rw [e3]; exact OKm.seti hO _ _ _ (rL 0 rfl) rfl
    refine G_put (k := 5) (ki := 5) (kd := (0, 0)) (x := _) pf_X8_28 rfl rfl rfl rfl (fa_i (mset_self _ _ _ _)) (fun _ => rfl) (fun _ => rfl) dX8_cutUp_2 ?_
    rw [← e3]
    refine G_iconst dX8_cutUp_5 ?_
    refine G_istore_n (lv' := [(1, aI (0)), (0, aR (30))]) rfl rfl (by decide) dX8_cutUp_6 ?_
    exact G_pick [1, 0] rfl (h (rL 0 rfl) o2)
  · intro v1 σ h hv1 hO
    have h := h hv1 hO
    refine G_iload_n 1 rfl rfl dX8_cutUp_7 ?_
    refine G_aload_n 0 rfl rfl dX8_cutUp_8 ?_
    refine G_get (k := 1) (kd := (0, 0)) (v := aI (σ 30 1)) gf_X8_15 rfl rfl rfl rfl dX8_cutUp_9 ?_
    refine G_icmp_ge hv1 (OKm.i hO 30 1 rfl) dX8_cutUp_12 (tgt := 68) (by decide) (fun c4 => ?_) (fun c4 => ?_)
    · have h := h.1 c4
      refine G_aload_n 0 rfl rfl dX8_cutUp_68 ?_
      refine G_bipush (by decide) dX8_cutUp_69 ?_
      refine G_aload_n 0 rfl rfl dX8_cutUp_71 ?_
      refine G_get (k := 1) (kd := (0, 0)) (v := aI (σ 30 1)) gf_X8_15 rfl rfl rfl rfl dX8_cutUp_72 ?_
      refine G_iconst dX8_cutUp_75 ?_
      obtain ⟨c5, h⟩ := h
      refine G_callV (as := [_, _, _]) cf_X8_43 rfl rfl rfl (sp_X8_put (d - 1) (by omega) _ hO _ (rL 43 rfl) _ (OKm.i hO 30 1 rfl) _ (rL 0 rfl) c5) (by omega) rfl rfl (Nat.le_of_ble_eq_true rfl) dX8_cutUp_76 ?_
      rintro _ σ8 ⟨rfl, e9⟩ o7 r6
      have h := h σ8 e9
      exact G_vret rfl dX8_cutUp_79 ⟨rfl, h⟩ o7
    · have h := h.2 c4
      refine G_aload_n 0 rfl rfl dX8_cutUp_15 ?_
      refine G_get (k := 0) (kd := (3, 1)) (v := aR (31)) gf_X8_9 rfl rfl rfl rfl dX8_cutUp_16 ?_
      refine G_iload_n 1 rfl rfl dX8_cutUp_19 ?_
      obtain ⟨c10, h⟩ := h
      refine G_iald (n := 300) rfl c10.1 c10.2 dX8_cutUp_20 ?_
      refine G_bipush (by decide) dX8_cutUp_21 ?_
      refine G_icmp_eq (OKm.i hO 31 v1 (isLg_row (show shp 31 = (1, 300, []) from rfl) _)) (rL 32 rfl) dX8_cutUp_23 (tgt := 37) (by decide) (fun c11 => ?_) (fun c11 => ?_)
      · have h := h.1 c11
        refine G_iconst dX8_cutUp_37 ?_
        refine G_goto (tgt := 42) dX8_cutUp_38 (by decide) ?_
        refine G_istore_n (lv' := [(2, aI (1)), (0, aR (30)), (1, aI (v1))]) rfl rfl (by decide) dX8_cutUp_42 ?_
        refine G_iload_n 0 rfl rfl dX8_cutUp_43 ?_
        refine G_if_eq (rL 1 rfl) dX8_cutUp_44 (tgt := 53) (by decide) (fun c12 => absurd c12 (by decide)) (fun _ => ?_)
        refine G_iload_n 2 rfl rfl dX8_cutUp_47 ?_
        refine G_iconst dX8_cutUp_48 ?_
        refine G_iadd dX8_cutUp_49 ?_
        refine G_goto (tgt := 64) dX8_cutUp_50 (by decide) ?_
        refine G_istore_n (lv' := [(1, aI ((v1 + 1))), (2, aI (1)), (0, aR (30))]) rfl rfl (by decide) dX8_cutUp_64 ?_
        refine G_goto (tgt := 7) dX8_cutUp_65 (by decide) ?_
        obtain ⟨c13, h⟩ := h
        exact G_pick [2, 0] rfl (h c13 hO)
      · have h := h.2 c11
        refine G_aload_n 0 rfl rfl dX8_cutUp_26 ?_
        refine G_get (k := 0) (kd := (3, 1)) (v := aR (31)) gf_X8_9 rfl rfl rfl rfl dX8_cutUp_27 ?_
        refine G_iload_n 1 rfl rfl dX8_cutUp_30 ?_
        obtain ⟨c14, h⟩ := h
        refine G_iald (n := 300) rfl c14.1 c14.2 dX8_cutUp_31 ?_
        refine G_bipush (by decide) dX8_cutUp_32 ?_
        refine G_icmp_ne (OKm.i hO 31 v1 (isLg_row (show shp 31 = (1, 300, []) from rfl) _)) (rL 10 rfl) dX8_cutUp_34 (tgt := 41) (by decide) (fun c15 => ?_) (fun c15 => ?_)
        · have h := h.1 c15
          refine G_iconst dX8_cutUp_41 ?_
          refine G_istore_n (lv' := [(2, aI (0)), (0, aR (30)), (1, aI (v1))]) rfl rfl (by decide) dX8_cutUp_42 ?_
          refine G_iload_n 0 rfl rfl dX8_cutUp_43 ?_
          refine G_if_eq (rL 0 rfl) dX8_cutUp_44 (tgt := 53) (by decide) (fun _ => ?_) (fun c16 => absurd c16 (by decide))
          refine G_iload_n 2 rfl rfl dX8_cutUp_53 ?_
          refine G_iconst dX8_cutUp_54 ?_
          refine G_iadd dX8_cutUp_55 ?_
          refine G_aload_n 1 rfl rfl dX8_cutUp_56 ?_
          refine G_iload_n 2 rfl rfl dX8_cutUp_57 ?_
          obtain ⟨g17, g18, c19, h⟩ := h
          refine G_callV (as := [_]) cf_X8_33 rfl rfl rfl (sp_X8_cutFrom (d - 1) (by omega) _ hO _ hv1 g17 g18 c19) (by omega) rfl rfl (Nat.le_of_ble_eq_true rfl) dX8_cutUp_58 ?_
          rintro _ σ22 ⟨u23, rfl, z24⟩ o21 r20
          have h := h _ _ (r20 _ rfl) o21 z24
          obtain ⟨c25, h⟩ := h
          refine G_mmax rfl c25 (r20 _ rfl) (Nat.le_of_ble_eq_true rfl) sf_X8_37 dX8_cutUp_61 ?_
          refine G_istore_n (lv' := [(1, aI ((max (v1 + 1) u23))), (2, aI (0)), (0, aR (30))]) rfl rfl (by decide) dX8_cutUp_64 ?_
          refine G_goto (tgt := 7) dX8_cutUp_65 (by decide) ?_
          exact G_pick [2, 0] rfl (h (r32_max c25 (r20 _ rfl)) o21)
        · have h := h.2 c15
          refine G_iconst dX8_cutUp_37 ?_
          refine G_goto (tgt := 42) dX8_cutUp_38 (by decide) ?_
          refine G_istore_n (lv' := [(2, aI (1)), (0, aR (30)), (1, aI (v1))]) rfl rfl (by decide) dX8_cutUp_42 ?_
          refine G_iload_n 0 rfl rfl dX8_cutUp_43 ?_
          refine G_if_eq (rL 1 rfl) dX8_cutUp_44 (tgt := 53) (by decide) (fun c26 => absurd c26 (by decide)) (fun _ => ?_)
          refine G_iload_n 2 rfl rfl dX8_cutUp_47 ?_
          refine G_iconst dX8_cutUp_48 ?_
          refine G_iadd dX8_cutUp_49 ?_
          refine G_goto (tgt := 64) dX8_cutUp_50 (by decide) ?_
          refine G_istore_n (lv' := [(1, aI ((v1 + 1))), (2, aI (1)), (0, aR (30))]) rfl rfl (by decide) dX8_cutUp_64 ?_
          refine G_goto (tgt := 7) dX8_cutUp_65 (by decide) ?_
          obtain ⟨c27, h⟩ := h
          exact G_pick [2, 0] rfl (h c27 hO)

theorem sp_X8_cutUp (d : Nat) (hd : 6 ≤ d) (σ : Mem) (hO : OKm σ) (b : Int → Int) (N : Int) (hpre : isTp b N ∧ σ 30 1 = N ∧ (∀ i : Int, 0 ≤ i → i < N → σ 31 i = b i)) : Mt yX8_cutUp cX8_cutUp 3 none d [aR (30)] σ (QV (fun σ' => tokC σ' b N ∧ Fr [30, 32, 33, 34] σ σ' ∧ (∀ j : Int, j ≠ 5 → σ' 30 j = σ 30 j))) := mt_X8_cutUp hd  hO (by
  unfold wp_X8_cutUp
  intro P7 h7
  obtain ⟨hB, hN, h31⟩ := hpre
  have hN0 := hB.1
  have H : ∀ (n : Nat) (v : Int) (m : Nat) (τ : Mem), N ≤ v + n → v ≤ N → 0 ≤ v → (m : Int) ≤ v → ps b N m = skN b N v → stC τ b N m → Fr [30, 32, 33, 34] σ τ → (∀ j : Int, j ≠ 5 → τ 30 j = σ 30 j) → P7 v τ := by
    intro n
    induction n with
    | zero =>
      intro v m τ h1 h2 h3 h4 h5 h6 hF hj
      have hv : v = N := by omega
      subst hv
      refine h7 _ _ (fun _ _ => ⟨fun _ => ?_, fun h => absurd h (by rw [hj 1 (by omega)]; omega)⟩)
      rw [skN_N] at h5
      refine ⟨by rw [h6.1]; omega, fun ρ e => ?_⟩
      rw [hj 1 (by omega), hN] at e
      have hk := kd_end hB h5
      have h8 : stC ρ b v (m + 1) := by
        have := h6.put (k := 43) (s := v) (n := 0) hk.symm h5.symm (fun q => by omega)
        unfold putS at this
        rw [e]; exact this
      refine ⟨⟨by rw [h8.1]; omega, by rw [e]; simp (disch := omega) only [mset_off, mset_miss]; rw [hj 1 (by omega)]; exact hN, fun i hi => h8.2 i (by rw [h8.1] at hi; omega), fun i hi => ?_⟩, ?_, fun j q => ?_⟩
      · rw [h8.1] at hi
        have := ps_end hB h5 (i - m)
        rw [show m + (i - m) = i by omega] at this; exact this
      · rw [e]; exact (((hF.set (by simp)).set (by simp)).set (by simp)).set (by simp)
      · rw [e, mset_miss q]; simp (disch := omega) only [mset_off]; exact hj j q
    | succ n ih =>
      intro v m τ h1 h2 h3 h4 h5 h6 hF hj
      by_cases hv : v = N
      · exact ih v m τ (by omega) h2 h3 h4 h5 h6 hF hj
      have h31' : τ 31 v = b v := by rw [hF 31 (by simp)]; exact h31 v h3 (by omega)
      refine h7 _ _ (fun _ _ => ⟨fun h => absurd h (by rw [hj 1 (by omega)]; omega), fun _ => ⟨by omega, ?_⟩⟩)
      rw [h31']
      have bl : blk (b v) = true → R32 (v + 1) ∧ P7 (v + 1) τ := fun q => ⟨by unfold R32; omega, ih (v + 1) m τ (by omega) (by omega) (by omega) (by omega) (by rw [h5]; exact skN_s (by omega) q) h6 hF hj⟩
      refine ⟨fun q => bl (decide_eq_true (.inl q)), fun q => ⟨by omega, fun q2 => ⟨b, N, ⟨hB, by rw [hj 1 (by omega)]; exact hN, fun i a1 a2 => by rw [hF 31 (by simp)]; exact h31 i a1 a2, by omega, by rw [h6.1]; omega⟩, fun u ρ _ _ ⟨eu, e⟩ => ⟨by unfold R32; omega, ?_⟩⟩, fun q2 => bl (decide_eq_true (.inr q2))⟩⟩
      have hnb : blk (b v) = false := decide_eq_false (by intro z; omega)
      rw [skN_z (by omega) hnb] at h5
      have hg := psM_gt hB h3 (show v < N by omega)
      have hg2 := psM_r hB h3 h2
      rw [show max (v + 1) u = u by omega]
      have hbv := hB.2.1 v h3 (by omega)
      have hk : kdC b N v = kd b N m := by unfold kd; rw [h5, if_neg (by omega)]
      have hn : nuC b N v = nu b N m := by unfold nu; rw [h5]
      refine ih u (m + 1) ρ (by omega) (by omega) (by omega) (by omega) ?_ (by rw [e]; exact h6.put hk h5.symm (fun _ => hn)) ?_ (fun j z => ?_)
      · show skN b N (psM b N (ps b N m)) = _
        rw [h5, eu]
      · rw [e]; unfold putS; exact (((hF.set (by simp)).set (by simp)).set (by simp)).set (by simp)
      · rw [e]; unfold putS; rw [mset_miss z]; simp (disch := omega) only [mset_off]; exact hj j z
  intro σ1 e1
  exact H N.toNat 0 0 σ1 (by omega) (by omega) (by omega) (by omega) rfl ⟨by rw [e1, mset_hit rfl]; rfl, fun i hi => absurd hi (by omega)⟩ (by rw [e1]; exact (Fr.rf _ _).set (by simp)) (fun j q => by rw [e1, mset_miss q]))

/-! THE READER at token i, its text at p -/
def rdC (σ : Mem) (b : Int → Int) (N : Int) (p i : Nat) : Prop := (isTp b N ∧ tokC σ b N ∧ isText p) ∧ σ 35 1 = (p : Int) ∧ σ 35 2 = (i : Int) ∧ i ≤ 301 ∧ 0 ≤ σ p 2 ∧ σ p 2 ≤ 300
theorem tokC.kind {σ : Mem} {b : Int → Int} {N : Int} (h : tokC σ b N) (hB : isTp b N) (i : Nat) : (if 0 ≤ (i : Int) ∧ (i : Int) < σ 30 5 then σ 32 (i : Int) else 43) = kd b N i := by
  by_cases q : (i : Int) < σ 30 5
  · rw [if_pos ⟨by omega, q⟩]; exact (h.2.2.1 i q).1
  · rw [if_neg (by omega)]; exact (kd_end hB (h.2.2.2 i (by omega))).symm
theorem tokC.start {σ : Mem} {b : Int → Int} {N : Int} (h : tokC σ b N) (i : Nat) : (if 0 ≤ (i : Int) ∧ (i : Int) < σ 30 5 then σ 33 (i : Int) else σ 30 1) = ps b N i := by
  by_cases q : (i : Int) < σ 30 5
  · rw [if_pos ⟨by omega, q⟩]; exact (h.2.2.1 i q).2.1
  · rw [if_neg (by omega), h.2.1]; exact (h.2.2.2 i (by omega)).symm
theorem tokC.num {σ : Mem} {b : Int → Int} {N : Int} (h : tokC σ b N) (hB : isTp b N) {i : Nat} (hk : kd b N i = 41) : (if 0 ≤ (i : Int) ∧ (i : Int) < σ 30 5 then σ 34 (i : Int) else -1) = nu b N i := by
  by_cases q : (i : Int) < σ 30 5
  · rw [if_pos ⟨by omega, q⟩]; exact (h.2.2.1 i q).2.2 hk
  · have := kd_end hB (h.2.2.2 i (by omega)); omega
theorem rdC.kind {σ : Mem} {b : Int → Int} {N : Int} {p i : Nat} (h : rdC σ b N p i) : (if 0 ≤ σ 35 2 ∧ σ 35 2 < σ 30 5 then σ 32 (σ 35 2) else 43) = kd b N i := by
  rw [h.2.2.1]; exact h.1.2.1.kind h.1.1 i
/-- what a part of the reader leaves as it was -/
def frR (p : Nat) (σ σ' : Mem) : Prop := Fr [35, p, p + 1, p + 2] σ σ' ∧ (∀ j : Int, j ≠ 2 → j ≠ 4 → j ≠ 5 → σ' 35 j = σ 35 j) ∧ (∀ j : Int, j ≠ 2 → σ' p j = σ p j) ∧ 0 ≤ σ' p 2 ∧ σ' p 2 ≤ 300
theorem frR.rf {p : Nat} {σ : Mem} (h : 0 ≤ σ p 2 ∧ σ p 2 ≤ 300) : frR p σ σ := ⟨Fr.rf _ _, fun _ _ _ _ => rfl, fun _ _ => rfl, h⟩
theorem frR.tr {p : Nat} {a b c : Mem} (h1 : frR p a b) (h2 : frR p b c) : frR p a c := ⟨h1.1.tr h2.1, fun j q1 q2 q3 => by rw [h2.2.1 j q1 q2 q3, h1.2.1 j q1 q2 q3], fun j q => by rw [h2.2.2.1 j q, h1.2.2.1 j q], h2.2.2.2⟩
theorem frR.tok {p : Nat} {σ σ' : Mem} {b : Int → Int} {N : Int} (h : frR p σ σ') (hp : isText p) (ht : tokC σ b N) : tokC σ' b N := by
  have e : ∀ q : Nat, q < 35 → σ' q = σ q := fun q hq => h.1 q (by unfold isText at hp; simp; omega)
  unfold tokC at *
  rw [e 30 (by omega), e 32 (by omega), e 33 (by omega), e 34 (by omega)]; exact ht
theorem frR.rd {p i j : Nat} {σ σ' : Mem} {b : Int → Int} {N : Int} (h : frR p σ σ') (hr : rdC σ b N p i) (h2 : σ' 35 2 = (j : Int)) (hj : j ≤ 301) : rdC σ' b N p j :=
  ⟨⟨hr.1.1, h.tok hr.1.2.2 hr.1.2.1, hr.1.2.2⟩, by rw [h.2.1 1 (by omega) (by omega) (by omega)]; exact hr.2.1, h2, hj, h.2.2.2.1, h.2.2.2.2⟩
theorem frR.at {p : Nat} {σ σ' : Mem} {v : Int} (hp : isText p) (h : 0 ≤ σ p 2 ∧ σ p 2 ≤ 300) (e : σ' = mset σ 35 2 v) : frR p σ σ' := by
  subst e
  have hp' : p ≠ 35 := by unfold isText at hp; omega
  exact ⟨(Fr.rf _ _).set (by simp), fun j q1 _ _ => mset_miss q1, fun j _ => mset_off hp', by rw [mset_off hp']; exact h⟩
theorem frR.fail {p : Nat} {σ σ' : Mem} {v w : Int} (hp : isText p) (h : 0 ≤ σ p 2 ∧ σ p 2 ≤ 300) (e : σ' = mset (mset σ 35 4 v) 35 5 w) : frR p σ σ' := by
  subst e
  have hp' : p ≠ 35 := by unfold isText at hp; omega
  exact ⟨((Fr.rf _ _).set (by simp)).set (by simp), fun j _ q2 q3 => by rw [mset_miss q3, mset_miss q2], fun j _ => by rw [mset_off hp', mset_off hp'], by rw [mset_off hp', mset_off hp']; exact h⟩
def emS (σ : Mem) (p : Nat) (c o : Int) : Mem := mset (mset (mset σ (p + 1) (σ p 2) c) (p + 2) (σ p 2) o) p 2 (σ p 2 + 1)
theorem frR.em {p : Nat} {σ σ' : Mem} {c o : Int} (hp : isText p) (h : 0 ≤ σ p 2 ∧ σ p 2 < 300) (e : σ' = emS σ p c o) : frR p σ σ' := by
  subst e
  unfold emS
  have hp' : 35 ≠ p := by unfold isText at hp; omega
  have hp1 : 35 ≠ p + 1 := by unfold isText at hp; omega
  have hp2 : 35 ≠ p + 2 := by unfold isText at hp; omega
  refine ⟨(((Fr.rf _ _).set (by simp)).set (by simp)).set (by simp), fun j _ _ _ => ?_, fun j q => ?_, ?_⟩
  · rw [mset_off hp', mset_off hp2, mset_off hp1]
  · rw [mset_miss q, mset_off (by omega), mset_off (by omega)]
  · rw [mset_hit rfl]; omega
theorem frR.emq {p : Nat} {σ σ' : Mem} {c o : Int} (hp : isText p) (h : 0 ≤ σ p 2 ∧ σ p 2 ≤ 300) (e : σ' = (if σ p 2 < 300 then mset (mset (mset σ (p + 1) (σ p 2) c) (p + 2) (σ p 2) o) p 2 (σ p 2 + 1) else σ)) : frR p σ σ' := by
  by_cases q : σ p 2 < 300
  · rw [if_pos q] at e; exact frR.em hp ⟨h.1, q⟩ e
  · rw [if_neg q] at e; subst e; exact frR.rf h
/-- codes below z stay -/
def kpC (p : Nat) (z : Int) (σ σ' : Mem) : Prop := (∀ q : Int, q < z → σ' (p + 1) q = σ (p + 1) q ∧ σ' (p + 2) q = σ (p + 2) q) ∧ σ' 35 4 = σ 35 4 ∧ σ' 35 5 = σ 35 5
theorem kpC.rf {p : Nat} {z : Int} {σ : Mem} : kpC p z σ σ := ⟨fun _ _ => ⟨rfl, rfl⟩, rfl, rfl⟩
theorem kpC.tr {p : Nat} {z z' : Int} {a b c : Mem} (h1 : kpC p z a b) (h2 : kpC p z' b c) (hz : z ≤ z') : kpC p z a c := ⟨fun q hq => by
  have e1 := h1.1 q hq
  have e2 := h2.1 q (by omega)
  rw [e2.1, e2.2]; exact e1, by rw [h2.2.1, h1.2.1], by rw [h2.2.2, h1.2.2]⟩
theorem kpC.fr {p : Nat} {z : Int} {σ σ' : Mem} {v : Int} (h : σ' = mset σ 35 2 v) (hp : isText p) : kpC p z σ σ' := by
  unfold isText at hp
  refine ⟨fun q _ => ?_, by rw [h, mset_miss (by omega)], by rw [h, mset_miss (by omega)]⟩
  rw [h, mset_off (by omega), mset_off (by omega)]; exact ⟨rfl, rfl⟩
theorem kpC.em {p : Nat} {σ : Mem} {c o : Int} (hp : isText p) : kpC p (σ p 2) σ (emS σ p c o) := by
  unfold isText at hp
  refine ⟨fun q hq => ?_, ?_, ?_⟩
  · unfold emS
    rw [mset_off (by omega), mset_off (by omega), mset_miss (by omega), mset_off (by omega), mset_miss (by omega), mset_off (by omega)]; exact ⟨rfl, rfl⟩
  · unfold emS; rw [mset_off (by omega), mset_off (by omega), mset_off (by omega)]
  · unfold emS; rw [mset_off (by omega), mset_off (by omega), mset_off (by omega)]
theorem emS_c {p : Nat} {σ : Mem} {c o : Int} : emS σ p c o (p + 1) (σ p 2) = c ∧ emS σ p c o (p + 2) (σ p 2) = o ∧ emS σ p c o p 2 = σ p 2 + 1 := by
  unfold emS
  refine ⟨?_, ?_, mset_hit rfl⟩
  · rw [mset_off (by omega), mset_off (by omega), mset_hit rfl]
  · rw [mset_off (by omega), mset_hit rfl]
/-- an answer of a part of the reader -/
def ansR (b : Int → Int) (N : Int) (p i : Nat) (nd : Int) (σ σ' : Mem) (v : Int) (r : PR) : Prop := frR p σ σ' ∧ match r with
  | .inl e => v = 0 ∧ σ' 35 4 = e.1 ∧ σ' 35 5 = ps b N e.2
  | .inr q => v = 1 ∧ (σ' 35 2 = (q.2 : Int) ∧ σ' p 2 + (i : Int) ≤ σ p 2 + (q.2 : Int) ∧ q.2 ≤ 300 ∧ kpC p (σ p 2) σ σ') ∧ ∃ n : Int, n ≤ nd ∧ Fg (σ' (p + 1)) (σ' (p + 2)) (σ p 2) (σ' p 2) n q.1
theorem ansR.er {b : Int → Int} {N : Int} {p i : Nat} {nd : Int} {σ σ' : Mem} {v : Int} {r : PR} {e : Int × Nat} (h : ansR b N p i nd σ σ' v r) (hr : r = .inl e) : frR p σ σ' ∧ v = 0 ∧ σ' 35 4 = e.1 ∧ σ' 35 5 = ps b N e.2 := by subst hr; exact h
theorem ansR.ok {b : Int → Int} {N : Int} {p i : Nat} {nd : Int} {σ σ' : Mem} {v : Int} {r : PR} {f : Env → Int} {j : Nat} (h : ansR b N p i nd σ σ' v r) (hr : r = .inr (f, j)) : frR p σ σ' ∧ v = 1 ∧ (σ' 35 2 = (j : Int) ∧ σ' p 2 + (i : Int) ≤ σ p 2 + (j : Int) ∧ j ≤ 300 ∧ kpC p (σ p 2) σ σ') ∧ ∃ n : Int, n ≤ nd ∧ Fg (σ' (p + 1)) (σ' (p + 2)) (σ p 2) (σ' p 2) n f := by subst hr; exact h
theorem ansR.mkE {b : Int → Int} {N : Int} {p i : Nat} {nd : Int} {σ σ' : Mem} {v c : Int} {k : Nat} {r : PR} (hr : r = .inl (c, k)) (hF : frR p σ σ') (h1 : v = 0) (h2 : σ' 35 4 = c) (h3 : σ' 35 5 = ps b N k) : ansR b N p i nd σ σ' v r := by subst hr; exact ⟨hF, h1, h2, h3⟩
theorem ansR.mkO {b : Int → Int} {N : Int} {p i : Nat} {nd : Int} {σ σ' : Mem} {v : Int} {f : Env → Int} {j : Nat} {r : PR} (hr : r = .inr (f, j)) (hF : frR p σ σ') (h1 : v = 1) (h2 : σ' 35 2 = (j : Int)) (h3 : σ' p 2 + (i : Int) ≤ σ p 2 + (j : Int)) (h4 : j ≤ 300) (h5 : kpC p (σ p 2) σ σ') {n : Int} (hn : n ≤ nd) (h6 : Fg (σ' (p + 1)) (σ' (p + 2)) (σ p 2) (σ' p 2) n f) : ansR b N p i nd σ σ' v r := by subst hr; exact ⟨hF, h1, ⟨h2, h3, h4, h5⟩, n, hn, h6⟩

def wp_X5_fails (x1 : Int) (σ : Mem) (Q : Int → Mem → Prop) : Prop :=
  ∀ σ1 : Mem, σ1 = mset σ 35 4 x1 →
   (σ1 30 5 ≤ 301) ∧
   ∀ σ7 : Mem, σ7 = mset σ1 35 5 (if 0 ≤ (σ1 35 2) ∧ (σ1 35 2) < σ1 30 5 then σ1 33 (σ1 35 2) else σ1 30 1) →
   Q 0 σ7
theorem mt_X5_fails {d : Nat} (hd : 1 ≤ d) {x1 : Int} {σ : Mem} {Q : Int → Mem → Prop} (hx1 : R32 x1) (hO : OKm σ) (h : wp_X5_fails x1 σ Q) : Mt yX5_fails cX5_fails 2 (some .boolean) d [aR (35), aI (x1)] σ (QI Q) := by
  refine Mt.intro (by decide +kernel) (Nat.le_of_ble_eq_true rfl) [(0, aR (35)), (1, aI (x1))] rfl ?_
  unfold wp_X5_fails at h
  refine G_aload_n 0 rfl rfl dX5_fails_0 ?_
  refine G_iload_n 1 rfl rfl dX5_fails_1 ?_
  obtain ⟨σ1, e3⟩ : ∃ τ : Mem, τ = mset σ 35 4 x1 := ⟨_, rfl⟩
  have h := h σ1 e3
  have o2 : OKm σ1 := by rw [e3]; exact OKm.seti hO _ _ _ hx1 rfl
  refine G_put (k := 4) (ki := 4) (kd := (0, 0)) (x := _) pf_X5_22 rfl rfl rfl rfl (fa_i (mset_self _ _ _ _)) (fun _ => rfl) (fun _ => rfl) dX5_fails_2 ?_
  rw [← e3]
  refine G_aload_n 0 rfl rfl dX5_fails_5 ?_
  refine G_aload_n 0 rfl rfl dX5_fails_6 ?_
  refine G_get (k := 0) (kd := (2, 30)) (v := aR 30) gf_X5_28 rfl rfl rfl rfl dX5_fails_7 ?_
  refine G_aload_n 0 rfl rfl dX5_fails_10 ?_
  refine G_get (k := 2) (kd := (0, 0)) (v := aI (σ1 35 2)) gf_X5_15 rfl rfl rfl rfl dX5_fails_11 ?_
  obtain ⟨c4, h⟩ := h
  refine G_callV (as := [_]) cf_X5_56 rfl rfl rfl (sp_X8_startAt (d - 1) (by omega) _ o2 _ (OKm.i o2 35 2 rfl) c4) (by omega) rfl rfl (Nat.le_of_ble_eq_true rfl) dX5_fails_14 ?_
  rintro _ _ ⟨_, rfl, rfl, rfl⟩ o6 r5
  obtain ⟨σ7, e9⟩ : ∃ τ : Mem, τ = mset σ1 35 5 (if 0 ≤ (σ1 35 2) ∧ (σ1 35 2) < σ1 30 5 then σ1 33 (σ1 35 2) else σ1 30 1) := ⟨_, rfl⟩
  have h := h σ7 e9
  have o8 : OKm σ7 := by rw [e9]; exact OKm.seti o2 _ _ _ (r5 _ rfl) rfl
  refine G_put (k := 5) (ki := 5) (kd := (0, 0)) (x := _) pf_X5_25 rfl rfl rfl rfl (fa_i (mset_self _ _ _ _)) (fun _ => rfl) (fun _ => rfl) dX5_fails_17 ?_
  rw [← e9]
  refine G_iconst dX5_fails_20 ?_
  exact G_zret rfl (by decide) dX5_fails_21 ⟨_, rfl, h⟩ o8

theorem sp_X5_fails (d : Nat) (hd : 1 ≤ d) (σ : Mem) (hO : OKm σ) (x1 : Int) (hx1 : R32 x1) (b : Int → Int) (N : Int) (p : Nat) (i : Nat) (hpre : rdC σ b N p i) : Mt yX5_fails cX5_fails 2 (some .boolean) d [aR (35), aI (x1)] σ (QI (fun v σ' => v = 0 ∧ σ' = mset (mset σ 35 4 x1) 35 5 (ps b N i))) := mt_X5_fails hd hx1 hO (by
  unfold wp_X5_fails
  intro σ1 e1
  have hp' : p ≠ 35 := by have := hpre.1.2.2; unfold isText at this; omega
  have a : ∀ q : Nat, q < 35 → σ1 q = σ q := fun q hq => by rw [e1]; exact mset_ne (by omega)
  refine ⟨by rw [a 30 (by omega)]; exact hpre.1.2.1.1.2, fun σ7 e7 => ⟨rfl, ?_⟩⟩
  have e2 : σ1 35 2 = (i : Int) := by rw [e1, mset_miss (by omega)]; exact hpre.2.2.1
  rw [e2, a 30 (by omega), a 33 (by omega), hpre.1.2.1.start i] at e7
  rw [e7, e1])

def wp_X5_takesKind (x1 : Int) (σ : Mem) (Q : Int → Mem → Prop) : Prop :=
  (σ 30 5 ≤ 301) ∧
   (((if 0 ≤ σ 35 2 ∧ σ 35 2 < σ 30 5 then σ 32 (σ 35 2) else 43) = x1) →
    R32 ((σ 35 2) + 1) ∧
    ∀ σ5 : Mem, σ5 = mset σ 35 2 ((σ 35 2) + 1) →
    Q 1 σ5) ∧
   (((if 0 ≤ σ 35 2 ∧ σ 35 2 < σ 30 5 then σ 32 (σ 35 2) else 43) ≠ x1) →
    ∃ g9 : Int → Int, ∃ g10 : Int, ∃ g11 : Nat, ∃ g12 : Nat, (rdC σ g9 g10 g11 g12) ∧
    ∀ (u17 : Int) (σ16 : Mem), R32 u17 → OKm σ16 → (u17 = 0 ∧ σ16 = mset (mset σ 35 4 (1 : Int)) 35 5 (ps g9 g10 g12)) →
    (u17 = 0 ∨ u17 = 1) ∧
    Q u17 σ16)
theorem mt_X5_takesKind {d : Nat} (hd : 2 ≤ d) {x1 : Int} {σ : Mem} {Q : Int → Mem → Prop} (hx1 : R32 x1) (hO : OKm σ) (h : wp_X5_takesKind x1 σ Q) : Mt yX5_takesKind cX5_takesKind 2 (some .boolean) d [aR (35), aI (x1)] σ (QI Q) := by
  refine Mt.intro (by decide +kernel) (Nat.le_of_ble_eq_true rfl) [(0, aR (35)), (1, aI (x1))] rfl ?_
  unfold wp_X5_takesKind at h
  refine G_aload_n 0 rfl rfl dX5_takesKind_0 ?_
  obtain ⟨c1, h⟩ := h
  refine G_callV (as := []) cf_X5_42 rfl rfl rfl (sp_X5_kind (d - 1) (by omega) _ hO  c1) (by omega) rfl rfl (Nat.le_of_ble_eq_true rfl) dX5_takesKind_1 ?_
  rintro _ _ ⟨_, rfl, rfl, rfl⟩ o3 r2
  refine G_iload_n 1 rfl rfl dX5_takesKind_4 ?_
  refine G_icmp_eq (r2 _ rfl) hx1 dX5_takesKind_5 (tgt := 14) (by decide) (fun c4 => ?_) (fun c4 => ?_)
  · have h := h.1 c4
    refine G_aload_n 0 rfl rfl dX5_takesKind_14 ?_
    refine G_dup rfl dX5_takesKind_15 ?_
    refine G_get (k := 2) (kd := (0, 0)) (v := aI (σ 35 2)) gf_X5_15 rfl rfl rfl rfl dX5_takesKind_16 ?_
    refine G_iconst dX5_takesKind_19 ?_
    refine G_iadd dX5_takesKind_20 ?_
    obtain ⟨c6, h⟩ := h
    obtain ⟨σ5, e8⟩ : ∃ τ : Mem, τ = mset σ 35 2 ((σ 35 2) + 1) := ⟨_, rfl⟩
    have h := h σ5 e8
    have o7 : OKm σ5 := by rw [e8]; exact OKm.seti hO _ _ _ c6 rfl
    refine G_put (k := 2) (ki := 2) (kd := (0, 0)) (x := _) pf_X5_15 rfl rfl rfl rfl (fa_i (mset_self _ _ _ _)) (fun _ => rfl) (fun _ => rfl) dX5_takesKind_21 ?_
    rw [← e8]
    refine G_iconst dX5_takesKind_24 ?_
    exact G_zret rfl (by decide) dX5_takesKind_25 ⟨_, rfl, h⟩ o7
  · have h := h.2 c4
    refine G_aload_n 0 rfl rfl dX5_takesKind_8 ?_
    refine G_iconst dX5_takesKind_9 ?_
    obtain ⟨g9, g10, g11, g12, c13, h⟩ := h
    refine G_callV (as := [_]) cf_X5_59 rfl rfl rfl (sp_X5_fails (d - 1) (by omega) _ hO _ (rL 1 rfl) g9 g10 g11 g12 c13) (by omega) rfl rfl (Nat.le_of_ble_eq_true rfl) dX5_takesKind_10 ?_
    rintro _ σ16 ⟨u17, rfl, z18⟩ o15 r14
    have h := h _ _ (r14 _ rfl) o15 z18
    obtain ⟨c19, h⟩ := h
    exact G_zret rfl c19 dX5_takesKind_13 ⟨_, rfl, h⟩ o15

theorem sp_X5_takesKind (d : Nat) (hd : 2 ≤ d) (σ : Mem) (hO : OKm σ) (x1 : Int) (hx1 : R32 x1) (b : Int → Int) (N : Int) (p : Nat) (i : Nat) (hpre : rdC σ b N p i) : Mt yX5_takesKind cX5_takesKind 2 (some .boolean) d [aR (35), aI (x1)] σ (QI (fun v σ' => (kd b N i = x1 ∧ v = 1 ∧ σ' = mset σ 35 2 ((i : Int) + 1)) ∨ (kd b N i ≠ x1 ∧ v = 0 ∧ σ' = mset (mset σ 35 4 1) 35 5 (ps b N i)))) := mt_X5_takesKind hd hx1 hO (by
  unfold wp_X5_takesKind
  refine ⟨hpre.1.2.1.1.2, ?_⟩
  rw [hpre.kind, hpre.2.2.1]
  have := hpre.2.2.2.1
  exact ⟨fun h => ⟨by unfold R32; omega, fun σ5 e5 => .inl ⟨h, rfl, e5⟩⟩, fun h => ⟨b, N, p, i, hpre, fun u ρ _ _ ⟨e1, e2⟩ => ⟨.inl e1, .inr ⟨h, e1, e2⟩⟩⟩⟩)
