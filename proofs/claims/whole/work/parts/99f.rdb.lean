abbrev XR : Type := (Int × Nat) ⊕ Txt
def tN (r : TR) (c : Txt → Nat → XR) : XR := match r with
  | .inl e => .inl e
  | .inr q => c q.1 q.2
theorem tN_ok {r : TR} {c : Txt → Nat → XR} {T : Txt} {j : Nat} (h : r = .inr (T, j)) : tN r c = c T j := by rw [h]; rfl
theorem tN_er {r : TR} {c : Txt → Nat → XR} {e : Int × Nat} (h : r = .inl e) : tN r c = .inl e := by rw [h]; rfl
noncomputable def pTx (K M : Nat → Int) : Nat → Txt → Nat → XR
  | 0, T, _ => .inr T
  | k + 1, T, i => if K i = 43 then .inr T else tN (pCl K M T i) (fun T' i' => pTx K M k T' i')
theorem pTx_s {K M : Nat → Int} {k i : Nat} {T : Txt} : pTx K M (k + 1) T i = if K i = 43 then .inr T else tN (pCl K M T i) (fun T' i' => pTx K M k T' i') := rfl
abbrev T0 : Txt := (none, none, [])
def xAns (b : Int → Int) (N : Int) (p : Nat) (σ σ' : Mem) (v : Int) (r : XR) : Prop := Fr [30, 32, 33, 34, 35, p, p + 1, p + 2, p + 3, p + 4] σ σ' ∧ (∀ j : Int, j ≠ 5 → σ' 30 j = σ 30 j) ∧ match r with
  | .inl e => v = 0 ∧ σ' 35 4 = e.1 ∧ σ' 35 5 = ps b N e.2
  | .inr T => v = 1 ∧ textC σ' p T ∧ σ' 35 4 = 0 ∧ σ' 35 5 = -1
theorem xAns.E {b : Int → Int} {N : Int} {p : Nat} {σ σ' : Mem} {v : Int} {r : XR} {e : Int × Nat} (hr : r = .inl e) (hv : v = 0) (h1 : Fr [30, 32, 33, 34, 35, p, p + 1, p + 2, p + 3, p + 4] σ σ') (h2 : ∀ j : Int, j ≠ 5 → σ' 30 j = σ 30 j) (h3 : σ' 35 4 = e.1) (h4 : σ' 35 5 = ps b N e.2) : xAns b N p σ σ' v r := by subst hr; exact ⟨h1, h2, hv, h3, h4⟩
theorem xAns.O {b : Int → Int} {N : Int} {p : Nat} {σ σ' : Mem} {v : Int} {r : XR} {T : Txt} (hr : r = .inr T) (hv : v = 1) (h1 : Fr [30, 32, 33, 34, 35, p, p + 1, p + 2, p + 3, p + 4] σ σ') (h2 : ∀ j : Int, j ≠ 5 → σ' 30 j = σ 30 j) (h3 : textC σ' p T) (h4 : σ' 35 4 = 0) (h5 : σ' 35 5 = -1) : xAns b N p σ σ' v r := by subst hr; exact ⟨h1, h2, hv, h3, h4, h5⟩

def wp_X5_takes (p : Nat) (σ : Mem) (Q : Int → Mem → Prop) : Prop :=
 ∀ P38 : Int → Int → Mem → Prop,
 (∀ (v2 : Int) (v3 : Int) (σ : Mem), (R32 v2 → R32 v3 → OKm σ →
   ((24 < v3) →
     (v2 = 0 ∨ v2 = 1) ∧
     Q v2 σ) ∧
    ((v3 ≤ 24) →
     ((v2 = 0) →
      (v2 = 0 ∨ v2 = 1) ∧
      Q v2 σ) ∧
     ((v2 ≠ 0) →
      (σ 30 5 ≤ 301) ∧
      (((if 0 ≤ σ 35 2 ∧ σ 35 2 < σ 30 5 then σ 32 (σ 35 2) else 43) = 43) →
       (v2 = 0 ∨ v2 = 1) ∧
       Q v2 σ) ∧
      (((if 0 ≤ σ 35 2 ∧ σ 35 2 < σ 30 5 then σ 32 (σ 35 2) else 43) ≠ 43) →
       ∃ g37 : Int → Int, ∃ g38 : Int, ∃ g39 : Nat, ∃ g40 : Nat, ∃ g41 : Txt, (rdC σ g37 g38 g39 g40 ∧ σ g39 2 ≤ (g40 : Int) ∧ txI σ g39 g41) ∧
       ∀ (u46 : Int) (σ45 : Mem), R32 u46 → OKm σ45 → (cAns g37 g38 g39 σ σ45 u46 (pCl (kd g37 g38) (nu g37 g38) g41 g40)) →
       R32 (v3 + 1) ∧ P38 u46 (v3 + 1) σ45)))) → P38 v2 v3 σ) →
  ∀ σ1 : Mem, σ1 = mset σ 35 1 (p : Int) →
   ∃ t4 : Nat, isText t4 ∧ σ1 35 1 = (t4 : Int) ∧
   ∀ σ9 : Mem, σ9 = (mset (mset (mset (mset (mset (mset σ1 t4 2 0) t4 3 (-1)) t4 4 (-1)) t4 5 (-1)) t4 6 (-1)) t4 9 0) →
   ∃ g11 : Int → Int, ∃ g12 : Int, (isTp g11 g12 ∧ σ9 30 1 = g12 ∧ (∀ i : Int, 0 ≤ i → i < g12 → σ9 31 i = g11 i)) ∧
   ∀ σ16 : Mem, OKm σ16 → (tokC σ16 g11 g12 ∧ Fr [30, 32, 33, 34] σ9 σ16 ∧ (∀ j : Int, j ≠ 5 → σ16 30 j = σ9 30 j)) →
   ∀ σ19 : Mem, σ19 = mset σ16 35 2 0 →
   ∀ σ22 : Mem, σ22 = mset σ19 35 4 0 →
   ∀ σ25 : Mem, σ25 = mset σ22 35 5 (-1) →
   P38 1 0 σ25
theorem mt_X5_takes {d : Nat} (hd : 79 ≤ d) {p : Nat} {σ : Mem} {Q : Int → Mem → Prop} (hp : isText p) (hO : OKm σ) (h : wp_X5_takes p σ Q) : Mt yX5_takes cX5_takes 4 (some .boolean) d [aR (35), aR (p)] σ (QI Q) := by
  refine Mt.intro (by decide +kernel) (Nat.le_of_ble_eq_true rfl) [(0, aR (35)), (1, aR (p))] rfl ?_
  unfold wp_X5_takes at h
  have h := h (fun (v2 : Int) (v3 : Int) (σ : Mem) => R32 v2 → R32 v3 → OKm σ → G yX5_takes cX5_takes 4 (some .boolean) d (QI Q) 38 [(0, aR (35)), (2, aI (v2)), (3, aI (v3))] [] σ) ?_
  · refine G_aload_n 0 rfl rfl dX5_takes_0 ?_
    refine G_aload_n 1 rfl rfl dX5_takes_1 ?_
    obtain ⟨σ1, e3⟩ : ∃ τ : Mem, τ = mset σ 35 1 (p : Int) := ⟨_, rfl⟩
    have h := h σ1 e3
    have o2 : OKm σ1 := by rw [e3]; exact OKm.seti hO _ _ _ (rT hp) rfl
    refine G_put (k := 1) (ki := 1) (kd := (4, 0)) (x := _) pf_X5_9 rfl rfl rfl rfl (fa_r (posT hp)) (fun _ => rfl) (fun _ => rfl) dX5_takes_2 ?_
    rw [← e3]
    refine G_aload_n 0 rfl rfl dX5_takes_5 ?_
    obtain ⟨t4, c5, c6, h⟩ := h
    refine G_get (k := 1) (kd := (4, 0)) (v := aR t4) gf_X5_9 rfl rfl rfl (fa_text c5 c6) dX5_takes_6 ?_
    refine G_callV (as := []) cf_X5_32 rfl (shT c5) rfl (sp_X9_clear (d - 1) (by omega) _ o2 _ c5) (by omega) rfl rfl (Nat.le_of_ble_eq_true rfl) dX5_takes_9 ?_
    rintro _ σ9 ⟨rfl, e10⟩ o8 r7
    have h := h σ9 e10
    refine G_aload_n 0 rfl rfl dX5_takes_12 ?_
    refine G_get (k := 0) (kd := (2, 30)) (v := aR 30) gf_X5_28 rfl rfl rfl rfl dX5_takes_13 ?_
    obtain ⟨g11, g12, c13, h⟩ := h
    refine G_callV (as := []) cf_X5_37 rfl rfl rfl (sp_X8_cutUp (d - 1) (by omega) _ o8  g11 g12 c13) (by omega) rfl rfl (Nat.le_of_ble_eq_true rfl) dX5_takes_16 ?_
    rintro _ σ16 ⟨rfl, z18⟩ o15 r14
    have h := h _ o15 z18
    refine G_aload_n 0 rfl rfl dX5_takes_19 ?_
    refine G_iconst dX5_takes_20 ?_
    obtain ⟨σ19, e21⟩ : ∃ τ : Mem, τ = mset σ16 35 2 0 := ⟨_, rfl⟩
    have h := h σ19 e21
    have o20 : OKm σ19 := by rw [e21]; exact OKm.seti o15 _ _ _ (rL 0 rfl) rfl
    refine G_put (k := 2) (ki := 2) (kd := (0, 0)) (x := _) pf_X5_15 rfl rfl rfl rfl (fa_i (mset_self _ _ _ _)) (fun _ => rfl) (fun _ => rfl) dX5_takes_21 ?_
    rw [← e21]
    refine G_aload_n 0 rfl rfl dX5_takes_24 ?_
    refine G_iconst dX5_takes_25 ?_
    obtain ⟨σ22, e24⟩ : ∃ τ : Mem, τ = mset σ19 35 4 0 := ⟨_, rfl⟩
    have h := h σ22 e24
    have o23 : OKm σ22 := by rw [e24]; exact OKm.seti o20 _ _ _ (rL 0 rfl) rfl
    refine G_put (k := 4) (ki := 4) (kd := (0, 0)) (x := _) pf_X5_22 rfl rfl rfl rfl (fa_i (mset_self _ _ _ _)) (fun _ => rfl) (fun _ => rfl) dX5_takes_26 ?_
    rw [← e24]
    refine G_aload_n 0 rfl rfl dX5_takes_29 ?_
    refine G_iconst dX5_takes_30 ?_
    obtain ⟨σ25, e27⟩ : ∃ τ : Mem, τ = mset σ22 35 5 (-1) := ⟨_, rfl⟩
    have h := h σ25 e27
    have o26 : OKm σ25 := by rw [e27]; exact OKm.seti o23 _ _ _ (rL (-1) rfl) rfl
    refine G_put (k := 5) (ki := 5) (kd := (0, 0)) (x := _) pf_X5_25 rfl rfl rfl rfl (fa_i (mset_self _ _ _ _)) (fun _ => rfl) (fun _ => rfl) dX5_takes_31 ?_
    rw [← e27]
    refine G_iconst dX5_takes_34 ?_
    refine G_istore_n (lv' := [(2, aI (1)), (0, aR (35)), (1, aR (p))]) rfl rfl (by decide) dX5_takes_35 ?_
    refine G_iconst dX5_takes_36 ?_
    refine G_istore_n (lv' := [(3, aI (0)), (2, aI (1)), (0, aR (35)), (1, aR (p))]) rfl rfl (by decide) dX5_takes_37 ?_
    exact G_pick [2, 1, 0] rfl (h (rL 1 rfl) (rL 0 rfl) o26)
  · intro v2 v3 σ h hv2 hv3 hO
    have h := h hv2 hv3 hO
    refine G_iload_n 2 rfl rfl dX5_takes_38 ?_
    refine G_bipush (by decide) dX5_takes_39 ?_
    refine G_icmp_gt hv3 (rL 24 rfl) dX5_takes_41 (tgt := 68) (by decide) (fun c28 => ?_) (fun c28 => ?_)
    · have h := h.1 c28
      refine G_iload_n 1 rfl rfl dX5_takes_68 ?_
      obtain ⟨c29, h⟩ := h
      exact G_zret rfl c29 dX5_takes_69 ⟨_, rfl, h⟩ hO
    · have h := h.2 c28
      refine G_iload_n 1 rfl rfl dX5_takes_44 ?_
      refine G_if_eq hv2 dX5_takes_45 (tgt := 68) (by decide) (fun c30 => ?_) (fun c30 => ?_)
      · have h := h.1 c30
        refine G_iload_n 1 rfl rfl dX5_takes_68 ?_
        obtain ⟨c31, h⟩ := h
        exact G_zret rfl c31 dX5_takes_69 ⟨_, rfl, h⟩ hO
      · have h := h.2 c30
        refine G_aload_n 0 rfl rfl dX5_takes_48 ?_
        obtain ⟨c32, h⟩ := h
        refine G_callV (as := []) cf_X5_42 rfl rfl rfl (sp_X5_kind (d - 1) (by omega) _ hO  c32) (by omega) rfl rfl (Nat.le_of_ble_eq_true rfl) dX5_takes_49 ?_
        rintro _ _ ⟨_, rfl, rfl, rfl⟩ o34 r33
        refine G_bipush (by decide) dX5_takes_52 ?_
        refine G_icmp_eq (r33 _ rfl) (rL 43 rfl) dX5_takes_54 (tgt := 68) (by decide) (fun c35 => ?_) (fun c35 => ?_)
        · have h := h.1 c35
          refine G_iload_n 1 rfl rfl dX5_takes_68 ?_
          obtain ⟨c36, h⟩ := h
          exact G_zret rfl c36 dX5_takes_69 ⟨_, rfl, h⟩ hO
        · have h := h.2 c35
          refine G_aload_n 0 rfl rfl dX5_takes_57 ?_
          obtain ⟨g37, g38, g39, g40, g41, c42, h⟩ := h
          refine G_callV (as := []) cf_X5_48 rfl rfl rfl (sp_X5_takesClause (d - 1) (by omega) _ hO  g37 g38 g39 g40 g41 c42) (by omega) rfl rfl (Nat.le_of_ble_eq_true rfl) dX5_takes_58 ?_
          rintro _ σ45 ⟨u46, rfl, z47⟩ o44 r43
          have h := h _ _ (r43 _ rfl) o44 z47
          refine G_istore_n (lv' := [(2, aI (u46)), (0, aR (35)), (3, aI (v3))]) rfl rfl (by decide) dX5_takes_61 ?_
          refine G_iinc (lv' := [(3, aI ((v3 + 1))), (2, aI (u46)), (0, aR (35))]) (k := 2) rfl rfl (by decide) dX5_takes_62 ?_
          refine G_goto (tgt := 38) dX5_takes_65 (by decide) ?_
          obtain ⟨c48, h⟩ := h
          exact G_pick [2, 1, 0] rfl (h (r43 _ rfl) c48 o44)

theorem sp_X5_takes (d : Nat) (hd : 79 ≤ d) (σ : Mem) (hO : OKm σ) (p : Nat) (hp : isText p) (b : Int → Int) (N : Int) (hpre : isTp b N ∧ σ 30 1 = N ∧ (∀ i : Int, 0 ≤ i → i < N → σ 31 i = b i)) : Mt yX5_takes cX5_takes 4 (some .boolean) d [aR (35), aR (p)] σ (QI (fun v σ' => xAns b N p σ σ' v (pTx (kd b N) (nu b N) 25 T0 0))) := mt_X5_takes hd hp hO (by
  unfold wp_X5_takes
  intro PP hP
  obtain ⟨hB, hN, h31⟩ := hpre
  generalize hR : pTx (kd b N) (nu b N) 25 T0 0 = R at hP
  have o := off35 hp
  have o4 := off4 hp
  have w : ∀ q ∈ [35, p, p + 1, p + 2, p + 3, p + 4], q ∈ [30, 32, 33, 34, 35, p, p + 1, p + 2, p + 3, p + 4] := by intro q hq; simp at hq ⊢; omega
  have n30 : ∀ σ τ : Mem, Fr [35, p, p + 1, p + 2, p + 3, p + 4] σ τ → τ 30 = σ 30 := fun σ τ h => h 30 (by unfold isText at hp; simp; omega)
  have HE : ∀ (v3 : Int) (τ : Mem) (e : Int × Nat), Fr [30, 32, 33, 34, 35, p, p + 1, p + 2, p + 3, p + 4] σ τ → (∀ j : Int, j ≠ 5 → τ 30 j = σ 30 j) → τ 35 4 = e.1 → τ 35 5 = ps b N e.2 → R = .inl e → PP 0 v3 τ := by
    intro v3 τ e h1 h2 h3 h4 he
    have hQ : xAns b N p σ τ 0 R := xAns.E he rfl h1 h2 h3 h4
    exact hP _ _ _ (fun _ _ _ => ⟨fun _ => ⟨.inl rfl, hQ⟩, fun _ => ⟨fun _ => ⟨.inl rfl, hQ⟩, fun q => absurd rfl q⟩⟩)
  have H : ∀ (k : Nat) (v3 : Int) (T : Txt) (i : Nat) (τ : Mem), v3 + k = 25 → 0 ≤ v3 → rdC τ b N p i → τ p 2 ≤ (i : Int) → txI τ p T → Fr [30, 32, 33, 34, 35, p, p + 1, p + 2, p + 3, p + 4] σ τ → (∀ j : Int, j ≠ 5 → τ 30 j = σ 30 j) → τ 35 4 = 0 → τ 35 5 = -1 → R = pTx (kd b N) (nu b N) k T i → PP 1 v3 τ := by
    intro k
    induction k with
    | zero =>
      intro v3 T i τ hk h0 hr hz hT hF hj h4 h5 he
      exact hP _ _ _ (fun _ _ _ => ⟨fun _ => ⟨.inr rfl, xAns.O he rfl hF hj hT.1 h4 h5⟩, fun h => absurd h (by omega)⟩)
    | succ k ih =>
      intro v3 T i τ hk h0 hr hz hT hF hj h4 h5 he
      rw [pTx_s] at he
      refine hP _ _ _ (fun _ _ _ => ⟨fun h => absurd h (by omega), fun _ => ⟨fun q => absurd q (by omega), fun _ => ⟨hr.1.2.1.1.2, ?_⟩⟩⟩)
      rw [hr.kind]
      refine ⟨fun q => ⟨.inr rfl, xAns.O (by rw [he, if_pos q]) rfl hF hj hT.1 h4 h5⟩, fun q => ⟨b, N, p, i, T, ⟨hr, hz, hT⟩, fun u ρ _ _ h => ⟨by unfold R32; omega, ?_⟩⟩⟩
      rw [if_neg q] at he
      cases hq : pCl (kd b N) (nu b N) T i with
      | inl e =>
        rw [hq] at h
        obtain ⟨hv, hF2, g4, g5⟩ := h
        rw [hv]
        exact HE _ ρ e (hF.tr (hF2.wk w)) (fun j hj' => by rw [n30 _ _ hF2]; exact hj j hj') g4 g5 (by rw [he, tN_er hq])
      | inr qq =>
        obtain ⟨T', i'⟩ := qq
        rw [hq] at h
        obtain ⟨hv, ⟨hr', hz', hi'⟩, hT', hF2, g4, g5⟩ := h
        rw [hv]
        exact ih (v3 + 1) T' i' ρ (by omega) (by omega) hr' hz' hT' (hF.tr (hF2.wk w)) (fun j hj' => by rw [n30 _ _ hF2]; exact hj j hj') (by rw [g4]; exact h4) (by rw [g5]; exact h5) (by rw [he, tN_ok hq])
  intro σ1 e1
  refine ⟨p, hp, by rw [e1, mset_hit rfl], fun σ9 e9 => ?_⟩
  have q9 : ∀ q, q ≠ 35 → q ≠ p → σ9 q = σ q := fun q h1 h2 => by rw [e9, mset_ne h2, mset_ne h2, mset_ne h2, mset_ne h2, mset_ne h2, mset_ne h2, e1, mset_ne h1]
  refine ⟨b, N, ⟨hB, by rw [q9 30 (by omega) (by unfold isText at hp; omega)]; exact hN, fun i a1 a2 => by rw [q9 31 (by omega) (by unfold isText at hp; omega)]; exact h31 i a1 a2⟩, fun σ16 _ ⟨ht, hF, hj⟩ σ19 e19 σ22 e22 σ25 e25 => ?_⟩
  have hp' := hp
  unfold isText at hp'
  have q25 : ∀ q, q ≠ 35 → σ25 q = σ16 q := fun q hq => by rw [e25, mset_ne hq, e22, mset_ne hq, e19, mset_ne hq]
  have p16 : σ16 p = σ9 p := hF p (by simp; omega)
  have f25 : σ25 35 4 = 0 ∧ σ25 35 5 = -1 ∧ σ25 35 2 = 0 ∧ σ25 35 1 = (p : Int) := by
    refine ⟨by rw [e25, mset_miss (by omega), e22, mset_hit rfl], by rw [e25, mset_hit rfl], by rw [e25, mset_miss (by omega), e22, mset_miss (by omega), e19, mset_hit rfl], ?_⟩
    rw [e25, mset_miss (by omega), e22, mset_miss (by omega), e19, mset_miss (by omega), hF 35 (by simp), e9, mset_off o.1, mset_off o.1, mset_off o.1, mset_off o.1, mset_off o.1, mset_off o.1, e1, mset_hit rfl]
  have v9 : σ25 p 2 = 0 ∧ σ25 p 3 = -1 ∧ σ25 p 5 = -1 ∧ σ25 p 9 = 0 := by
    rw [q25 p (by omega), p16, e9]
    refine ⟨?_, ?_, ?_, mset_hit rfl⟩
    · rw [mset_miss (by omega), mset_miss (by omega), mset_miss (by omega), mset_miss (by omega), mset_miss (by omega), mset_hit rfl]
    · rw [mset_miss (by omega), mset_miss (by omega), mset_miss (by omega), mset_miss (by omega), mset_hit rfl]
    · rw [mset_miss (by omega), mset_miss (by omega), mset_hit rfl]
  have ht25 : tokC σ25 b N := by
    unfold tokC at *
    rw [q25 30 (by omega), q25 32 (by omega), q25 33 (by omega), q25 34 (by omega)]; exact ht
  have hF9 : Fr [30, 32, 33, 34, 35, p, p + 1, p + 2, p + 3, p + 4] σ σ9 := fun q hq => by simp at hq; exact q9 q (by omega) (by omega)
  refine H 25 0 T0 0 σ25 (by omega) (by omega) ⟨⟨hB, ht25, hp⟩, f25.2.2.2, f25.2.2.1, by omega, by rw [v9.1]; omega, by rw [v9.1]; omega⟩ (by rw [v9.1]; omega) ?_ ?_ (fun j hjj => ?_) f25.1 f25.2.1 hR.symm
  · exact ⟨⟨v9.2.1, v9.2.2.1, ⟨fun f h => (by cases h), fun f h => (by cases h)⟩, v9.2.2.2, by simp, fun k c h => by simp at h⟩, fun f h => (by cases h), fun f h => (by cases h)⟩
  · refine hF9.tr (fun q hq => ?_)
    rw [q25 q (by simp at hq; omega)]; exact hF q (by simp at hq ⊢; omega)
  · rw [q25 30 (by omega), hj j hjj, q9 30 (by omega) (by omega)])
