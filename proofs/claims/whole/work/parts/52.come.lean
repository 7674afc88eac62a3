def wp_X12_isNet (x1 : Int) (σ : Mem) (Q : Int → Mem → Prop) : Prop :=
  (0 ≤ (11 + x1) ∧ (11 + x1) < 2119) ∧
   (((σ 75 (11 + x1)) ≤ 0) →
    Q 0 σ) ∧
   ((0 < (σ 75 (11 + x1))) →
    Q 1 σ)
theorem mt_X12_isNet {d : Nat} (hd : 0 ≤ d) {x1 : Int} {σ : Mem} {Q : Int → Mem → Prop} (hx1 : R32 x1) (hO : OKm σ) (h : wp_X12_isNet x1 σ Q) : Mt yX12_isNet cX12_isNet 2 (some .boolean) d [aR (74), aI (x1)] σ (QI Q) := by
  refine Mt.intro (by decide +kernel) (Nat.le_of_ble_eq_true rfl) [(0, aR (74)), (1, aI (x1))] rfl ?_
  unfold wp_X12_isNet at h
  refine G_aload_n 0 rfl rfl dX12_isNet_0 ?_
  refine G_get (k := 0) (kd := (2, 75)) (v := aR 75) gf_X12_7 rfl rfl rfl rfl dX12_isNet_1 ?_
  refine G_bipush (by decide) dX12_isNet_4 ?_
  refine G_iload_n 1 rfl rfl dX12_isNet_6 ?_
  refine G_iadd dX12_isNet_7 ?_
  obtain ⟨c1, h⟩ := h
  refine G_iald (n := 2119) rfl c1.1 c1.2 dX12_isNet_8 ?_
  refine G_if_le (OKm.i hO 75 (11 + x1) (isLg_row (show shp 75 = (1, 2119, []) from rfl) _)) dX12_isNet_9 (tgt := 16) (by decide) (fun c2 => ?_) (fun c2 => ?_)
  · have h := h.1 c2
    refine G_iconst dX12_isNet_16 ?_
    exact G_zret rfl (by decide) dX12_isNet_17 ⟨_, rfl, h⟩ hO
  · have h := h.2 c2
    refine G_iconst dX12_isNet_12 ?_
    refine G_goto (tgt := 17) dX12_isNet_13 (by decide) ?_
    exact G_zret rfl (by decide) dX12_isNet_17 ⟨_, rfl, h⟩ hO

theorem sp_X12_isNet (d : Nat) (hd : 0 ≤ d) (σ : Mem) (hO : OKm σ) (x1 : Int) (hx1 : R32 x1) (hpre : 0 ≤ x1 ∧ x1 < 16) : Mt yX12_isNet cX12_isNet 2 (some .boolean) d [aR (74), aI (x1)] σ (QI (fun v σ' => bI (0 < σ 75 (11 + x1)) = v ∧ σ = σ')) := mt_X12_isNet hd hx1 hO (by
  unfold wp_X12_isNet
  refine ⟨by omega, fun h => ⟨?_, rfl⟩, fun h => ⟨?_, rfl⟩⟩
  · unfold bI; rw [if_neg (by omega)]
  · unfold bI; rw [if_pos h])

def netB (A : Mem) (r : Int) : Bool := decide (0 < A 1 r)
def netS (A : Mem) : Int := bitsN (fun r => netB A (r : Int)) (A 10 0).toNat
def ntB (A : Mem) (t : Int) : Bool := decide (0 < degS A t)
def ntS (A : Mem) : Int := bitsN (fun t => ntB A (t : Int)) 8
def lonS (A : Mem) : Int := bitsN (fun t => decide (degS A (t : Int) = 0)) 8
theorem netS_r {A : Mem} (hI : InvA A) : 0 ≤ netS A ∧ netS A < 65536 := by
  have h1 := bitsN_r (fun r => netB A (r : Int)) (A 10 0).toNat
  have h2 := pow_le' (show (A 10 0).toNat ≤ 16 by have := hI.1; omega)
  unfold netS
  have : (2 : Int) ^ 16 = 65536 := by decide
  omega
theorem netS_t {A : Mem} (hI : InvA A) {r : Int} (h0 : 0 ≤ r) (hr : r < A 10 0) : tbt (netS A) r = netB A r := by
  unfold netS
  rw [tb_bitsN h0, decide_eq_true (by omega), show ((r.toNat : Nat) : Int) = r by omega]; rfl
theorem b8 (f : Nat → Bool) : 0 ≤ bitsN f 8 ∧ bitsN f 8 < 256 := by
  have := bitsN_r f 8
  have e : (2 : Int) ^ 8 = 256 := by decide
  omega
theorem tb8 {f : Nat → Bool} {t : Int} (h0 : 0 ≤ t) (h : t ≤ 7) : tbt (bitsN f 8) t = f t.toNat := by
  rw [tb_bitsN h0, decide_eq_true (by omega)]; rfl
theorem p256 : (2 : Int) ^ 8 = 256 := by decide
theorem set8 {s : Int} {f : Nat → Bool} (hs : 0 ≤ s ∧ s < 256) (h : ∀ t : Int, 0 ≤ t → t ≤ 7 → tbt s t = f t.toNat) : s = bitsN f 8 :=
  set_eq hs.1 (by rw [p256]; exact hs.2) (fun t h0 h8 => h t h0 (by omega))
theorem hi8 {s t : Int} (hs : 0 ≤ s ∧ s < 256) (ht : 8 ≤ t) : tbt s t = false := tb_hi (n := 8) (by rw [p256]; exact hs.2) hs.1 (by omega)
theorem low8 {s : Int} (h0 : 0 ≤ s) (h : ∀ t : Int, 8 ≤ t → tbt s t = false) : s < 256 := by
  have e : s = bitsN (fun t => tbt s (t : Int)) 8 := by
    refine tb_ext h0 (bitsN_r _ 8).1 (fun t ht => ?_)
    rw [tb_bitsN ht, show ((t.toNat : Nat) : Int) = t by omega]
    by_cases h8 : t < 8
    · rw [decide_eq_true (by omega)]; rfl
    · rw [decide_eq_false (by omega), h t (by omega)]; rfl
  rw [e]; exact (b8 _).2
theorem add2 {s x y : Int} (hs : 0 ≤ s ∧ s < 256) (hx : 0 ≤ x ∧ x ≤ 7) (hy : 0 ≤ y ∧ y ≤ 7) : (0 ≤ bOr s (bOr (bShl 1 x) (bShl 1 y)) ∧ bOr s (bOr (bShl 1 x) (bShl 1 y)) < 256) ∧ ∀ t : Int, 0 ≤ t → tbt (bOr s (bOr (bShl 1 x) (bShl 1 y))) t = (tbt s t || (decide (t = x) || decide (t = y))) := by
  have a1 := (tb_shl (k := x) (t := 0) (by omega) (by omega)).1
  have a2 := (tb_shl (k := y) (t := 0) (by omega) (by omega)).1
  have a3 := (tb_or (t := 0) a1 a2).1
  have a4 := (tb_or (s := s) (t := 0) ⟨hs.1, by omega⟩ a3).1
  have htb : ∀ t : Int, 0 ≤ t → tbt (bOr s (bOr (bShl 1 x) (bShl 1 y))) t = (tbt s t || (decide (t = x) || decide (t = y))) := fun t h0 => by
    rw [(tb_or (t := t) (s := s) ⟨hs.1, by omega⟩ a3).2, (tb_or (t := t) a1 a2).2, (tb_shl (by omega) h0).2, (tb_shl (by omega) h0).2]
  refine ⟨⟨a4.1, low8 a4.1 (fun t ht => ?_)⟩, htb⟩
  rw [htb t (by omega), hi8 hs ht, decide_eq_false (by omega), decide_eq_false (by omega)]; rfl
theorem deg_pos {A : Mem} {t : Int} : ∀ n : Nat, 0 < degN A t n ↔ ∃ r : Nat, r < n ∧ netR A t (r : Int) = true
  | 0 => by simp [degN]
  | n + 1 => by
    have ih := deg_pos (A := A) (t := t) n
    have hr := degN_r A t n
    unfold degN
    constructor
    · intro h
      by_cases hn : netR A t (n : Int) = true
      · exact ⟨n, by omega, hn⟩
      · rw [if_neg hn] at h
        obtain ⟨r, h1, h2⟩ := ih.mp (by omega)
        exact ⟨r, by omega, h2⟩
    · intro ⟨r, h1, h2⟩
      by_cases e : r = n
      · subst e; rw [if_pos h2]; omega
      · have := ih.mpr ⟨r, by omega, h2⟩
        split <;> omega

def wp_X12_net  (σ : Mem) (Q : Int → Mem → Prop) : Prop :=
 ∀ P4 : Int → Int → Mem → Prop,
 (∀ (v1 : Int) (v2 : Int) (σ : Mem), (R32 v1 → R32 v2 → OKm σ →
   (((σ 75 0) ≤ v2) →
     Q v1 σ) ∧
    ((v2 < (σ 75 0)) →
     (0 ≤ v2 ∧ v2 < 16) ∧
     ((¬ (0 < σ 75 (11 + v2))) →
      R32 (v2 + 1) ∧ P4 (bOr v1 0) (v2 + 1) σ) ∧
     ((0 < σ 75 (11 + v2)) →
      R32 (v2 + 1) ∧ P4 (bOr v1 (bShl 1 v2)) (v2 + 1) σ))) → P4 v1 v2 σ) →
  P4 0 0 σ
theorem mt_X12_net {d : Nat} (hd : 1 ≤ d)  {σ : Mem} {Q : Int → Mem → Prop}  (hO : OKm σ) (h : wp_X12_net  σ Q) : Mt yX12_net cX12_net 3 (some .int) d [aR (74)] σ (QI Q) := by
  refine Mt.intro (by decide +kernel) (Nat.le_of_ble_eq_true rfl) [(0, aR (74))] rfl ?_
  unfold wp_X12_net at h
  have h := h (fun (v1 : Int) (v2 : Int) (σ : Mem) => R32 v1 → R32 v2 → OKm σ → G yX12_net cX12_net 3 (some .int) d (QI Q) 4 [(0, aR (74)), (1, aI (v1)), (2, aI (v2))] [] σ) ?_
  · refine G_iconst dX12_net_0 ?_
    refine G_istore_n (lv' := [(1, aI (0)), (0, aR (74))]) rfl rfl (by decide) dX12_net_1 ?_
    refine G_iconst dX12_net_2 ?_
    refine G_istore_n (lv' := [(2, aI (0)), (1, aI (0)), (0, aR (74))]) rfl rfl (by decide) dX12_net_3 ?_
    exact G_pick [2, 1, 0] rfl (h (rL 0 rfl) (rL 0 rfl) hO)
  · intro v1 v2 σ h hv1 hv2 hO
    have h := h hv1 hv2 hO
    refine G_iload_n 2 rfl rfl dX12_net_4 ?_
    refine G_aload_n 0 rfl rfl dX12_net_5 ?_
    refine G_get (k := 0) (kd := (2, 75)) (v := aR 75) gf_X12_7 rfl rfl rfl rfl dX12_net_6 ?_
    refine G_iconst dX12_net_9 ?_
    refine G_iald (n := 2119) rfl (by decide) (by decide) dX12_net_10 ?_
    refine G_icmp_ge hv2 (OKm.i hO 75 0 (isLg_row (show shp 75 = (1, 2119, []) from rfl) _)) dX12_net_11 (tgt := 38) (by decide) (fun c1 => ?_) (fun c1 => ?_)
    · have h := h.1 c1
      refine G_iload_n 1 rfl rfl dX12_net_38 ?_
      exact G_iret rfl hv1 dX12_net_39 ⟨_, rfl, h⟩ hO
    · have h := h.2 c1
      refine G_iload_n 1 rfl rfl dX12_net_14 ?_
      refine G_aload_n 0 rfl rfl dX12_net_15 ?_
      refine G_iload_n 2 rfl rfl dX12_net_16 ?_
      obtain ⟨c2, h⟩ := h
      refine G_callV (as := [_]) cf_X12_431 rfl rfl rfl (sp_X12_isNet (d - 1) (by omega) _ hO _ hv2 c2) (by omega) rfl rfl (Nat.le_of_ble_eq_true rfl) dX12_net_17 ?_
      rintro _ _ ⟨_, rfl, rfl, rfl⟩ o4 r3
      refine G_if_eq (bI_R _) dX12_net_20 (tgt := 29) (by decide) (fun c5 => ?_) (fun c5 => ?_)
      · have h := h.1 ((bI_0 _).mp c5)
        refine G_iconst dX12_net_29 ?_
        refine G_ior dX12_net_30 ?_
        refine G_istore_n (lv' := [(1, aI ((bOr v1 0))), (0, aR (74)), (2, aI (v2))]) rfl rfl (by decide) dX12_net_31 ?_
        refine G_iinc (lv' := [(2, aI ((v2 + 1))), (1, aI ((bOr v1 0))), (0, aR (74))]) (k := 2) rfl rfl (by decide) dX12_net_32 ?_
        refine G_goto (tgt := 4) dX12_net_35 (by decide) ?_
        obtain ⟨c6, h⟩ := h
        exact G_pick [2, 1, 0] rfl (h (r32_of _) c6 hO)
      · have h := h.2 (bI_ne c5)
        refine G_iconst dX12_net_23 ?_
        refine G_iload_n 2 rfl rfl dX12_net_24 ?_
        refine G_ishl dX12_net_25 ?_
        refine G_goto (tgt := 30) dX12_net_26 (by decide) ?_
        refine G_ior dX12_net_30 ?_
        refine G_istore_n (lv' := [(1, aI ((bOr v1 (bShl 1 v2)))), (0, aR (74)), (2, aI (v2))]) rfl rfl (by decide) dX12_net_31 ?_
        refine G_iinc (lv' := [(2, aI ((v2 + 1))), (1, aI ((bOr v1 (bShl 1 v2)))), (0, aR (74))]) (k := 2) rfl rfl (by decide) dX12_net_32 ?_
        refine G_goto (tgt := 4) dX12_net_35 (by decide) ?_
        obtain ⟨c7, h⟩ := h
        exact G_pick [2, 1, 0] rfl (h (r32_of _) c7 hO)

theorem sp_X12_net (d : Nat) (hd : 1 ≤ d) (σ : Mem) (hO : OKm σ) (A : Mem) (tx : Nat → Txt) (hpre : vwM σ A tx) : Mt yX12_net cX12_net 3 (some .int) d [aR (74)] σ (QI (fun v σ' => v = netS A ∧ σ' = σ)) := mt_X12_net hd  hO (by
  unfold wp_X12_net
  intro P4 h4
  have hV := hpre
  have hI := hV.2.2.1
  have hc := hI.1
  have e0 : σ 75 0 = A 10 0 := hV.1.1.1
  have e1 : σ 75 1 = A 10 1 := hV.1.1.2.1
  have H : ∀ (n k : Nat), k + n = (A 10 0).toNat → P4 (bitsN (fun r => netB A (r : Int)) k) (k : Int) σ := by
    intro n
    induction n with
    | zero =>
      intro k hk
      have hk2 : k = (A 10 0).toNat := by omega
      refine h4 _ _ _ (fun _ _ _ => ⟨fun _ => ⟨by unfold netS; rw [hk2], rfl⟩, fun h => absurd h (by omega)⟩)
    | succ n ih =>
      intro k hk
      have ih1 := ih (k + 1) (by omega)
      have n1 := hV.2.1.2.1 (k : Int) (by omega) (by omega)
      refine h4 _ _ _ (fun _ _ _ => ⟨fun h => absurd h (by omega), fun _ => ?_⟩)
      rw [n1]
      refine ⟨by omega, fun h => ⟨by unfold R32; omega, ?_⟩, fun h => ⟨by unfold R32; omega, ?_⟩⟩
      · rw [bitsN_or0 (f := fun r => netB A (r : Int)) (by omega) (decide_eq_false h)]; exact ih1
      · rw [bitsN_or (f := fun r => netB A (r : Int)) (by omega) (decide_eq_true h)]; exact ih1
  exact H _ 0 (Nat.zero_add _))

def wp_X12_netTowns  (σ : Mem) (Q : Int → Mem → Prop) : Prop :=
 ∀ P4 : Int → Int → Mem → Prop,
 (∀ (v1 : Int) (v2 : Int) (σ : Mem), (R32 v1 → R32 v2 → OKm σ →
   (((σ 75 0) ≤ v2) →
     Q v1 σ) ∧
    ((v2 < (σ 75 0)) →
     (0 ≤ v2 ∧ v2 < 16) ∧
     ((¬ (0 < σ 75 (11 + v2))) →
      R32 (v2 + 1) ∧ P4 (bOr v1 0) (v2 + 1) σ) ∧
     ((0 < σ 75 (11 + v2)) →
      (0 ≤ v2 ∧ v2 < 16 ∧ 0 ≤ (0 : Int) ∧ (0 : Int) < 4) ∧
      (0 ≤ v2 ∧ v2 < 16 ∧ 0 ≤ (1 : Int) ∧ (1 : Int) < 4) ∧
      ∀ y13 : Int, y13 = (bOr v1 (bOr (bShl 1 (σ 75 (39 + 4 * v2 + (0 : Int)))) (bShl 1 (σ 75 (39 + 4 * v2 + (1 : Int)))))) →
      R32 (v2 + 1) ∧ P4 y13 (v2 + 1) σ))) → P4 v1 v2 σ) →
  P4 0 0 σ
theorem mt_X12_netTowns {d : Nat} (hd : 1 ≤ d)  {σ : Mem} {Q : Int → Mem → Prop}  (hO : OKm σ) (h : wp_X12_netTowns  σ Q) : Mt yX12_netTowns cX12_netTowns 3 (some .int) d [aR (74)] σ (QI Q) := by
  refine Mt.intro (by decide +kernel) (Nat.le_of_ble_eq_true rfl) [(0, aR (74))] rfl ?_
  unfold wp_X12_netTowns at h
  have h := h (fun (v1 : Int) (v2 : Int) (σ : Mem) => R32 v1 → R32 v2 → OKm σ → G yX12_netTowns cX12_netTowns 3 (some .int) d (QI Q) 4 [(0, aR (74)), (1, aI (v1)), (2, aI (v2))] [] σ) ?_
  · refine G_iconst dX12_netTowns_0 ?_
    refine G_istore_n (lv' := [(1, aI (0)), (0, aR (74))]) rfl rfl (by decide) dX12_netTowns_1 ?_
    refine G_iconst dX12_netTowns_2 ?_
    refine G_istore_n (lv' := [(2, aI (0)), (1, aI (0)), (0, aR (74))]) rfl rfl (by decide) dX12_netTowns_3 ?_
    exact G_pick [2, 1, 0] rfl (h (rL 0 rfl) (rL 0 rfl) hO)
  · intro v1 v2 σ h hv1 hv2 hO
    have h := h hv1 hv2 hO
    refine G_iload_n 2 rfl rfl dX12_netTowns_4 ?_
    refine G_aload_n 0 rfl rfl dX12_netTowns_5 ?_
    refine G_get (k := 0) (kd := (2, 75)) (v := aR 75) gf_X12_7 rfl rfl rfl rfl dX12_netTowns_6 ?_
    refine G_iconst dX12_netTowns_9 ?_
    refine G_iald (n := 2119) rfl (by decide) (by decide) dX12_netTowns_10 ?_
    refine G_icmp_ge hv2 (OKm.i hO 75 0 (isLg_row (show shp 75 = (1, 2119, []) from rfl) _)) dX12_netTowns_11 (tgt := 52) (by decide) (fun c1 => ?_) (fun c1 => ?_)
    · have h := h.1 c1
      refine G_iload_n 1 rfl rfl dX12_netTowns_52 ?_
      exact G_iret rfl hv1 dX12_netTowns_53 ⟨_, rfl, h⟩ hO
    · have h := h.2 c1
      refine G_iload_n 1 rfl rfl dX12_netTowns_14 ?_
      refine G_aload_n 0 rfl rfl dX12_netTowns_15 ?_
      refine G_iload_n 2 rfl rfl dX12_netTowns_16 ?_
      obtain ⟨c2, h⟩ := h
      refine G_callV (as := [_]) cf_X12_431 rfl rfl rfl (sp_X12_isNet (d - 1) (by omega) _ hO _ hv2 c2) (by omega) rfl rfl (Nat.le_of_ble_eq_true rfl) dX12_netTowns_17 ?_
      rintro _ _ ⟨_, rfl, rfl, rfl⟩ o4 r3
      refine G_if_eq (bI_R _) dX12_netTowns_20 (tgt := 43) (by decide) (fun c5 => ?_) (fun c5 => ?_)
      · have h := h.1 ((bI_0 _).mp c5)
        refine G_iconst dX12_netTowns_43 ?_
        refine G_ior dX12_netTowns_44 ?_
        refine G_istore_n (lv' := [(1, aI ((bOr v1 0))), (0, aR (74)), (2, aI (v2))]) rfl rfl (by decide) dX12_netTowns_45 ?_
        refine G_iinc (lv' := [(2, aI ((v2 + 1))), (1, aI ((bOr v1 0))), (0, aR (74))]) (k := 2) rfl rfl (by decide) dX12_netTowns_46 ?_
        refine G_goto (tgt := 4) dX12_netTowns_49 (by decide) ?_
        obtain ⟨c6, h⟩ := h
        exact G_pick [2, 1, 0] rfl (h (r32_of _) c6 hO)
      · have h := h.2 (bI_ne c5)
        refine G_iconst dX12_netTowns_23 ?_
        refine G_aload_n 0 rfl rfl dX12_netTowns_24 ?_
        refine G_iload_n 2 rfl rfl dX12_netTowns_25 ?_
        refine G_iconst dX12_netTowns_26 ?_
        obtain ⟨c7, h⟩ := h
        refine G_callV (as := [_, _]) cf_X12_85 rfl rfl rfl (sp_X12_told (d - 1) (by omega) _ hO _ hv2 _ (rL 0 rfl) c7) (by omega) rfl rfl (Nat.le_of_ble_eq_true rfl) dX12_netTowns_27 ?_
        rintro _ _ ⟨_, rfl, rfl, rfl⟩ o9 r8
        refine G_ishl dX12_netTowns_30 ?_
        refine G_iconst dX12_netTowns_31 ?_
        refine G_aload_n 0 rfl rfl dX12_netTowns_32 ?_
        refine G_iload_n 2 rfl rfl dX12_netTowns_33 ?_
        refine G_iconst dX12_netTowns_34 ?_
        obtain ⟨c10, h⟩ := h
        refine G_callV (as := [_, _]) cf_X12_85 rfl rfl rfl (sp_X12_told (d - 1) (by omega) _ hO _ hv2 _ (rL 1 rfl) c10) (by omega) rfl rfl (Nat.le_of_ble_eq_true rfl) dX12_netTowns_35 ?_
        rintro _ _ ⟨_, rfl, rfl, rfl⟩ o12 r11
        refine G_ishl dX12_netTowns_38 ?_
        refine G_ior dX12_netTowns_39 ?_
        refine G_goto (tgt := 44) dX12_netTowns_40 (by decide) ?_
        refine G_ior dX12_netTowns_44 ?_
        have h := h _ rfl
        refine G_istore_n (lv' := [(1, aI (((bOr v1 (bOr (bShl 1 (σ 75 (39 + 4 * v2 + (0 : Int)))) (bShl 1 (σ 75 (39 + 4 * v2 + (1 : Int))))))))), (0, aR (74)), (2, aI (v2))]) rfl rfl (by decide) dX12_netTowns_45 ?_
        refine G_iinc (lv' := [(2, aI ((v2 + 1))), (1, aI (((bOr v1 (bOr (bShl 1 (σ 75 (39 + 4 * v2 + (0 : Int)))) (bShl 1 (σ 75 (39 + 4 * v2 + (1 : Int))))))))), (0, aR (74))]) (k := 2) rfl rfl (by decide) dX12_netTowns_46 ?_
        refine G_goto (tgt := 4) dX12_netTowns_49 (by decide) ?_
        obtain ⟨c14, h⟩ := h
        exact G_pick [2, 1, 0] rfl (h (r32_of _) c14 hO)

theorem sp_X12_netTowns (d : Nat) (hd : 1 ≤ d) (σ : Mem) (hO : OKm σ) (A : Mem) (tx : Nat → Txt) (hpre : vwM σ A tx) : Mt yX12_netTowns cX12_netTowns 3 (some .int) d [aR (74)] σ (QI (fun v σ' => v = ntS A ∧ σ' = σ)) := mt_X12_netTowns hd  hO (by
  unfold wp_X12_netTowns
  intro P4 h4
  have hV := hpre
  have hI := hV.2.2.1
  have hc := hI.1
  have e0 : σ 75 0 = A 10 0 := hV.1.1.1
  have e1 : σ 75 1 = A 10 1 := hV.1.1.2.1
  have H : ∀ (n k : Nat) (s : Int), k + n = (A 10 0).toNat → (0 ≤ s ∧ s < 256) → (∀ t : Int, 0 ≤ t → t ≤ 7 → tbt s t = decide (0 < degN A t k)) → P4 s (k : Int) σ := by
    intro n
    induction n with
    | zero =>
      intro k s hk hs ht
      have hk2 : k = (A 10 0).toNat := by omega
      refine h4 _ _ _ (fun _ _ _ => ⟨fun _ => ⟨?_, rfl⟩, fun h => absurd h (by omega)⟩)
      refine set8 hs (fun t h0 h8 => ?_)
      rw [ht t h0 h8]
      unfold ntB degS
      rw [hk2, show ((t.toNat : Nat) : Int) = t by omega]
    | succ n ih =>
      intro k s hk hs ht
      have n1 := hV.2.1.2.1 (k : Int) (by omega) (by omega)
      have t1 := hV.1.2.1 (k : Int) (by omega) (by omega)
      have s0 : σ 75 (39 + 4 * (k : Int) + 0) = A 11 (k : Int) := by rw [Int.add_zero]; exact t1.1
      have s1 : σ 75 (39 + 4 * (k : Int) + 1) = A 12 (k : Int) := t1.2.1
      have hl := hI.2.1 (k : Int) (by omega) (by omega)
      refine h4 _ _ _ (fun _ _ _ => ⟨fun h => absurd h (by omega), fun _ => ?_⟩)
      rw [n1, s0, s1]
      refine ⟨by omega, fun h => ⟨by unfold R32; omega, ?_⟩, fun h => ⟨by omega, by omega, ?_⟩⟩
      · rw [bOr_0 (by unfold R32; omega)]
        refine ih (k + 1) s (by omega) hs (fun t h0 h7 => ?_)
        have e : degN A t (k + 1) = degN A t k := by
          show _ + (if _ then _ else _) = _
          have : netR A t (k : Int) = false := decide_eq_false (fun q => h q.1)
          rw [this]; simp
        rw [e]; exact ht t h0 h7
      · obtain ⟨a4, htb⟩ := add2 (x := A 11 (k : Int)) (y := A 12 (k : Int)) hs (by omega) (by omega)
        refine fun y hy => ⟨by unfold R32; omega, ?_⟩
        rw [hy]
        refine ih (k + 1) _ (by omega) a4 (fun t h0 h7 => ?_)
        rw [htb t h0, ht t h0 h7]
        have hr := degN_r A t k
        show _ = decide (0 < degN A t k + (if netR A t (k : Int) = true then 1 else 0))
        by_cases q : t = A 11 (k : Int) ∨ t = A 12 (k : Int)
        · have hn : netR A t (k : Int) = true := decide_eq_true ⟨h, by omega⟩
          rw [hn, if_pos rfl, decide_eq_true (show 0 < degN A t k + 1 by omega)]
          rcases q with q | q
          · rw [decide_eq_true q]; simp
          · rw [decide_eq_true q]; simp
        · have hn : netR A t (k : Int) = false := decide_eq_false (fun z => by omega)
          rw [hn, decide_eq_false (show ¬ t = A 11 (k : Int) by omega), decide_eq_false (show ¬ t = A 12 (k : Int) by omega)]
          simp
  exact H _ 0 0 (Nat.zero_add _) (by omega) (fun t h0 h7 => by unfold tbt; simp [degN]))

def wp_X12_comeTo (x1 : Int) (x2 : Int) (σ : Mem) (Q : Int → Mem → Prop) : Prop :=
 ∀ P7 : Int → Int → Int → Mem → Prop,
 ∀ P17 : Int → Int → Int → Int → Mem → Prop,
 (∀ (v2 : Int) (v3 : Int) (v4 : Int) (σ : Mem), (R32 v2 → R32 v3 → R32 v4 → OKm σ →
   ((8 ≤ v4) →
     Q v3 σ) ∧
    ((v4 < 8) →
     P17 v2 v3 v4 0 σ)) → P7 v2 v3 v4 σ) →
 (∀ (v2 : Int) (v3 : Int) (v4 : Int) (v5 : Int) (σ : Mem), (R32 v2 → R32 v3 → R32 v4 → R32 v5 → OKm σ →
   (((σ 75 0) ≤ v5) →
     R32 (v4 + 1) ∧ P7 v2 v3 (v4 + 1) σ) ∧
    ((v5 < (σ 75 0)) →
     ((0 ≤ v2 ∧ v2 < 2147483648) ∧ (0 ≤ v5 ∧ v5 < 31)) ∧
     ((¬ ((v2).toNat.testBit (v5).toNat = true)) →
      R32 (v5 + 1) ∧ P17 v2 v3 v4 (v5 + 1) σ) ∧
     (((v2).toNat.testBit (v5).toNat = true) →
      (0 ≤ v5 ∧ v5 < 16 ∧ 0 ≤ (0 : Int) ∧ (0 : Int) < 4) ∧
      ((0 ≤ v3 ∧ v3 < 2147483648) ∧ (0 ≤ (σ 75 (39 + 4 * v5 + (0 : Int))) ∧ (σ 75 (39 + 4 * v5 + (0 : Int))) < 31)) ∧
      (((v3).toNat.testBit ((σ 75 (39 + 4 * v5 + (0 : Int)))).toNat = true) →
       (0 ≤ v5 ∧ v5 < 16 ∧ 0 ≤ (0 : Int) ∧ (0 : Int) < 4) ∧
       (0 ≤ v5 ∧ v5 < 16 ∧ 0 ≤ (1 : Int) ∧ (1 : Int) < 4) ∧
       ∀ y22 : Int, y22 = (bOr v3 (bOr (bShl 1 (σ 75 (39 + 4 * v5 + (0 : Int)))) (bShl 1 (σ 75 (39 + 4 * v5 + (1 : Int)))))) →
       R32 (v5 + 1) ∧ P17 v2 y22 v4 (v5 + 1) σ) ∧
      ((¬ ((v3).toNat.testBit ((σ 75 (39 + 4 * v5 + (0 : Int)))).toNat = true)) →
       (0 ≤ v5 ∧ v5 < 16 ∧ 0 ≤ (1 : Int) ∧ (1 : Int) < 4) ∧
       ((0 ≤ v3 ∧ v3 < 2147483648) ∧ (0 ≤ (σ 75 (39 + 4 * v5 + (1 : Int))) ∧ (σ 75 (39 + 4 * v5 + (1 : Int))) < 31)) ∧
       ((¬ ((v3).toNat.testBit ((σ 75 (39 + 4 * v5 + (1 : Int)))).toNat = true)) →
        R32 (v5 + 1) ∧ P17 v2 v3 v4 (v5 + 1) σ) ∧
       (((v3).toNat.testBit ((σ 75 (39 + 4 * v5 + (1 : Int)))).toNat = true) →
        (0 ≤ v5 ∧ v5 < 16 ∧ 0 ≤ (0 : Int) ∧ (0 : Int) < 4) ∧
        (0 ≤ v5 ∧ v5 < 16 ∧ 0 ≤ (1 : Int) ∧ (1 : Int) < 4) ∧
        ∀ y38 : Int, y38 = (bOr v3 (bOr (bShl 1 (σ 75 (39 + 4 * v5 + (0 : Int)))) (bShl 1 (σ 75 (39 + 4 * v5 + (1 : Int)))))) →
        R32 (v5 + 1) ∧ P17 v2 y38 v4 (v5 + 1) σ))))) → P17 v2 v3 v4 v5 σ) →
  P7 x2 (bShl 1 x1) 0 σ
theorem mt_X12_comeTo {d : Nat} (hd : 1 ≤ d) {x1 : Int} {x2 : Int} {σ : Mem} {Q : Int → Mem → Prop} (hx1 : R32 x1) (hx2 : R32 x2) (hO : OKm σ) (h : wp_X12_comeTo x1 x2 σ Q) : Mt yX12_comeTo cX12_comeTo 6 (some .int) d [aR (74), aI (x1), aI (x2)] σ (QI Q) := by
  refine Mt.intro (by decide +kernel) (Nat.le_of_ble_eq_true rfl) [(0, aR (74)), (1, aI (x1)), (2, aI (x2))] rfl ?_
  unfold wp_X12_comeTo at h
  have h := h (fun (v2 : Int) (v3 : Int) (v4 : Int) (σ : Mem) => R32 v2 → R32 v3 → R32 v4 → OKm σ → G yX12_comeTo cX12_comeTo 6 (some .int) d (QI Q) 7 [(0, aR (74)), (2, aI (v2)), (3, aI (v3)), (4, aI (v4))] [] σ)
    (fun (v2 : Int) (v3 : Int) (v4 : Int) (v5 : Int) (σ : Mem) => R32 v2 → R32 v3 → R32 v4 → R32 v5 → OKm σ → G yX12_comeTo cX12_comeTo 6 (some .int) d (QI Q) 17 [(0, aR (74)), (2, aI (v2)), (3, aI (v3)), (4, aI (v4)), (5, aI (v5))] [] σ) ?_ ?_
  · refine G_iconst dX12_comeTo_0 ?_
    refine G_iload_n 1 rfl rfl dX12_comeTo_1 ?_
    refine G_ishl dX12_comeTo_2 ?_
    refine G_istore_n (lv' := [(3, aI ((bShl 1 x1))), (0, aR (74)), (1, aI (x1)), (2, aI (x2))]) rfl rfl (by decide) dX12_comeTo_3 ?_
    refine G_iconst dX12_comeTo_4 ?_
    refine G_istore (lv' := [(4, aI (0)), (3, aI ((bShl 1 x1))), (0, aR (74)), (1, aI (x1)), (2, aI (x2))]) rfl (by decide) dX12_comeTo_5 ?_
    exact G_pick [2, 4, 1, 0] rfl (h hx2 (r32_of _) (rL 0 rfl) hO)
  · intro v2 v3 v4 σ h hv2 hv3 hv4 hO
    have h := h hv2 hv3 hv4 hO
    refine G_iload 3 rfl dX12_comeTo_7 ?_
    refine G_bipush (by decide) dX12_comeTo_9 ?_
    refine G_icmp_ge hv4 (rL 8 rfl) dX12_comeTo_11 (tgt := 99) (by decide) (fun c1 => ?_) (fun c1 => ?_)
    · have h := h.1 c1
      refine G_iload_n 2 rfl rfl dX12_comeTo_99 ?_
      exact G_iret rfl hv3 dX12_comeTo_100 ⟨_, rfl, h⟩ hO
    · have h := h.2 c1
      refine G_iconst dX12_comeTo_14 ?_
      refine G_istore (lv' := [(5, aI (0)), (0, aR (74)), (2, aI (v2)), (3, aI (v3)), (4, aI (v4))]) rfl (by decide) dX12_comeTo_15 ?_
      exact G_pick [1, 2, 3, 4, 0] rfl (h hv2 hv3 hv4 (rL 0 rfl) hO)
  · intro v2 v3 v4 v5 σ h hv2 hv3 hv4 hv5 hO
    have h := h hv2 hv3 hv4 hv5 hO
    refine G_iload 4 rfl dX12_comeTo_17 ?_
    refine G_aload_n 0 rfl rfl dX12_comeTo_19 ?_
    refine G_get (k := 0) (kd := (2, 75)) (v := aR 75) gf_X12_7 rfl rfl rfl rfl dX12_comeTo_20 ?_
    refine G_iconst dX12_comeTo_23 ?_
    refine G_iald (n := 2119) rfl (by decide) (by decide) dX12_comeTo_24 ?_
    refine G_icmp_ge hv5 (OKm.i hO 75 0 (isLg_row (show shp 75 = (1, 2119, []) from rfl) _)) dX12_comeTo_25 (tgt := 93) (by decide) (fun c2 => ?_) (fun c2 => ?_)
    · have h := h.1 c2
      refine G_iinc (lv' := [(4, aI ((v4 + 1))), (0, aR (74)), (2, aI (v2)), (3, aI (v3)), (5, aI (v5))]) (k := 3) rfl rfl (by decide) dX12_comeTo_93 ?_
      refine G_goto (tgt := 7) dX12_comeTo_96 (by decide) ?_
      obtain ⟨c3, h⟩ := h
      exact G_pick [1, 2, 3, 0] rfl (h hv2 hv3 c3 hO)
    · have h := h.2 c2
      refine G_iload_n 1 rfl rfl dX12_comeTo_28 ?_
      refine G_iload 4 rfl dX12_comeTo_29 ?_
      obtain ⟨c4, h⟩ := h
      refine G_callS (as := [_, _]) cf_X12_258 rfl (sp_X12_has (d - 1) (by omega) _ hO _ hv2 _ hv5 c4) (by omega) rfl rfl (Nat.le_of_ble_eq_true rfl) dX12_comeTo_31 ?_
      rintro _ _ ⟨_, rfl, rfl, rfl⟩ o6 r5
      refine G_if_eq (bI_R _) dX12_comeTo_34 (tgt := 87) (by decide) (fun c7 => ?_) (fun c7 => ?_)
      · have h := h.1 ((bI_0 _).mp c7)
        refine G_iinc (lv' := [(5, aI ((v5 + 1))), (0, aR (74)), (2, aI (v2)), (3, aI (v3)), (4, aI (v4))]) (k := 4) rfl rfl (by decide) dX12_comeTo_87 ?_
        refine G_goto (tgt := 17) dX12_comeTo_90 (by decide) ?_
        obtain ⟨c8, h⟩ := h
        exact G_pick [1, 2, 3, 4, 0] rfl (h hv2 hv3 hv4 c8 hO)
      · have h := h.2 (bI_ne c7)
        refine G_iload_n 2 rfl rfl dX12_comeTo_37 ?_
        refine G_aload_n 0 rfl rfl dX12_comeTo_38 ?_
        refine G_iload 4 rfl dX12_comeTo_39 ?_
        refine G_iconst dX12_comeTo_41 ?_
        obtain ⟨c9, h⟩ := h
        refine G_callV (as := [_, _]) cf_X12_85 rfl rfl rfl (sp_X12_told (d - 1) (by omega) _ hO _ hv5 _ (rL 0 rfl) c9) (by omega) rfl rfl (Nat.le_of_ble_eq_true rfl) dX12_comeTo_42 ?_
        rintro _ _ ⟨_, rfl, rfl, rfl⟩ o11 r10
        obtain ⟨c12, h⟩ := h
        refine G_callS (as := [_, _]) cf_X12_258 rfl (sp_X12_has (d - 1) (by omega) _ hO _ hv3 _ (r10 _ rfl) c12) (by omega) rfl rfl (Nat.le_of_ble_eq_true rfl) dX12_comeTo_45 ?_
        rintro _ _ ⟨_, rfl, rfl, rfl⟩ o14 r13
        refine G_if_ne (bI_R _) dX12_comeTo_48 (tgt := 65) (by decide) (fun c15 => ?_) (fun c15 => ?_)
        · have h := h.1 (bI_ne c15)
          refine G_iload_n 2 rfl rfl dX12_comeTo_65 ?_
          refine G_iconst dX12_comeTo_66 ?_
          refine G_aload_n 0 rfl rfl dX12_comeTo_67 ?_
          refine G_iload 4 rfl dX12_comeTo_68 ?_
          refine G_iconst dX12_comeTo_70 ?_
          obtain ⟨c16, h⟩ := h
          refine G_callV (as := [_, _]) cf_X12_85 rfl rfl rfl (sp_X12_told (d - 1) (by omega) _ hO _ hv5 _ (rL 0 rfl) c16) (by omega) rfl rfl (Nat.le_of_ble_eq_true rfl) dX12_comeTo_71 ?_
          rintro _ _ ⟨_, rfl, rfl, rfl⟩ o18 r17
          refine G_ishl dX12_comeTo_74 ?_
          refine G_iconst dX12_comeTo_75 ?_
          refine G_aload_n 0 rfl rfl dX12_comeTo_76 ?_
          refine G_iload 4 rfl dX12_comeTo_77 ?_
          refine G_iconst dX12_comeTo_79 ?_
          obtain ⟨c19, h⟩ := h
          refine G_callV (as := [_, _]) cf_X12_85 rfl rfl rfl (sp_X12_told (d - 1) (by omega) _ hO _ hv5 _ (rL 1 rfl) c19) (by omega) rfl rfl (Nat.le_of_ble_eq_true rfl) dX12_comeTo_80 ?_
          rintro _ _ ⟨_, rfl, rfl, rfl⟩ o21 r20
          refine G_ishl dX12_comeTo_83 ?_
          refine G_ior dX12_comeTo_84 ?_
          refine G_ior dX12_comeTo_85 ?_
          have h := h _ rfl
          refine G_istore_n (lv' := [(3, aI (((bOr v3 (bOr (bShl 1 (σ 75 (39 + 4 * v5 + (0 : Int)))) (bShl 1 (σ 75 (39 + 4 * v5 + (1 : Int))))))))), (0, aR (74)), (2, aI (v2)), (4, aI (v4)), (5, aI (v5))]) rfl rfl (by decide) dX12_comeTo_86 ?_
          refine G_iinc (lv' := [(5, aI ((v5 + 1))), (3, aI (((bOr v3 (bOr (bShl 1 (σ 75 (39 + 4 * v5 + (0 : Int)))) (bShl 1 (σ 75 (39 + 4 * v5 + (1 : Int))))))))), (0, aR (74)), (2, aI (v2)), (4, aI (v4))]) (k := 4) rfl rfl (by decide) dX12_comeTo_87 ?_
          refine G_goto (tgt := 17) dX12_comeTo_90 (by decide) ?_
          obtain ⟨c23, h⟩ := h
          exact G_pick [2, 3, 1, 4, 0] rfl (h hv2 (r32_of _) hv4 c23 hO)
        · have h := h.2 ((bI_0 _).mp c15)
          refine G_iload_n 2 rfl rfl dX12_comeTo_51 ?_
          refine G_aload_n 0 rfl rfl dX12_comeTo_52 ?_
          refine G_iload 4 rfl dX12_comeTo_53 ?_
          refine G_iconst dX12_comeTo_55 ?_
          obtain ⟨c24, h⟩ := h
          refine G_callV (as := [_, _]) cf_X12_85 rfl rfl rfl (sp_X12_told (d - 1) (by omega) _ hO _ hv5 _ (rL 1 rfl) c24) (by omega) rfl rfl (Nat.le_of_ble_eq_true rfl) dX12_comeTo_56 ?_
          rintro _ _ ⟨_, rfl, rfl, rfl⟩ o26 r25
          obtain ⟨c27, h⟩ := h
          refine G_callS (as := [_, _]) cf_X12_258 rfl (sp_X12_has (d - 1) (by omega) _ hO _ hv3 _ (r25 _ rfl) c27) (by omega) rfl rfl (Nat.le_of_ble_eq_true rfl) dX12_comeTo_59 ?_
          rintro _ _ ⟨_, rfl, rfl, rfl⟩ o29 r28
          refine G_if_eq (bI_R _) dX12_comeTo_62 (tgt := 87) (by decide) (fun c30 => ?_) (fun c30 => ?_)
          · have h := h.1 ((bI_0 _).mp c30)
            refine G_iinc (lv' := [(5, aI ((v5 + 1))), (0, aR (74)), (2, aI (v2)), (3, aI (v3)), (4, aI (v4))]) (k := 4) rfl rfl (by decide) dX12_comeTo_87 ?_
            refine G_goto (tgt := 17) dX12_comeTo_90 (by decide) ?_
            obtain ⟨c31, h⟩ := h
            exact G_pick [1, 2, 3, 4, 0] rfl (h hv2 hv3 hv4 c31 hO)
          · have h := h.2 (bI_ne c30)
            refine G_iload_n 2 rfl rfl dX12_comeTo_65 ?_
            refine G_iconst dX12_comeTo_66 ?_
            refine G_aload_n 0 rfl rfl dX12_comeTo_67 ?_
            refine G_iload 4 rfl dX12_comeTo_68 ?_
            refine G_iconst dX12_comeTo_70 ?_
            obtain ⟨c32, h⟩ := h
            refine G_callV (as := [_, _]) cf_X12_85 rfl rfl rfl (sp_X12_told (d - 1) (by omega) _ hO _ hv5 _ (rL 0 rfl) c32) (by omega) rfl rfl (Nat.le_of_ble_eq_true rfl) dX12_comeTo_71 ?_
            rintro _ _ ⟨_, rfl, rfl, rfl⟩ o34 r33
            refine G_ishl dX12_comeTo_74 ?_
            refine G_iconst dX12_comeTo_75 ?_
            refine G_aload_n 0 rfl rfl dX12_comeTo_76 ?_
            refine G_iload 4 rfl dX12_comeTo_77 ?_
            refine G_iconst dX12_comeTo_79 ?_
            obtain ⟨c35, h⟩ := h
            refine G_callV (as := [_, _]) cf_X12_85 rfl rfl rfl (sp_X12_told (d - 1) (by omega) _ hO _ hv5 _ (rL 1 rfl) c35) (by omega) rfl rfl (Nat.le_of_ble_eq_true rfl) dX12_comeTo_80 ?_
            rintro _ _ ⟨_, rfl, rfl, rfl⟩ o37 r36
            refine G_ishl dX12_comeTo_83 ?_
            refine G_ior dX12_comeTo_84 ?_
            refine G_ior dX12_comeTo_85 ?_
            have h := h _ rfl
            refine G_istore_n (lv' := [(3, aI (((bOr v3 (bOr (bShl 1 (σ 75 (39 + 4 * v5 + (0 : Int)))) (bShl 1 (σ 75 (39 + 4 * v5 + (1 : Int))))))))), (0, aR (74)), (2, aI (v2)), (4, aI (v4)), (5, aI (v5))]) rfl rfl (by decide) dX12_comeTo_86 ?_
            refine G_iinc (lv' := [(5, aI ((v5 + 1))), (3, aI (((bOr v3 (bOr (bShl 1 (σ 75 (39 + 4 * v5 + (0 : Int)))) (bShl 1 (σ 75 (39 + 4 * v5 + (1 : Int))))))))), (0, aR (74)), (2, aI (v2)), (4, aI (v4))]) (k := 4) rfl rfl (by decide) dX12_comeTo_87 ?_
            refine G_goto (tgt := 17) dX12_comeTo_90 (by decide) ?_
            obtain ⟨c39, h⟩ := h
            exact G_pick [2, 3, 1, 4, 0] rfl (h hv2 (r32_of _) hv4 c39 hO)

theorem sp_X12_comeTo (d : Nat) (hd : 1 ≤ d) (σ : Mem) (hO : OKm σ) (x1 : Int) (hx1 : R32 x1) (x2 : Int) (hx2 : R32 x2) (A : Mem) (tx : Nat → Txt) (hpre : vwM σ A tx ∧ (0 ≤ x1 ∧ x1 ≤ 7) ∧ (0 ≤ x2 ∧ x2 < 65536)) : Mt yX12_comeTo cX12_comeTo 6 (some .int) d [aR (74), aI (x1), aI (x2)] σ (QI (fun v σ' => v = comeS A (tbt x2) x1 ∧ σ' = σ)) := mt_X12_comeTo hd hx1 hx2 hO (by
  unfold wp_X12_comeTo
  intro P7 P17 h7 h17
  obtain ⟨hV, hx1, hx2⟩ := hpre
  have hI := hV.2.2.1
  have hc := hI.1
  have e0 : σ 75 0 = A 10 0 := hV.1.1.1
  have rep : ∀ (s : Int) (f : Int → Bool), Prop := fun s f => (0 ≤ s ∧ s < 256) ∧ ∀ t : Int, 0 ≤ t → t ≤ 7 → tbt s t = f t
  have H17 : ∀ (j : Nat), j < 8 → (∀ s : Int, (0 ≤ s ∧ s < 256) → (∀ t : Int, 0 ≤ t → t ≤ 7 → tbt s t = cmS A (tbt x2) x1 (j + 1) t) → R32 ((j : Int) + 1) ∧ P7 x2 s ((j : Int) + 1) σ) → ∀ (n k : Nat) (s : Int), k + n = (A 10 0).toNat → (0 ≤ s ∧ s < 256) → (∀ t : Int, 0 ≤ t → t ≤ 7 → tbt s t = cmR A (tbt x2) (cmS A (tbt x2) x1 j) k t) → P17 x2 s (j : Int) (k : Int) σ := by
    intro j hj hnext n
    induction n with
    | zero =>
      intro k s hk hs ht
      have hk2 : k = (A 10 0).toNat := by omega
      subst hk2
      exact h17 _ _ _ _ _ (fun _ _ _ _ _ => ⟨fun _ => hnext s hs ht, fun h => absurd h (by omega)⟩)
    | succ n ih =>
      intro k s hk hs ht
      have t1 := hV.1.2.1 (k : Int) (by omega) (by omega)
      have s0 : σ 75 (39 + 4 * (k : Int) + 0) = A 11 (k : Int) := by rw [Int.add_zero]; exact t1.1
      have s1 : σ 75 (39 + 4 * (k : Int) + 1) = A 12 (k : Int) := t1.2.1
      have hl := hI.2.1 (k : Int) (by omega) (by omega)
      generalize hf : cmR A (tbt x2) (cmS A (tbt x2) x1 j) k = f at *
      have hsucc : cmR A (tbt x2) (cmS A (tbt x2) x1 j) (k + 1) = if (tbt x2 (k : Int) && (f (A 11 (k : Int)) || f (A 12 (k : Int)))) = true then (fun t => f t || (decide (t = A 11 (k : Int)) || decide (t = A 12 (k : Int)))) else f := by
        show (if _ then _ else _) = _; rw [hf]
      have f1 := ht (A 11 (k : Int)) (by omega) (by omega)
      have f2 := ht (A 12 (k : Int)) (by omega) (by omega)
      have no : (tbt x2 (k : Int) && (f (A 11 (k : Int)) || f (A 12 (k : Int)))) = false → R32 ((k : Int) + 1) ∧ P17 x2 s (j : Int) ((k : Int) + 1) σ := fun h =>
        ⟨by unfold R32; omega, ih (k + 1) s (by omega) hs (by rw [hsucc, h]; exact ht)⟩
      have yes : (tbt x2 (k : Int) && (f (A 11 (k : Int)) || f (A 12 (k : Int)))) = true → ∀ y : Int, y = bOr s (bOr (bShl 1 (A 11 (k : Int))) (bShl 1 (A 12 (k : Int)))) → R32 ((k : Int) + 1) ∧ P17 x2 y (j : Int) ((k : Int) + 1) σ := fun h y hy => by
        refine ⟨by unfold R32; omega, ?_⟩
        obtain ⟨a4, htb⟩ := add2 (x := A 11 (k : Int)) (y := A 12 (k : Int)) hs (by omega) (by omega)
        rw [hy]
        refine ih (k + 1) _ (by omega) a4 (fun t h0 h7 => ?_)
        rw [hsucc, if_pos h, htb t h0, ht t h0 h7]
      refine h17 _ _ _ _ _ (fun _ _ _ _ _ => ⟨fun h => absurd h (by omega), fun _ => ?_⟩)
      rw [s0, s1]
      have u1 : s.toNat.testBit (A 11 (k : Int)).toNat = f (A 11 (k : Int)) := f1
      have u2 : s.toNat.testBit (A 12 (k : Int)).toNat = f (A 12 (k : Int)) := f2
      have u3 : x2.toNat.testBit ((k : Nat) : Int).toNat = tbt x2 (k : Int) := rfl
      rw [u1, u2, u3]
      refine ⟨by omega, fun h => no (by rw [Bool.not_eq_true] at h; rw [h]; rfl), fun h => ⟨by omega, by omega, fun h2 => ⟨by omega, by omega, yes (by rw [h, h2]; rfl)⟩, fun h2 => ⟨by omega, by omega, fun h3 => no (by rw [Bool.not_eq_true] at h2 h3; rw [h2, h3]; simp), fun h3 => ⟨by omega, by omega, yes (by rw [h, h3]; simp)⟩⟩⟩⟩
  have H7 : ∀ (n j : Nat) (s : Int), j + n = 8 → (0 ≤ s ∧ s < 256) → (∀ t : Int, 0 ≤ t → t ≤ 7 → tbt s t = cmS A (tbt x2) x1 j t) → P7 x2 s (j : Int) σ := by
    intro n
    induction n with
    | zero =>
      intro j s hj hs ht
      have hj2 : j = 8 := by omega
      subst hj2
      refine h7 _ _ _ _ (fun _ _ _ _ => ⟨fun _ => ⟨?_, rfl⟩, fun h => absurd h (by omega)⟩)
      refine set8 hs (fun t h0 h8 => ?_)
      rw [ht t h0 h8, cmS_8 hI hx1, show ((t.toNat : Nat) : Int) = t by omega]
    | succ n ih =>
      intro j s hj hs ht
      refine h7 _ _ _ _ (fun _ _ _ _ => ⟨fun h => absurd h (by omega), fun _ => ?_⟩)
      exact H17 j (by omega) (fun s2 hs2 ht2 => ⟨by unfold R32; omega, ih (j + 1) s2 (by omega) hs2 ht2⟩) _ 0 s (Nat.zero_add _) hs ht
  have hb := tb_shl (k := x1) (t := 0) (by omega) (by omega)
  have h256 : bShl 1 x1 < 256 := by
    rw [bShl1 hx1.1 (by omega)]
    have := pow_le' (show x1.toNat ≤ 7 by omega)
    have e : (2 : Int) ^ 7 = 128 := by decide
    omega
  exact H7 8 0 (bShl 1 x1) (by omega) ⟨hb.1.1, h256⟩ (fun t h0 h7 => (tb_shl (by omega) h0).2))
