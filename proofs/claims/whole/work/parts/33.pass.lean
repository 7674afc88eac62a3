/-! A DAY, over the abstract state. -/
theorem opN_bit (A : Mem) (tx : Nat → Txt) (g : Int) : ∀ (n r : Nat), (opN A tx g n).toNat.testBit r = true → r < n ∧ canGo A tx g (r : Int) = true
  | 0, r, h => by simp [opN] at h
  | n + 1, r, h => by
    have hr := opN_r A tx g n
    have hp := pow_pos' n
    have e2 : ((2 : Int) ^ n) = ((2 ^ n : Nat) : Int) := by push_cast; rfl
    have hlt : (opN A tx g n).toNat < 2 ^ n := by omega
    unfold opN at h
    by_cases hc : canGo A tx g (n : Int) = true
    · rw [if_pos hc] at h
      have e : (opN A tx g n + 2 ^ n).toNat = 2 ^ n * 1 + (opN A tx g n).toNat := by omega
      rw [e, Nat.testBit_two_pow_mul_add _ hlt] at h
      split at h
      · have := opN_bit A tx g n r h; exact ⟨by omega, this.2⟩
      · rename_i hrn
        have : r - n = 0 := by
          cases hi : r - n with
          | zero => rfl
          | succ i => rw [hi, Nat.testBit_succ] at h; simp at h
        have : r = n := by omega
        subst this
        exact ⟨by omega, hc⟩
    · rw [if_neg hc, Int.add_zero] at h
      have := opN_bit A tx g n r h; exact ⟨by omega, this.2⟩
theorem nmA_x {A : Mem} {v k g r : Int} : nmA (mset A 0 3 v) k g r = nmA A k g r := by
  unfold nmA; simp (disch := omega) only [mset_off, mset_miss]
theorem envA_x {A : Mem} {v g r : Int} : envA (mset A 0 3 v) g r = envA A g r := by
  unfold envA
  refine Prod.ext ?_ ?_
  · funext k; exact nmA_x
  · show thk0 (mset A 0 3 v 10 0) (mset A 0 3 v 1) = thk0 (A 10 0) (A 1)
    rw [mset_ne (by omega), mset_ne (by omega)]
theorem skS_x {A : Mem} {tx : Nat → Txt} {v t g r : Int} : skS (mset A 0 3 v) tx t g r = skS A tx t g r := by
  unfold skS; rw [envA_x, mset_ne (show (15 : Nat) ≠ 0 by omega)]
theorem canGo_x {A : Mem} {tx : Nat → Txt} {v g r : Int} : canGo (mset A 0 3 v) tx g r = canGo A tx g r := by
  unfold canGo; rw [skS_x]; simp (disch := omega) only [mset_off]
/-- the road that is drawn -/
def kthR (A : Mem) (tx : Nat → Txt) (g : Int) : Int := ((kthN (opS A tx g).toNat (A 0 3 % ((pcN 16 (opS A tx g).toNat : Nat) : Int)).toNat : Nat) : Int)
def gstep (A : Mem) (tx : Nat → Txt) (g : Int) : Mem := if opS A tx g = 0 then A else goneS (mset A 0 3 (nxt (A 0 3))) tx g (kthR A tx g)
def gcnt (A : Mem) (tx : Nat → Txt) (g : Int) : Int := if opS A tx g = 0 then 0 else 1
def goersN (A : Mem) (tx : Nat → Txt) : Nat → Mem × Int
  | 0 => (A, 0)
  | n + 1 => (gstep (goersN A tx n).1 tx (n : Int), (goersN A tx n).2 + gcnt (goersN A tx n).1 tx (n : Int))
def swN (A : Mem) (tx : Nat → Txt) : Nat → Mem
  | 0 => A
  | n + 1 => mset (swN A tx n) 1 (n : Int) (min (swN A tx n 14 (n : Int)) (swN A tx n 1 (n : Int) + swS (swN A tx n) tx (n : Int)))
def rainS (A : Mem) : Mem := mset (mset A 0 3 (nxt (A 0 3))) 0 1 (if A 0 3 % 10 < 3 then 1 else 0)
def passS (A : Mem) (tx : Nat → Txt) : Mem × Int :=
  (mset (swN (goersN (rainS A) tx (A 10 1).toNat).1 tx (A 10 0).toNat) 0 2 (A 0 2 + 1), (goersN (rainS A) tx (A 10 1).toNat).2)
theorem opS_lt {A : Mem} {tx : Nat → Txt} {g : Int} (h : InvA A) : 0 ≤ opS A tx g ∧ opS A tx g < 65536 := by
  have h1 := opN_r A tx g (A 10 0).toNat
  have h2 := pow_le' (show (A 10 0).toNat ≤ 16 by have := h.1; omega)
  unfold opS
  have : (2 : Int) ^ 16 = 65536 := by decide
  omega
theorem pc_pos {n : Nat} (h : n < 65536) (h0 : n ≠ 0) : 0 < pcN 16 n := by have := clr_pc h h0; omega
theorem kthR_ok {A : Mem} {tx : Nat → Txt} {g : Int} (h : InvA A) (hne : opS A tx g ≠ 0) : (0 ≤ A 0 3 % ((pcN 16 (opS A tx g).toNat : Nat) : Int) ∧ A 0 3 % ((pcN 16 (opS A tx g).toNat : Nat) : Int) < ((pcN 16 (opS A tx g).toNat : Nat) : Int)) ∧ (0 ≤ kthR A tx g ∧ kthR A tx g < A 10 0) ∧ canGo A tx g (kthR A tx g) = true := by
  have hl := opS_lt (tx := tx) (g := g) h
  have hp := pc_pos (n := (opS A tx g).toNat) (by omega) (by omega)
  have hm : 0 ≤ A 0 3 % ((pcN 16 (opS A tx g).toNat : Nat) : Int) ∧ A 0 3 % ((pcN 16 (opS A tx g).toNat : Nat) : Int) < ((pcN 16 (opS A tx g).toNat : Nat) : Int) := mod_r (by omega)
  have hb := (kthN_bit (s := (opS A tx g).toNat) (k := (A 0 3 % ((pcN 16 (opS A tx g).toNat : Nat) : Int)).toNat) (by omega) (by omega)).1
  have := opN_bit A tx g (A 10 0).toNat _ hb
  exact ⟨hm, ⟨by unfold kthR; omega, by unfold kthR; omega⟩, this.2⟩
theorem InvA_gstep {A : Mem} {tx : Nat → Txt} {g : Int} (h : InvA A) (hg : 0 ≤ g ∧ g < A 10 1) : InvA (gstep A tx g) := by
  unfold gstep
  split
  · exact h
  · rename_i hne
    obtain ⟨-, k2, k3⟩ := kthR_ok h hne
    have hx : InvA (mset A 0 3 (nxt (A 0 3))) := h.core (by omega) ⟨fun h => by omega, fun h => by omega, fun h => by omega, fun _ => nxt_r _⟩
    refine hx.gone ?_ ?_ (by rw [canGo_x]; exact k3)
    · rw [mset_ne (by omega)]; exact hg
    · rw [mset_ne (by omega)]; exact k2
theorem gstep_told {A : Mem} {tx : Nat → Txt} {g : Int} {q : Nat} (h : 8 ≤ q) : gstep A tx g q = A q := by
  unfold gstep goneS
  split
  · rfl
  · rw [walkS_told h, mset_ne (by omega)]
theorem goersN_ok {A : Mem} {tx : Nat → Txt} (h : InvA A) : ∀ n : Nat, (n : Int) ≤ A 10 1 → InvA (goersN A tx n).1 ∧ (∀ q, 8 ≤ q → (goersN A tx n).1 q = A q) ∧ 0 ≤ (goersN A tx n).2 ∧ (goersN A tx n).2 ≤ n
  | 0, _ => ⟨h, fun _ _ => rfl, by simp [goersN], by simp [goersN]⟩
  | n + 1, hn => by
    obtain ⟨i1, i2, i3, i4⟩ := goersN_ok h n (by omega)
    refine ⟨InvA_gstep i1 ⟨by omega, by rw [i2 10 (by omega)]; omega⟩, fun q hq => by show gstep _ tx _ q = A q; rw [gstep_told hq]; exact i2 q hq, ?_, ?_⟩
    · show 0 ≤ (goersN A tx n).2 + gcnt (goersN A tx n).1 tx (n : Int)
      unfold gcnt; split <;> omega
    · show (goersN A tx n).2 + gcnt (goersN A tx n).1 tx (n : Int) ≤ _
      unfold gcnt; split <;> omega
theorem swN_ok {A : Mem} {tx : Nat → Txt} (h : InvA A) : ∀ n : Nat, (n : Int) ≤ A 10 0 → InvA (swN A tx n) ∧ ∀ q, q ≠ 1 → swN A tx n q = A q
  | 0, _ => ⟨h, fun _ _ => rfl⟩
  | n + 1, hn => by
    obtain ⟨i1, i2⟩ := swN_ok h n (by omega)
    refine ⟨i1.thick (fun h1 h2 => ?_), fun q hq => by show mset _ 1 _ _ q = A q; rw [mset_ne hq]; exact i2 q hq⟩
    have := i1.2.1 (n : Int) h1 h2
    have := swS_r (tx := tx) (r := (n : Int)) i1
    omega

abbrev PDC : List Nat := [10, 11, 12, 13, 14, 37]
theorem frPD {σ σ' : Mem} (h : Fr PDC σ σ') (q : Nat) (hq : q < 10 ∨ q = 15 ∨ q = 16 ∨ 38 ≤ q) : σ' q = σ q := h q (by simp only [PDC, List.mem_cons, List.not_mem_nil, or_false, not_or]; omega)
theorem vwC.core {σ : Mem} {A : Mem} {tx : Nat → Txt} {i j v : Int} (h : vwC σ A tx) (hij : (i = 5 ∧ j = 0) ∨ (i = 6 ∧ j = 1) ∨ (i = 7 ∧ j = 2) ∨ (i = 8 ∧ j = 3)) (hI : InvA (mset A 0 j v)) : vwC (mset σ 10 i v) (mset A 0 j v) tx :=
  h.now (h.2.1.core hij) hI (fun q hq => mset_ne (by omega)) (fun q hq => mset_ne (by omega))
theorem nowC.thick {σ : Mem} {A : Mem} {r v : Int} (h : nowC σ A) : nowC (mset σ 11 r v) (mset A 1 r v) := by
  obtain ⟨m0, m1, m2, m3⟩ := h
  refine ⟨?_, fun q h1 h2 => ?_, fun g h1 h2 => ?_, fun q h1 h2 => ?_⟩
  · simp (disch := omega) only [mset_off]; exact m0
  · simp (disch := omega) only [mset_off] at h2
    by_cases e : q = r
    · subst e; simp (disch := omega) only [mset_hit]
    · simp (disch := omega) only [mset_miss]; exact m1 q h1 h2
  · simp (disch := omega) only [mset_off] at h2 ⊢; exact m2 g h1 h2
  · unfold bkC at *
    simp (disch := omega) only [mset_off] at h2 ⊢; exact m3 q h1 h2
theorem gstep_day {A : Mem} {tx : Nat → Txt} {g : Int} : gstep A tx g 0 2 = A 0 2 := by
  unfold gstep goneS walkS
  split
  · rfl
  · simp (disch := omega) only [mset_off, bkS_0, mset_miss]
theorem goersN_day {A : Mem} {tx : Nat → Txt} : ∀ n : Nat, (goersN A tx n).1 0 2 = A 0 2
  | 0 => rfl
  | n + 1 => by show gstep _ tx _ 0 2 = _; rw [gstep_day]; exact goersN_day n
theorem rainS_ok {A : Mem} (h : InvA A) : InvA (rainS A) := by
  unfold rainS
  refine (h.core (k := 3) (by omega) ⟨fun h => by omega, fun h => by omega, fun h => by omega, fun _ => nxt_r _⟩).core (by omega) ⟨fun h => by omega, fun _ => ?_, fun h => by omega, fun h => by omega⟩
  split <;> omega

def wp_X0_passDay  (σ : Mem) (Q : Int → Mem → Prop) : Prop :=
 ∀ P29 : Int → Int → Mem → Prop,
 ∀ P127 : Int → Int → Mem → Prop,
 (∀ (v1 : Int) (v2 : Int) (σ : Mem), (R32 v1 → R32 v2 → OKm σ →
   (((σ 1 9) ≤ v2) →
     P127 v1 0 σ) ∧
    ((v2 < (σ 1 9)) →
     ∃ g16 : Mem, ∃ g17 : Nat → Txt, (vwC σ g16 g17 ∧ (0 ≤ v2 ∧ v2 < g16 10 1)) ∧
     ∀ (u22 : Int) (σ21 : Mem), R32 u22 → OKm σ21 → (u22 = opS g16 g17 v2 ∧ Fr [37] σ σ21) →
     ((u22 = 0) →
      R32 (v2 + 1) ∧ P29 v1 (v2 + 1) σ21) ∧
     ((u22 ≠ 0) →
      (0 ≤ u22 ∧ u22 < 65536) ∧
      (0 ≤ σ21 10 8 ∧ σ21 10 8 ≤ 30726) ∧
      ∀ (u33 : Int) (σ32 : Mem), u33 = (if 0 < (((pcN 16 (u22).toNat : Nat) : Int)) then σ21 10 8 % (((pcN 16 (u22).toNat : Nat) : Int)) else 0) → σ32 = (mset σ21 10 8 (nxt (σ21 10 8))) →
      ((0 ≤ u22 ∧ u22 < 65536) ∧ (0 ≤ u33 ∧ u33 < ((pcN 16 (u22).toNat : Nat) : Int))) ∧
      ∀ y39 : Int, y39 = (((kthN (u22).toNat (u33).toNat : Nat) : Int)) →
      ∃ g40 : Mem, ∃ g41 : Nat → Txt, (vwC σ32 g40 g41 ∧ (-1 ≤ (σ32 1 12) ∧ (σ32 1 12) < g40 10 2) ∧ (0 ≤ v2 ∧ v2 < g40 10 1) ∧ (0 ≤ y39 ∧ y39 < g40 10 0)) ∧
      ∀ (u46 : Int) (σ45 : Mem), R32 u46 → OKm σ45 → (u46 = skS g40 g41 (σ32 1 12) v2 y39 ∧ Fr [37] σ32 σ45) →
      (0 ≤ v2 ∧ v2 < 6) ∧
      (0 ≤ y39 ∧ y39 < 16) ∧
      ∃ g52 : Mem, (nowC σ45 g52 ∧ Cnt g52 ∧ (0 ≤ v2 ∧ v2 < g52 10 1) ∧ (0 ≤ y39 ∧ y39 < g52 10 0) ∧ (0 ≤ u46 ∧ u46 ≤ 99) ∧ (0 ≤ g52 0 2 ∧ g52 0 2 ≤ 9999) ∧ (0 ≤ g52 1 y39 ∧ g52 1 y39 ≤ 99) ∧ (0 ≤ g52 3 v2 ∧ g52 3 v2 ≤ 9999)) ∧
      ∀ σ56 : Mem, OKm σ56 → (nowC σ56 (walkS g52 v2 y39 (if σ45 2 y39 = (σ45 12 v2) then σ45 3 y39 else σ45 2 y39) u46) ∧ Fr [10, 11, 12, 13, 14] σ45 σ56) →
      R32 (v1 + 1) ∧ R32 (v2 + 1) ∧ P29 (v1 + 1) (v2 + 1) σ56))) → P29 v1 v2 σ) →
 (∀ (v1 : Int) (v2 : Int) (σ : Mem), (R32 v1 → R32 v2 → OKm σ →
   (((σ 1 8) ≤ v2) →
     R32 ((σ 10 7) + 1) ∧
     ∀ σ62 : Mem, σ62 = mset σ 10 7 ((σ 10 7) + 1) →
     Q v1 σ62) ∧
    ((v2 < (σ 1 8)) →
     (0 ≤ v2 ∧ v2 < 16) ∧
     (0 ≤ v2 ∧ v2 < 16) ∧
     ∃ g68 : Mem, ∃ g69 : Nat → Txt, (vwC σ g68 g69 ∧ (0 ≤ v2 ∧ v2 < g68 10 0)) ∧
     ∀ (u74 : Int) (σ73 : Mem), R32 u74 → OKm σ73 → (u74 = swS g68 g69 v2 ∧ Fr [37] σ σ73) →
     R32 ((σ 11 v2) + u74) ∧
     (0 ≤ v2 ∧ v2 < 16) ∧
     ∀ σ78 : Mem, σ78 = mset σ73 11 v2 (min (σ 5 v2) ((σ 11 v2) + u74)) →
     R32 (v2 + 1) ∧ P127 v1 (v2 + 1) σ78)) → P127 v1 v2 σ) →
  (0 ≤ σ 10 8 ∧ σ 10 8 ≤ 30726) ∧
   ∀ (u5 : Int) (σ4 : Mem), u5 = (if 0 < (10 : Int) then σ 10 8 % (10 : Int) else 0) → σ4 = (mset σ 10 8 (nxt (σ 10 8))) →
   ((3 ≤ u5) →
    ∀ σ9 : Mem, σ9 = mset σ4 10 6 0 →
    P29 0 0 σ9) ∧
   ((u5 < 3) →
    ∀ σ12 : Mem, σ12 = mset σ4 10 6 1 →
    P29 0 0 σ12)
theorem mt_X0_passDay {d : Nat} (hd : 5 ≤ d)  {σ : Mem} {Q : Int → Mem → Prop}  (hO : OKm σ) (h : wp_X0_passDay  σ Q) : Mt yX0_passDay cX0_passDay 6 (some .int) d [aR (38)] σ (QI Q) := by
  refine Mt.intro (by decide +kernel) (Nat.le_of_ble_eq_true rfl) [(0, aR (38))] rfl ?_
  unfold wp_X0_passDay at h
  have h := h (fun (v1 : Int) (v2 : Int) (σ : Mem) => R32 v1 → R32 v2 → OKm σ → G yX0_passDay cX0_passDay 6 (some .int) d (QI Q) 29 [(0, aR (38)), (1, aI (v1)), (2, aI (v2))] [] σ)
    (fun (v1 : Int) (v2 : Int) (σ : Mem) => R32 v1 → R32 v2 → OKm σ → G yX0_passDay cX0_passDay 6 (some .int) d (QI Q) 127 [(0, aR (38)), (1, aI (v1)), (2, aI (v2))] [] σ) ?_ ?_
  · refine G_aload_n 0 rfl rfl dX0_passDay_0 ?_
    refine G_get (k := 1) (kd := (2, 10)) (v := aR 10) gf_X0_21 rfl rfl rfl rfl dX0_passDay_1 ?_
    refine G_aload_n 0 rfl rfl dX0_passDay_4 ?_
    refine G_get (k := 1) (kd := (2, 10)) (v := aR 10) gf_X0_21 rfl rfl rfl rfl dX0_passDay_5 ?_
    refine G_bipush (by decide) dX0_passDay_8 ?_
    obtain ⟨c1, h⟩ := h
    refine G_callV (as := [_]) cf_X0_113 rfl rfl rfl (sp_X6_draw (d - 1) (by omega) _ hO _ (rL 10 rfl) c1) (by omega) rfl rfl (Nat.le_of_ble_eq_true rfl) dX0_passDay_10 ?_
    rintro _ σ4 ⟨u5, rfl, e7, e6⟩ o3 r2
    have h := h u5 σ4 e7 e6
    refine G_iconst dX0_passDay_13 ?_
    refine G_icmp_ge (r2 _ rfl) (rL 3 rfl) dX0_passDay_14 (tgt := 21) (by decide) (fun c8 => ?_) (fun c8 => ?_)
    · have h := h.1 c8
      refine G_iconst dX0_passDay_21 ?_
      obtain ⟨σ9, e11⟩ : ∃ τ : Mem, τ = mset σ4 10 6 0 := ⟨_, rfl⟩
      have h := h σ9 e11
      have o10 : OKm σ9 := by rw [e11]; exact OKm.seti o3 _ _ _ (rL 0 rfl) rfl
      refine G_put (k := 6) (ki := 6) (kd := (0, 0)) (x := _) pf_X0_117 rfl rfl rfl rfl (fa_i (mset_self _ _ _ _)) (fun _ => rfl) (fun _ => rfl) dX0_passDay_22 ?_
      rw [← e11]
      refine G_iconst dX0_passDay_25 ?_
      refine G_istore_n (lv' := [(1, aI (0)), (0, aR (38))]) rfl rfl (by decide) dX0_passDay_26 ?_
      refine G_iconst dX0_passDay_27 ?_
      refine G_istore_n (lv' := [(2, aI (0)), (1, aI (0)), (0, aR (38))]) rfl rfl (by decide) dX0_passDay_28 ?_
      exact G_pick [2, 1, 0] rfl (h (rL 0 rfl) (rL 0 rfl) o10)
    · have h := h.2 c8
      refine G_iconst dX0_passDay_17 ?_
      refine G_goto (tgt := 22) dX0_passDay_18 (by decide) ?_
      obtain ⟨σ12, e14⟩ : ∃ τ : Mem, τ = mset σ4 10 6 1 := ⟨_, rfl⟩
      have h := h σ12 e14
      have o13 : OKm σ12 := by rw [e14]; exact OKm.seti o3 _ _ _ (rL 1 rfl) rfl
      refine G_put (k := 6) (ki := 6) (kd := (0, 0)) (x := _) pf_X0_117 rfl rfl rfl rfl (fa_i (mset_self _ _ _ _)) (fun _ => rfl) (fun _ => rfl) dX0_passDay_22 ?_
      rw [← e14]
      refine G_iconst dX0_passDay_25 ?_
      refine G_istore_n (lv' := [(1, aI (0)), (0, aR (38))]) rfl rfl (by decide) dX0_passDay_26 ?_
      refine G_iconst dX0_passDay_27 ?_
      refine G_istore_n (lv' := [(2, aI (0)), (1, aI (0)), (0, aR (38))]) rfl rfl (by decide) dX0_passDay_28 ?_
      exact G_pick [2, 1, 0] rfl (h (rL 0 rfl) (rL 0 rfl) o13)
  · intro v1 v2 σ h hv1 hv2 hO
    have h := h hv1 hv2 hO
    refine G_iload_n 2 rfl rfl dX0_passDay_29 ?_
    refine G_aload_n 0 rfl rfl dX0_passDay_30 ?_
    refine G_get (k := 0) (kd := (2, 1)) (v := aR 1) gf_X0_17 rfl rfl rfl rfl dX0_passDay_31 ?_
    refine G_get (k := 9) (kd := (0, 0)) (v := aI (σ 1 9)) gf_X0_54 rfl rfl rfl rfl dX0_passDay_34 ?_
    refine G_icmp_ge hv2 (OKm.i hO 1 9 rfl) dX0_passDay_37 (tgt := 125) (by decide) (fun c15 => ?_) (fun c15 => ?_)
    · have h := h.1 c15
      refine G_iconst dX0_passDay_125 ?_
      refine G_istore_n (lv' := [(2, aI (0)), (0, aR (38)), (1, aI (v1))]) rfl rfl (by decide) dX0_passDay_126 ?_
      exact G_pick [1, 2, 0] rfl (h hv1 (rL 0 rfl) hO)
    · have h := h.2 c15
      refine G_aload_n 0 rfl rfl dX0_passDay_40 ?_
      refine G_iload_n 2 rfl rfl dX0_passDay_41 ?_
      obtain ⟨g16, g17, c18, h⟩ := h
      refine G_callV (as := [_]) cf_X0_120 rfl rfl rfl (sp_X0_openRoads (d - 1) (by omega) _ hO _ hv2 g16 g17 c18) (by omega) rfl rfl (Nat.le_of_ble_eq_true rfl) dX0_passDay_42 ?_
      rintro _ σ21 ⟨u22, rfl, z23⟩ o20 r19
      have h := h _ _ (r19 _ rfl) o20 z23
      refine G_istore_n (lv' := [(3, aI (u22)), (0, aR (38)), (1, aI (v1)), (2, aI (v2))]) rfl rfl (by decide) dX0_passDay_45 ?_
      refine G_iload_n 0 rfl rfl dX0_passDay_46 ?_
      refine G_if_eq (r19 _ rfl) dX0_passDay_47 (tgt := 119) (by decide) (fun c24 => ?_) (fun c24 => ?_)
      · have h := h.1 c24
        refine G_iinc (lv' := [(2, aI ((v2 + 1))), (3, aI (u22)), (0, aR (38)), (1, aI (v1))]) (k := 3) rfl rfl (by decide) dX0_passDay_119 ?_
        refine G_goto (tgt := 29) dX0_passDay_122 (by decide) ?_
        obtain ⟨c25, h⟩ := h
        exact G_pick [2, 3, 0] rfl (h hv1 c25 o20)
      · have h := h.2 c24
        refine G_iload_n 0 rfl rfl dX0_passDay_50 ?_
        refine G_aload_n 1 rfl rfl dX0_passDay_51 ?_
        refine G_get (k := 1) (kd := (2, 10)) (v := aR 10) gf_X0_21 rfl rfl rfl rfl dX0_passDay_52 ?_
        refine G_iload_n 0 rfl rfl dX0_passDay_55 ?_
        obtain ⟨c26, h⟩ := h
        refine G_callS (as := [_]) cf_X0_123 rfl (sp_J6_bitCount_0f7a4 (d - 1) (by omega) _ o20 _ (r19 _ rfl) c26) (by omega) rfl rfl (Nat.le_of_ble_eq_true rfl) dX0_passDay_56 ?_
        rintro _ _ ⟨_, rfl, rfl, rfl⟩ o28 r27
        obtain ⟨c29, h⟩ := h
        refine G_callV (as := [_]) cf_X0_113 rfl rfl rfl (sp_X6_draw (d - 1) (by omega) _ o20 _ (r27 _ rfl) c29) (by omega) rfl rfl (Nat.le_of_ble_eq_true rfl) dX0_passDay_59 ?_
        rintro _ σ32 ⟨u33, rfl, e35, e34⟩ o31 r30
        have h := h u33 σ32 e35 e34
        obtain ⟨c36, h⟩ := h
        refine G_callS (as := [_, _]) cf_X0_128 rfl (sp_X0_bitAt (d - 1) (by omega) _ o31 _ (r19 _ rfl) _ (r30 _ rfl) c36) (by omega) rfl rfl (Nat.le_of_ble_eq_true rfl) dX0_passDay_62 ?_
        rintro _ _ ⟨_, rfl, rfl, rfl⟩ o38 r37
        have h := h _ rfl
        refine G_istore (lv' := [(4, aI (((((kthN (u22).toNat (u33).toNat : Nat) : Int))))), (3, aI (u22)), (0, aR (38)), (1, aI (v1)), (2, aI (v2))]) rfl (by decide) dX0_passDay_65 ?_
        refine G_aload_n 2 rfl rfl dX0_passDay_67 ?_
        refine G_get (k := 3) (kd := (2, 36)) (v := aR 36) gf_X0_29 rfl rfl rfl rfl dX0_passDay_68 ?_
        refine G_aload_n 2 rfl rfl dX0_passDay_71 ?_
        refine G_get (k := 0) (kd := (2, 1)) (v := aR 1) gf_X0_17 rfl rfl rfl rfl dX0_passDay_72 ?_
        refine G_get (k := 12) (kd := (0, 0)) (v := aI (σ32 1 12)) gf_X0_70 rfl rfl rfl rfl dX0_passDay_75 ?_
        refine G_iload_n 4 rfl rfl dX0_passDay_78 ?_
        refine G_iload 0 rfl dX0_passDay_79 ?_
        obtain ⟨g40, g41, c42, h⟩ := h
        refine G_callV (as := [_, _, _]) cf_X0_73 rfl rfl rfl (sp_X2_sucking (d - 1) (by omega) _ o31 _ (OKm.i o31 1 12 rfl) _ hv2 _ (r37 _ rfl) g40 g41 c42) (by omega) rfl rfl (Nat.le_of_ble_eq_true rfl) dX0_passDay_81 ?_
        rintro _ σ45 ⟨u46, rfl, z47⟩ o44 r43
        have h := h _ _ (r43 _ rfl) o44 z47
        refine G_istore (lv' := [(5, aI (u46)), (4, aI (((((kthN (u22).toNat (u33).toNat : Nat) : Int))))), (3, aI (u22)), (0, aR (38)), (1, aI (v1)), (2, aI (v2))]) rfl (by decide) dX0_passDay_84 ?_
        refine G_aload_n 3 rfl rfl dX0_passDay_86 ?_
        refine G_get (k := 1) (kd := (2, 10)) (v := aR 10) gf_X0_21 rfl rfl rfl rfl dX0_passDay_87 ?_
        refine G_iload_n 5 rfl rfl dX0_passDay_90 ?_
        refine G_iload 1 rfl dX0_passDay_91 ?_
        refine G_aload_n 3 rfl rfl dX0_passDay_93 ?_
        refine G_get (k := 0) (kd := (2, 1)) (v := aR 1) gf_X0_17 rfl rfl rfl rfl dX0_passDay_94 ?_
        refine G_iload 1 rfl dX0_passDay_97 ?_
        refine G_aload_n 3 rfl rfl dX0_passDay_99 ?_
        refine G_get (k := 1) (kd := (2, 10)) (v := aR 10) gf_X0_21 rfl rfl rfl rfl dX0_passDay_100 ?_
        refine G_get (k := 1) (kd := (3, 2)) (v := aR (12)) gf_X0_60 rfl rfl rfl rfl dX0_passDay_103 ?_
        refine G_iload_n 5 rfl rfl dX0_passDay_106 ?_
        obtain ⟨c48, h⟩ := h
        refine G_iald (n := 6) rfl c48.1 c48.2 dX0_passDay_107 ?_
        obtain ⟨c49, h⟩ := h
        refine G_callV (as := [_, _]) cf_X0_99 rfl rfl rfl (sp_X10_across (d - 1) (by omega) _ o44 _ (r37 _ rfl) _ (OKm.i o44 12 v2 (isLg_row (show shp 12 = (1, 6, []) from rfl) _)) c49) (by omega) rfl rfl (Nat.le_of_ble_eq_true rfl) dX0_passDay_108 ?_
        rintro _ _ ⟨_, rfl, rfl, rfl⟩ o51 r50
        refine G_iload 0 rfl dX0_passDay_111 ?_
        obtain ⟨g52, c53, h⟩ := h
        refine G_callV (as := [_, _, _, _]) cf_X0_102 rfl rfl rfl (sp_X6_walk (d - 1) (by omega) _ o44 _ hv2 _ (r37 _ rfl) _ (r50 _ rfl) _ (r43 _ rfl) g52 c53) (by omega) rfl rfl (Nat.le_of_ble_eq_true rfl) dX0_passDay_113 ?_
        rintro _ σ56 ⟨rfl, z58⟩ o55 r54
        have h := h _ o55 z58
        refine G_iinc (lv' := [(1, aI ((v1 + 1))), (5, aI (u46)), (4, aI (((((kthN (u22).toNat (u33).toNat : Nat) : Int))))), (3, aI (u22)), (0, aR (38)), (2, aI (v2))]) (k := 4) rfl rfl (by decide) dX0_passDay_116 ?_
        refine G_iinc (lv' := [(2, aI ((v2 + 1))), (1, aI ((v1 + 1))), (5, aI (u46)), (4, aI (((((kthN (u22).toNat (u33).toNat : Nat) : Int))))), (3, aI (u22)), (0, aR (38))]) (k := 5) rfl rfl (by decide) dX0_passDay_119 ?_
        refine G_goto (tgt := 29) dX0_passDay_122 (by decide) ?_
        obtain ⟨c59, h⟩ := h
        obtain ⟨c60, h⟩ := h
        exact G_pick [5, 1, 0] rfl (h c59 c60 o55)
  · intro v1 v2 σ h hv1 hv2 hO
    have h := h hv1 hv2 hO
    refine G_iload_n 2 rfl rfl dX0_passDay_127 ?_
    refine G_aload_n 0 rfl rfl dX0_passDay_128 ?_
    refine G_get (k := 0) (kd := (2, 1)) (v := aR 1) gf_X0_17 rfl rfl rfl rfl dX0_passDay_129 ?_
    refine G_get (k := 8) (kd := (0, 0)) (v := aI (σ 1 8)) gf_X0_33 rfl rfl rfl rfl dX0_passDay_132 ?_
    refine G_icmp_ge hv2 (OKm.i hO 1 8 rfl) dX0_passDay_135 (tgt := 183) (by decide) (fun c61 => ?_) (fun c61 => ?_)
    · have h := h.1 c61
      refine G_aload_n 0 rfl rfl dX0_passDay_183 ?_
      refine G_get (k := 1) (kd := (2, 10)) (v := aR 10) gf_X0_21 rfl rfl rfl rfl dX0_passDay_184 ?_
      refine G_dup rfl dX0_passDay_187 ?_
      refine G_get (k := 7) (kd := (0, 0)) (v := aI (σ 10 7)) gf_X0_139 rfl rfl rfl rfl dX0_passDay_188 ?_
      refine G_iconst dX0_passDay_191 ?_
      refine G_iadd dX0_passDay_192 ?_
      obtain ⟨c63, h⟩ := h
      obtain ⟨σ62, e65⟩ : ∃ τ : Mem, τ = mset σ 10 7 ((σ 10 7) + 1) := ⟨_, rfl⟩
      have h := h σ62 e65
      have o64 : OKm σ62 := by rw [e65]; exact OKm.seti hO _ _ _ c63 rfl
      refine G_put (k := 7) (ki := 7) (kd := (0, 0)) (x := _) pf_X0_139 rfl rfl rfl rfl (fa_i (mset_self _ _ _ _)) (fun _ => rfl) (fun _ => rfl) dX0_passDay_193 ?_
      rw [← e65]
      refine G_iload_n 1 rfl rfl dX0_passDay_196 ?_
      exact G_iret rfl hv1 dX0_passDay_197 ⟨_, rfl, h⟩ o64
    · have h := h.2 c61
      refine G_aload_n 0 rfl rfl dX0_passDay_138 ?_
      refine G_get (k := 1) (kd := (2, 10)) (v := aR 10) gf_X0_21 rfl rfl rfl rfl dX0_passDay_139 ?_
      refine G_get (k := 0) (kd := (3, 1)) (v := aR (11)) gf_X0_51 rfl rfl rfl rfl dX0_passDay_142 ?_
      refine G_iload_n 2 rfl rfl dX0_passDay_145 ?_
      refine G_aload_n 0 rfl rfl dX0_passDay_146 ?_
      refine G_get (k := 0) (kd := (2, 1)) (v := aR 1) gf_X0_17 rfl rfl rfl rfl dX0_passDay_147 ?_
      refine G_get (k := 3) (kd := (3, 4)) (v := aR (5)) gf_X0_48 rfl rfl rfl rfl dX0_passDay_150 ?_
      refine G_iload_n 2 rfl rfl dX0_passDay_153 ?_
      obtain ⟨c66, h⟩ := h
      refine G_iald (n := 16) rfl c66.1 c66.2 dX0_passDay_154 ?_
      refine G_aload_n 0 rfl rfl dX0_passDay_155 ?_
      refine G_get (k := 1) (kd := (2, 10)) (v := aR 10) gf_X0_21 rfl rfl rfl rfl dX0_passDay_156 ?_
      refine G_get (k := 0) (kd := (3, 1)) (v := aR (11)) gf_X0_51 rfl rfl rfl rfl dX0_passDay_159 ?_
      refine G_iload_n 2 rfl rfl dX0_passDay_162 ?_
      obtain ⟨c67, h⟩ := h
      refine G_iald (n := 16) rfl c67.1 c67.2 dX0_passDay_163 ?_
      refine G_aload_n 0 rfl rfl dX0_passDay_164 ?_
      refine G_get (k := 3) (kd := (2, 36)) (v := aR 36) gf_X0_29 rfl rfl rfl rfl dX0_passDay_165 ?_
      refine G_iload_n 2 rfl rfl dX0_passDay_168 ?_
      obtain ⟨g68, g69, c70, h⟩ := h
      refine G_callV (as := [_]) cf_X0_131 rfl rfl rfl (sp_X2_swelling (d - 1) (by omega) _ hO _ hv2 g68 g69 c70) (by omega) rfl rfl (Nat.le_of_ble_eq_true rfl) dX0_passDay_169 ?_
      rintro _ σ73 ⟨u74, rfl, z75⟩ o72 r71
      have h := h _ _ (r71 _ rfl) o72 z75
      refine G_iadd dX0_passDay_172 ?_
      obtain ⟨c76, h⟩ := h
      refine G_mmin rfl (OKm.i hO 5 v2 (isLg_row (show shp 5 = (1, 16, []) from rfl) _)) c76 (Nat.le_of_ble_eq_true rfl) sf_X0_134 dX0_passDay_173 ?_
      obtain ⟨c77, h⟩ := h
      obtain ⟨σ78, e80⟩ : ∃ τ : Mem, τ = mset σ73 11 v2 (min (σ 5 v2) ((σ 11 v2) + u74)) := ⟨_, rfl⟩
      have h := h σ78 e80
      have o79 : OKm σ78 := by rw [e80]; exact OKm.seti o72 _ _ _ (r32_min (OKm.i hO 5 v2 (isLg_row (show shp 5 = (1, 16, []) from rfl) _)) c76) (isLg_row (show shp 11 = (1, 16, []) from rfl) _)
      refine G_iast (n := 16) rfl c77.1 c77.2 dX0_passDay_176 ?_
      rw [← e80]
      refine G_iinc (lv' := [(2, aI ((v2 + 1))), (0, aR (38)), (1, aI (v1))]) (k := 2) rfl rfl (by decide) dX0_passDay_177 ?_
      refine G_goto (tgt := 127) dX0_passDay_180 (by decide) ?_
      obtain ⟨c81, h⟩ := h
      exact G_pick [1, 2, 0] rfl (h hv1 c81 o79)

theorem sp_X0_passDay (d : Nat) (hd : 5 ≤ d) (σ : Mem) (hO : OKm σ) (A : Mem) (tx : Nat → Txt) (hpre : vwC σ A tx ∧ A 0 2 < 9999) : Mt yX0_passDay cX0_passDay 6 (some .int) d [aR (38)] σ (QI (fun v σ' => v = (passS A tx).2 ∧ vwC σ' (passS A tx).1 tx ∧ Fr PDC σ σ')) := mt_X0_passDay hd  hO (by
  unfold wp_X0_passDay
  intro P29 P127 h29 h127
  obtain ⟨hV, hday⟩ := hpre
  have hI := hV.2.2.1
  have hc := hI.1
  have e108 : σ 10 8 = A 0 3 := hV.2.1.1.2.2.2.1
  have k3 := hI.2.2.2.1
  have hR := rainS_ok hI
  have hR10 : ∀ q, 8 ≤ q → rainS A q = A q := fun q hq => by unfold rainS; rw [mset_ne (by omega), mset_ne (by omega)]
  have hG := goersN_ok (tx := tx) hR (A 10 1).toNat (by rw [hR10 10 (by omega)]; omega)
  generalize hB : (goersN (rainS A) tx (A 10 1).toNat).1 = B at *
  have hB10 : ∀ q, 8 ≤ q → B q = A q := fun q hq => by rw [hG.2.1 q hq, hR10 q hq]
  have hB02 : B 0 2 = A 0 2 := by rw [← hB, goersN_day]; unfold rainS; simp (disch := omega) only [mset_miss]
  have H127 : ∀ (n k : Nat) (τ : Mem) (c : Int), k + n = (A 10 0).toNat → c = (goersN (rainS A) tx (A 10 1).toNat).2 → vwC τ (swN B tx k) tx → Fr PDC σ τ → P127 c (k : Int) τ := by
    intro n
    induction n with
    | zero =>
      intro k τ c hk hcc hVt hF
      have hsw := swN_ok (tx := tx) hG.1 k (by rw [hB10 10 (by omega)]; omega)
      have e8 : τ 1 8 = A 10 0 := by rw [hVt.1.1.1, hsw.2 10 (by omega), hB10 10 (by omega)]
      have e7 : τ 10 7 = A 0 2 := by rw [hVt.2.1.1.2.2.1, hsw.2 0 (by omega), hB02]
      refine h127 _ _ _ (fun _ _ _ => ⟨fun _ => ?_, fun h => absurd h (by rw [e8]; omega)⟩)
      rw [e7]
      refine ⟨by unfold R32; omega, ?_⟩
      intro _ e; subst e
      have hkk : k = (A 10 0).toNat := by omega
      subst hkk
      refine ⟨hcc, ?_, hF.set (by simp)⟩
      have := hVt.core (i := 7) (j := 2) (v := A 0 2 + 1) (Or.inr (Or.inr (Or.inl ⟨rfl, rfl⟩))) (hsw.1.core (by omega) ⟨fun h => by omega, fun h => by omega, fun _ => by omega, fun h => by omega⟩)
      unfold passS
      rw [hB]
      exact this
    | succ n ih =>
      intro k τ c hk hcc hVt hF
      have hsw := swN_ok (tx := tx) hG.1 k (by rw [hB10 10 (by omega)]; omega)
      have e10 : swN B tx k 10 = A 10 := by rw [hsw.2 10 (by omega), hB10 10 (by omega)]
      have e8 : τ 1 8 = A 10 0 := by rw [hVt.1.1.1, e10]
      have hkr : (0 : Int) ≤ (k : Int) ∧ (k : Int) < swN B tx k 10 0 := by rw [e10]; omega
      have k1 := hsw.1.2.1 (k : Int) hkr.1 hkr.2
      have e5 : τ 5 (k : Int) = swN B tx k 14 (k : Int) := (hVt.1.2.1 (k : Int) hkr.1 hkr.2).2.2.2
      have e11 : τ 11 (k : Int) = swN B tx k 1 (k : Int) := hVt.2.1.2.1 (k : Int) hkr.1 hkr.2
      have hs9 := swS_r (tx := tx) (r := (k : Int)) hsw.1
      refine h127 _ _ _ (fun _ _ _ => ⟨fun h => absurd h (by rw [e8]; omega), fun _ => ⟨by omega, by omega, swN B tx k, tx, ⟨hVt, hkr⟩, ?_⟩⟩)
      intro u σ1 hu hO1 ⟨eu, hF1⟩
      rw [e5, e11, eu]
      refine ⟨by unfold R32; omega, by omega, ?_⟩
      intro σ2 e2
      refine ⟨by unfold R32; omega, ?_⟩
      have hV1 := hVt.fr (fr37 hF1)
      have := ih (k + 1) σ2 c (by omega) hcc (by
        rw [e2]
        show vwC _ (mset (swN B tx k) 1 (k : Int) _) tx
        refine hV1.now hV1.2.1.thick (hsw.1.thick (fun _ _ => by omega)) (fun q hq => mset_ne (by omega)) (fun q hq => mset_ne (by omega))) (by
        rw [e2]; exact (hF.tr (hF1.wk (by simp))).set (by simp))
      rw [show ((k : Int) + 1) = ((k + 1 : Nat) : Int) by omega]
      exact this
  have H29 : ∀ (n k : Nat) (τ : Mem), k + n = (A 10 1).toNat → vwC τ (goersN (rainS A) tx k).1 tx → Fr PDC σ τ → P29 (goersN (rainS A) tx k).2 (k : Int) τ := by
    intro n
    induction n with
    | zero =>
      intro k τ hk hVt hF
      have hkk : k = (A 10 1).toNat := by omega
      subst hkk
      have e9 : τ 1 9 = A 10 1 := by rw [hVt.1.1.2.1, hB, hB10 10 (by omega)]
      refine h29 _ _ _ (fun _ _ _ => ⟨fun _ => ?_, fun h => absurd h (by rw [e9]; omega)⟩)
      exact H127 (A 10 0).toNat 0 τ _ (by omega) rfl (by rw [hB] at hVt; exact hVt) hF
    | succ n ih =>
      intro k τ hk hVt hF
      obtain ⟨g1, g2, g3, g4⟩ := goersN_ok (tx := tx) hR k (by rw [hR10 10 (by omega)]; omega)
      have ihk : ∀ (C : Mem) (c : Int) (τ' : Mem), (goersN (rainS A) tx (k + 1)) = (C, c) → vwC τ' C tx → Fr PDC σ τ' → P29 c ((k : Int) + 1) τ' := fun C c τ' hC hv hf => by
        have := ih (k + 1) τ' (by omega) (by rw [hC]; exact hv) hf
        rw [hC] at this
        rw [show ((k : Int) + 1) = ((k + 1 : Nat) : Int) by omega]
        exact this
      have hsucc : goersN (rainS A) tx (k + 1) = (gstep (goersN (rainS A) tx k).1 tx (k : Int), (goersN (rainS A) tx k).2 + gcnt (goersN (rainS A) tx k).1 tx (k : Int)) := rfl
      generalize hC : (goersN (rainS A) tx k).1 = C at *
      generalize hcn : (goersN (rainS A) tx k).2 = cn at *
      have c10 : C 10 = A 10 := by rw [g2 10 (by omega), hR10 10 (by omega)]
      have e9 : τ 1 9 = A 10 1 := by rw [hVt.1.1.2.1, c10]
      have hgk : (0 : Int) ≤ (k : Int) ∧ (k : Int) < C 10 1 := by rw [c10]; omega
      have hl := opS_lt (tx := tx) (g := (k : Int)) g1
      have c3 := g1.2.2.2.1
      refine h29 _ _ _ (fun _ _ _ => ⟨fun h => absurd h (by rw [e9]; omega), fun _ => ⟨C, tx, ⟨hVt, hgk⟩, ?_⟩⟩)
      intro u σ21 hu hO21 ⟨eu, hF21⟩
      have hV21 := hVt.fr (fr37 hF21)
      have e8 : σ21 10 8 = C 0 3 := hV21.2.1.1.2.2.2.1
      rw [eu]
      refine ⟨fun h0 => ⟨by unfold R32; omega, ihk _ _ σ21 (by rw [hsucc]; unfold gstep gcnt; rw [if_pos h0, if_pos h0, Int.add_zero]) hV21 (hF.tr (hF21.wk (by simp)))⟩, fun h0 => ⟨hl, by rw [e8]; omega, ?_⟩⟩
      intro u33 σ32 e33 e32
      obtain ⟨r1, r2, r3⟩ := kthR_ok g1 h0
      rw [if_pos (by omega), e8] at e33
      refine ⟨⟨hl, by rw [e33]; exact r1⟩, ?_⟩
      intro y ey
      have ey : y = kthR C tx (k : Int) := by rw [ey, e33]; rfl
      have hx : InvA (mset C 0 3 (nxt (C 0 3))) := g1.core (by omega) ⟨fun h => by omega, fun h => by omega, fun h => by omega, fun _ => nxt_r _⟩
      have hV32 : vwC σ32 (mset C 0 3 (nxt (C 0 3))) tx := by rw [e32, e8]; exact hV21.core (Or.inr (Or.inr (Or.inr ⟨rfl, rfl⟩))) hx
      have x10 : mset C 0 3 (nxt (C 0 3)) 10 = A 10 := by rw [mset_ne (by omega), c10]
      generalize hX : mset C 0 3 (nxt (C 0 3)) = X at *
      have hcg : canGo X tx (k : Int) y = true := by rw [← hX, canGo_x, ey]; exact r3
      have hgX : (0 : Int) ≤ (k : Int) ∧ (k : Int) < X 10 1 := by rw [x10]; omega
      have hrX : 0 ≤ y ∧ y < X 10 0 := by rw [x10, ey, ← c10]; exact r2
      have e12 : σ32 1 12 = X 10 4 := hV32.1.1.2.2.2.2
      have i0 := hx.1
      rw [e12]
      refine ⟨X, tx, ⟨hV32, by omega, hgX, hrX⟩, ?_⟩
      intro u46 σ45 hu46 hO45 ⟨eu46, hF45⟩
      have hV45 := hV32.fr (fr37 hF45)
      have hsk := skS_r (tx := tx) (t := X 10 4) (r := y) hx hgX
      have k1 := hx.2.1 y hrX.1 hrX.2
      have k2 := hx.2.2.1 (k : Int) hgX.1 hgX.2
      have k4 := hx.2.2.2.1
      have hcnt := hx.cnt
      refine ⟨by rw [x10] at hgX; omega, by rw [x10] at hrX; omega, X, ⟨hV45.2.1, hcnt, hgX, hrX, by omega, by omega, by omega, by omega⟩, ?_⟩
      intro σ56 hO56 ⟨hN, hF56⟩
      have f2 : σ45 2 y = X 11 y := (hV45.1.2.1 y hrX.1 hrX.2).1
      have f3 : σ45 3 y = X 12 y := (hV45.1.2.1 y hrX.1 hrX.2).2.1
      have f12 : σ45 12 (k : Int) = X 2 (k : Int) := (hV45.2.1.2.2.1 (k : Int) hgX.1 hgX.2).1
      rw [f2, f3, f12, eu46] at hN
      have hN : nowC σ56 (goneS X tx (k : Int) y) := hN
      have hF3 : Fr PDC σ σ56 := by
        have h1 : Fr PDC σ21 σ32 := by rw [e32]; exact (Fr.rf _ _).set (by simp)
        exact (((hF.tr (hF21.wk (by simp))).tr h1).tr (hF45.wk (by simp))).tr (hF56.wk (by simp))
      refine ⟨by unfold R32; omega, by unfold R32; omega, ihk _ _ σ56 (by rw [hsucc]; unfold gstep gcnt; rw [if_neg h0, if_neg h0, hX, ← ey]) (hV45.now hN (hx.gone hgX hrX hcg) (fun q hq => walkS_told hq) (fun q hq => hF56 q (by simp; omega))) hF3⟩
  have hgo : ∀ (τ : Mem) (v : Int), v = (if A 0 3 % 10 < 3 then 1 else 0) → τ = mset (mset σ 10 8 (nxt (A 0 3))) 10 6 v → P29 0 0 τ := by
    intro τ v hv hτ
    have h1 := hV.core (i := 8) (j := 3) (v := nxt (A 0 3)) (Or.inr (Or.inr (Or.inr ⟨rfl, rfl⟩))) (hI.core (by omega) ⟨fun h => by omega, fun h => by omega, fun h => by omega, fun _ => nxt_r _⟩)
    have h2 := h1.core (i := 6) (j := 1) (v := v) (Or.inr (Or.inl ⟨rfl, rfl⟩)) (by have := hR; unfold rainS at this; rw [← hv] at this; exact this)
    have := H29 (A 10 1).toNat 0 τ (by omega) (by rw [hτ]; show vwC _ (rainS A) tx; unfold rainS; rw [← hv]; exact h2) (by rw [hτ]; exact ((Fr.rf _ _).set (by simp)).set (by simp))
    exact this
  rw [e108]
  refine ⟨by have := hI.2.2.2.1; omega, ?_⟩
  intro u σ4 hu h4
  rw [if_pos (by omega)] at hu
  refine ⟨fun h => ?_, fun h => ?_⟩
  · intro σ9 e9
    exact hgo σ9 0 (by rw [if_neg (by omega)]) (by rw [e9, h4])
  · intro σ9 e9
    exact hgo σ9 1 (by rw [if_pos (by omega)]) (by rw [e9, h4]))
