/-! A DAY, over the abstract state. -/
theorem opN_bit (A : Mem) (tx : Nat → Txt) (g : Int) : ∀ (n r : Nat), (opN A tx g n).toNat.testBit r = true → r < n ∧ canGo A tx g (r : Int) = true
  | 0, r, h => by simp [opN] at h
  | n + 1, r, h => by
    have hr := opN_r A tx g n
    have hp := pow_pos' n
    have e2 : ((2 : Int) ^ n) = ((2 ^ n : Nat) : Int) := by push_cast; rfl
    have hlt : (opN A tx g n).toNat < 2 ^ n := by omega
    unfold opN at h
    by_cases hc : canGo A tx g (n : Int) = true
    · rw [if_pos hc] at h
      have e : (opN A tx g n + 2 ^ n).toNat = 2 ^ n * 1 + (opN A tx g n).toNat := by omega
      rw [e, Nat.testBit_two_pow_mul_add _ hlt] at h
      split at h
      · have := opN_bit A tx g n r h; exact ⟨by omega, this.2⟩
      · rename_i hrn
        have : r - n = 0 := by
          cases hi : r - n with
          | zero => rfl
          | succ i => rw [hi, Nat.testBit_succ] at h; simp at h
        have : r = n := by omega
        subst this
        exact ⟨by omega, hc⟩
    · rw [if_neg hc, Int.add_zero] at h
      have := opN_bit A tx g n r h; exact ⟨by omega, this.2⟩
theorem nmA_x {A : Mem} {v k g r : Int} : nmA (mset A 0 3 v) k g r = nmA A k g r := by
  unfold nmA; simp (disch := omega) only [mset_off, mset_miss]
theorem envA_x {A : Mem} {v g r : Int} : envA (mset A 0 3 v) g r = envA A g r := by
  unfold envA
  refine Prod.ext ?_ ?_
  · funext k; exact nmA_x
  · show thk0 (mset A 0 3 v 10 0) (mset A 0 3 v 1) = thk0 (A 10 0) (A 1)
    rw [mset_ne (by omega), mset_ne (by omega)]
theorem skS_x {A : Mem} {tx : Nat → Txt} {v t g r : Int} : skS (mset A 0 3 v) tx t g r = skS A tx t g r := by
  unfold skS; rw [envA_x, mset_ne (show (15 : Nat) ≠ 0 by omega)]
theorem canGo_x {A : Mem} {tx : Nat → Txt} {v g r : Int} : canGo (mset A 0 3 v) tx g r = canGo A tx g r := by
  unfold canGo; rw [skS_x]; simp (disch := omega) only [mset_off]
/-- the road that is drawn -/
def kthR (A : Mem) (tx : Nat → Txt) (g : Int) : Int := ((kthN (opS A tx g).toNat (A 0 3 % ((pcN 16 (opS A tx g).toNat : Nat) : Int)).toNat : Nat) : Int)
def gstep (A : Mem) (tx : Nat → Txt) (g : Int) : Mem := if opS A tx g = 0 then A else goneS (mset A 0 3 (nxt (A 0 3))) tx g (kthR A tx g)
def gcnt (A : Mem) (tx : Nat → Txt) (g : Int) : Int := if opS A tx g = 0 then 0 else 1
def goersN (A : Mem) (tx : Nat → Txt) : Nat → Mem × Int
  | 0 => (A, 0)
  | n + 1 => (gstep (goersN A tx n).1 tx (n : Int), (goersN A tx n).2 + gcnt (goersN A tx n).1 tx (n : Int))
def swN (A : Mem) (tx : Nat → Txt) : Nat → Mem
  | 0 => A
  | n + 1 => mset (swN A tx n) 1 (n : Int) (min (swN A tx n 14 (n : Int)) (swN A tx n 1 (n : Int) + swS (swN A tx n) tx (n : Int)))
def rainS (A : Mem) : Mem := mset (mset A 0 3 (nxt (A 0 3))) 0 1 (if A 0 3 % 10 < 3 then 1 else 0)
def passS (A : Mem) (tx : Nat → Txt) : Mem × Int :=
  (mset (swN (goersN (rainS A) tx (A 10 1).toNat).1 tx (A 10 0).toNat) 0 2 (A 0 2 + 1), (goersN (rainS A) tx (A 10 1).toNat).2)
theorem opS_lt {A : Mem} {tx : Nat → Txt} {g : Int} (h : InvA A) : 0 ≤ opS A tx g ∧ opS A tx g < 65536 := by
  have h1 := opN_r A tx g (A 10 0).toNat
  have h2 := pow_le' (show (A 10 0).toNat ≤ 16 by have := h.1; omega)
  unfold opS
  have : (2 : Int) ^ 16 = 65536 := by decide
  omega
theorem pc_pos {n : Nat} (h : n < 65536) (h0 : n ≠ 0) : 0 < pcN 16 n := by have := clr_pc h h0; omega
theorem kthR_ok {A : Mem} {tx : Nat → Txt} {g : Int} (h : InvA A) (hne : opS A tx g ≠ 0) : (0 ≤ A 0 3 % ((pcN 16 (opS A tx g).toNat : Nat) : Int) ∧ A 0 3 % ((pcN 16 (opS A tx g).toNat : Nat) : Int) < ((pcN 16 (opS A tx g).toNat : Nat) : Int)) ∧ (0 ≤ kthR A tx g ∧ kthR A tx g < A 10 0) ∧ canGo A tx g (kthR A tx g) = true := by
  have hl := opS_lt (tx := tx) (g := g) h
  have hp := pc_pos (n := (opS A tx g).toNat) (by omega) (by omega)
  have hm : 0 ≤ A 0 3 % ((pcN 16 (opS A tx g).toNat : Nat) : Int) ∧ A 0 3 % ((pcN 16 (opS A tx g).toNat : Nat) : Int) < ((pcN 16 (opS A tx g).toNat : Nat) : Int) := mod_r (by omega)
  have hb := (kthN_bit (s := (opS A tx g).toNat) (k := (A 0 3 % ((pcN 16 (opS A tx g).toNat : Nat) : Int)).toNat) (by omega) (by omega)).1
  have := opN_bit A tx g (A 10 0).toNat _ hb
  exact ⟨hm, ⟨by unfold kthR; omega, by unfold kthR; omega⟩, this.2⟩
theorem InvA_gstep {A : Mem} {tx : Nat → Txt} {g : Int} (h : InvA A) (hg : 0 ≤ g ∧ g < A 10 1) : InvA (gstep A tx g) := by
  unfold gstep
  split
  · exact h
  · rename_i hne
    obtain ⟨-, k2, k3⟩ := kthR_ok h hne
    have hx : InvA (mset A 0 3 (nxt (A 0 3))) := h.core (by omega) ⟨fun h => by omega, fun h => by omega, fun h => by omega, fun _ => nxt_r _⟩
    refine hx.gone ?_ ?_ (by rw [canGo_x]; exact k3)
    · rw [mset_ne (by omega)]; exact hg
    · rw [mset_ne (by omega)]; exact k2
theorem gstep_told {A : Mem} {tx : Nat → Txt} {g : Int} {q : Nat} (h : 8 ≤ q) : gstep A tx g q = A q := by
  unfold gstep goneS
  split
  · rfl
  · rw [walkS_told h, mset_ne (by omega)]
theorem goersN_ok {A : Mem} {tx : Nat → Txt} (h : InvA A) : ∀ n : Nat, (n : Int) ≤ A 10 1 → InvA (goersN A tx n).1 ∧ (∀ q, 8 ≤ q → (goersN A tx n).1 q = A q) ∧ 0 ≤ (goersN A tx n).2 ∧ (goersN A tx n).2 ≤ n
  | 0, _ => ⟨h, fun _ _ => rfl, by simp [goersN], by simp [goersN]⟩
  | n + 1, hn => by
    obtain ⟨i1, i2, i3, i4⟩ := goersN_ok h n (by omega)
    refine ⟨InvA_gstep i1 ⟨by omega, by rw [i2 10 (by omega)]; omega⟩, fun q hq => by show gstep _ tx _ q = A q; rw [gstep_told hq]; exact i2 q hq, ?_, ?_⟩
    · show 0 ≤ (goersN A tx n).2 + gcnt (goersN A tx n).1 tx (n : Int)
      unfold gcnt; split <;> omega
    · show (goersN A tx n).2 + gcnt (goersN A tx n).1 tx (n : Int) ≤ _
      unfold gcnt; split <;> omega
theorem swN_ok {A : Mem} {tx : Nat → Txt} (h : InvA A) : ∀ n : Nat, (n : Int) ≤ A 10 0 → InvA (swN A tx n) ∧ ∀ q, q ≠ 1 → swN A tx n q = A q
  | 0, _ => ⟨h, fun _ _ => rfl⟩
  | n + 1, hn => by
    obtain ⟨i1, i2⟩ := swN_ok h n (by omega)
    refine ⟨i1.thick (fun h1 h2 => ?_), fun q hq => by show mset _ 1 _ _ q = A q; rw [mset_ne hq]; exact i2 q hq⟩
    have := i1.2.1 (n : Int) h1 h2
    have := swS_r (tx := tx) (r := (n : Int)) i1
    omega
