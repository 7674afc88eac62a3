/-! THE START: the memory that the constructors leave, and that the law's invariant holds of it -/
def s0 : Mem := fun p i =>
  if p = 1 ∨ p = 17 then (if i = 12 then -1 else 0)
  else if p = 10 then (if i = 5 then 20 else if i = 8 then 283 else 0)
  else if p = 26 then (if i = 58 then 20 else if i = 61 then 283 else 0)
  else if p = 35 then (if i = 3 ∨ i = 4 ∨ i = 5 then -1 else 0)
  else if p = 40 then (if i = 8 then 47 else if i = 9 then 48 else 0)
  else if p = 54 ∨ p = 59 ∨ p = 64 ∨ p = 69 then (if 3 ≤ i ∧ i ≤ 6 then -1 else 0)
  else if p = 74 then (if i = 5 ∨ i = 6 then -1 else if i = 23 then 1 else 0)
  else if p = 75 ∨ p = 76 then (if i = 7 then 283 else if i = 9 then 20 else if i = 3 then -1 else 0)
  else 0
def A0 : Mem := fun q i => if q = 0 then (if i = 0 then 20 else if i = 3 then 283 else 0) else if q = 10 then (if i = 4 then -1 else 0) else 0
def X0 : Mem := fun q i => if q = 2 ∧ (i = 0 ∨ i = 1) then -1 else 0
theorem s0_r (p : Nat) (i : Int) : -1 ≤ s0 p i ∧ s0 p i ≤ 283 := by
  unfold s0
  (repeat' split) <;> omega
theorem s0_ok : OKm s0 := fun p i => by
  have := s0_r p i
  split
  · unfold R64; omega
  · unfold R32; omega
theorem A0_10 : A0 10 0 = 0 ∧ A0 10 1 = 0 ∧ A0 10 2 = 0 ∧ A0 10 3 = 0 ∧ A0 10 4 = -1 ∧ A0 0 4 = 0 := by decide
theorem A0_inv : InvA A0 := by
  obtain ⟨a0, a1, a2, a3, a4, a5⟩ := A0_10
  refine ⟨by decide, fun r h1 h2 => ?_, fun g h1 h2 => ?_, by decide, fun i h1 h2 => ?_, fun i h1 h2 => ?_⟩ <;> omega
theorem s0_C : fullC s0 A0 [] A0 [] (fun _ => T0) X0 := by
  obtain ⟨a0, a1, a2, a3, a4, a5⟩ := A0_10
  have st : ∀ p : Nat, (p = 15 ∨ p = 27) → stepsC s0 p [] := fun p hp => by
    rcases hp with rfl | rfl <;> exact ⟨by decide, by decide, by decide, by decide, fun k B h => by simp at h⟩
  have td : ∀ p : Nat, (p = 1 ∨ p = 17) → toldC s0 p A0 := fun p hp => by
    refine ⟨?_, fun r h1 h2 => by omega, fun g h1 h2 => by omega, fun i h1 h2 => by omega⟩
    rcases hp with rfl | rfl <;> decide
  refine ⟨⟨⟨td 1 (.inl rfl), ⟨by decide, fun r h1 h2 => by omega, fun g h1 h2 => by omega, fun i h1 h2 => by omega⟩, A0_inv, fun i hi => by omega⟩, st 15 (.inl rfl)⟩, ⟨td 17 (.inr rfl), ⟨by decide, fun r h1 h2 => by omega, fun g h1 h2 => by omega, fun i h1 h2 => by omega⟩, st 27 (.inr rfl)⟩, ⟨by decide, fun i h1 h2 => ?_, by decide, by decide⟩, .inl ⟨by decide, by decide⟩⟩
  have : X0 0 0 = 0 := by decide
  omega
theorem s0_M : fullM s0 A0 [] A0 [] (fun _ => T0) X0 := by
  obtain ⟨a0, a1, a2, a3, a4, a5⟩ := A0_10
  have st : ∀ p : Nat, (p = 75 ∨ p = 76) → stepsM s0 p [] := fun p hp => by
    rcases hp with rfl | rfl <;> exact ⟨by decide, by decide, fun k B h => by simp at h⟩
  have td : ∀ p : Nat, (p = 75 ∨ p = 76) → toldM s0 p A0 := fun p hp => by
    refine ⟨?_, fun r h1 h2 => by omega, fun g h1 h2 => by omega, fun i h1 h2 => by omega⟩
    rcases hp with rfl | rfl <;> decide
  have nw : ∀ p : Nat, (p = 75 ∨ p = 76) → nowM s0 p A0 := fun p hp => by
    refine ⟨?_, fun r h1 h2 => by omega, fun g h1 h2 => by omega, fun i h1 h2 => by omega⟩
    rcases hp with rfl | rfl <;> decide
  refine ⟨⟨⟨td 75 (.inl rfl), nw 75 (.inl rfl), A0_inv, fun i hi => by omega, fun k h1 h2 => ?_⟩, st 75 (.inl rfl), by decide, by decide⟩, ⟨td 76 (.inr rfl), nw 76 (.inr rfl), st 76 (.inr rfl)⟩, by decide, fun i h1 h2 => ?_, by decide, by decide⟩
  · have := s0_r 80 k
    unfold Mil; omega
  · have : X0 0 0 = 0 := by decide
    omega
theorem s0_LI : LI s0 0 := by
  refine ⟨A0, [], A0, [], fun _ => T0, X0, s0_C, s0_M, ⟨trivial, A0_inv, trivial, extA.rf A0, by decide, fun i => ?_⟩, by decide⟩
  have : X0 1 i = 0 := by unfold X0; rw [if_neg (by omega)]
  omega
/-! what the rows hold -/
theorem rw_eq : RWf = fun i : Nat => Int32.ofInt (s0 26 (i : Int)) := by
  funext i
  have e : s0 26 (i : Int) = if (i : Int) = 58 then 20 else if (i : Int) = 61 then 283 else 0 := rfl
  rw [e]
  unfold RWf upd
  by_cases h1 : i = 58
  · subst h1; rfl
  by_cases h2 : i = 61
  · subst h2; rfl
  rw [if_neg (show ¬ (i : Int) = 58 by omega), if_neg (show ¬ (i : Int) = 61 by omega)]
  (repeat' split) <;> first | rfl | omega
theorem aF_eq (p : Nat) (hp : p = 75 ∨ p = 76) : aF0 = fun i : Nat => Int32.ofInt (s0 p (i : Int)) := by
  funext i
  have e : s0 p (i : Int) = if (i : Int) = 7 then 283 else if (i : Int) = 9 then 20 else if (i : Int) = 3 then -1 else 0 := by rcases hp with rfl | rfl <;> rfl
  rw [e]
  unfold aF0 upd
  by_cases h1 : i = 7
  · subst h1; rfl
  by_cases h2 : i = 9
  · subst h2; rfl
  by_cases h3 : i = 3
  · subst h3; rfl
  rw [if_neg (show ¬ (i : Int) = 7 by omega), if_neg (show ¬ (i : Int) = 9 by omega), if_neg (show ¬ (i : Int) = 3 by omega), if_neg h3, if_neg h2, if_neg h1]
  rfl
theorem cp_eq : cpF aF0 (fun _ => 0) 2119 = fun i : Nat => Int32.ofInt (s0 76 (i : Int)) := by
  rw [← aF_eq 76 (.inr rfl)]
  funext i
  unfold cpF
  by_cases h : i < 2119
  · rw [if_pos h]
  · rw [if_neg h]
    unfold aF0 upd
    rw [if_neg (by omega), if_neg (by omega), if_neg (by omega)]
theorem arrV_ext {c : ClassId} {N : Nat} {f g : Nat → Value} (h : ∀ j, j < N → f j = g j) : arrV c N f = arrV c N g := by
  unfold arrV
  congr 1
  congr 1
  funext j
  exact h j.val j.isLt
