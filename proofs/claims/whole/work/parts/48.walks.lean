/-! WALKS over roads. -/
def jnR (A : Mem) (r x y : Int) : Prop := (A 11 r = x ∧ A 12 r = y) ∨ (A 11 r = y ∧ A 12 r = x)
def wlk (A : Mem) (ok : Int → Bool) : Nat → Int → Int → Int → Prop
  | 0, a, b, l => a = b ∧ l = 0
  | k + 1, a, b, l => ∃ r c : Int, (0 ≤ r ∧ r < A 10 0) ∧ ok r = true ∧ jnR A r c b ∧ wlk A ok k a c (l - A 13 r)
theorem jnR.sm {A : Mem} {r x y : Int} (h : jnR A r x y) : jnR A r y x := by
  rcases h with h | h
  · exact Or.inr h
  · exact Or.inl h
theorem wlk_snoc {A : Mem} {ok : Int → Bool} {k : Nat} {a b c l r : Int} (h : wlk A ok k a c l) (hr : 0 ≤ r ∧ r < A 10 0) (ho : ok r = true) (hj : jnR A r c b) : wlk A ok (k + 1) a b (l + A 13 r) :=
  ⟨r, c, hr, ho, hj, by rw [show l + A 13 r - A 13 r = l by omega]; exact h⟩
theorem wlk_cons {A : Mem} {ok : Int → Bool} {a c r : Int} (hr : 0 ≤ r ∧ r < A 10 0) (ho : ok r = true) (hj : jnR A r a c) : ∀ (k : Nat) (b l : Int), wlk A ok k c b l → wlk A ok (k + 1) a b (l + A 13 r)
  | 0, b, l, h => ⟨r, a, hr, ho, by rw [← h.1]; exact hj, rfl, by have := h.2; omega⟩
  | k + 1, b, l, h => by
    obtain ⟨r2, c2, h1, h2, h3, h4⟩ := h
    have := wlk_cons hr ho hj k c2 (l - A 13 r2) h4
    refine ⟨r2, c2, h1, h2, h3, ?_⟩
    rw [show l + A 13 r - A 13 r2 = l - A 13 r2 + A 13 r by omega]; exact this
theorem wlk_rev {A : Mem} {ok : Int → Bool} : ∀ (k : Nat) (a b l : Int), wlk A ok k a b l → wlk A ok k b a l
  | 0, a, b, l, h => ⟨h.1.symm, h.2⟩
  | k + 1, a, b, l, h => by
    obtain ⟨r, c, h1, h2, h3, h4⟩ := h
    have := wlk_cons h1 h2 h3.sm k a _ (wlk_rev k a c _ h4)
    rw [show l - A 13 r + A 13 r = l by omega] at this; exact this
theorem wlk_app {A : Mem} {ok : Int → Bool} {k1 : Nat} {a b l1 : Int} (h1 : wlk A ok k1 a b l1) : ∀ (k2 : Nat) (c l2 : Int), wlk A ok k2 b c l2 → wlk A ok (k1 + k2) a c (l1 + l2)
  | 0, c, l2, h => by rw [← h.1, h.2, Int.add_zero]; exact h1
  | k2 + 1, c, l2, h => by
    obtain ⟨r, d, q1, q2, q3, q4⟩ := h
    refine ⟨r, d, q1, q2, q3, ?_⟩
    rw [show l1 + l2 - A 13 r = l1 + (l2 - A 13 r) by omega]
    exact wlk_app h1 k2 d _ q4
theorem wlk_mono {A : Mem} {ok ok' : Int → Bool} (hm : ∀ r : Int, 0 ≤ r → r < A 10 0 → ok r = true → ok' r = true) : ∀ (k : Nat) (a b l : Int), wlk A ok k a b l → wlk A ok' k a b l
  | 0, _, _, _, h => h
  | k + 1, a, b, l, h => by
    obtain ⟨r, c, h1, h2, h3, h4⟩ := h
    exact ⟨r, c, h1, hm r h1.1 h1.2 h2, h3, wlk_mono hm k a c _ h4⟩
theorem jnR_r {A : Mem} {r x y : Int} (hI : InvA A) (hr : 0 ≤ r ∧ r < A 10 0) (h : jnR A r x y) : (0 ≤ x ∧ x ≤ 7) ∧ (0 ≤ y ∧ y ≤ 7) := by
  have := hI.2.1 r hr.1 hr.2
  unfold jnR at h
  omega
theorem wlk_in {A : Mem} {ok : Int → Bool} (hI : InvA A) : ∀ (k : Nat) (a b l : Int), wlk A ok k a b l → (0 ≤ a ∧ a ≤ 7) → (0 ≤ b ∧ b ≤ 7)
  | 0, a, b, l, h, ha => by rw [← h.1]; exact ha
  | k + 1, a, b, l, h, ha => by
    obtain ⟨r, c, h1, h2, h3, h4⟩ := h
    exact (jnR_r hI h1 h3).2
theorem wlk_len {A : Mem} {ok : Int → Bool} (hI : InvA A) : ∀ (k : Nat) (a b l : Int), wlk A ok k a b l → (k : Int) ≤ l ∧ l ≤ 9 * k
  | 0, a, b, l, h => by have := h.2; omega
  | k + 1, a, b, l, h => by
    obtain ⟨r, c, h1, h2, h3, h4⟩ := h
    have := wlk_len hI k a c _ h4
    have := hI.2.1 r h1.1 h1.2
    omega
theorem php : ∀ (n : Nat) (f : Nat → Nat), (∀ i, i ≤ n → f i < n) → ∃ i j, i < j ∧ j ≤ n ∧ f i = f j
  | 0, f, h => absurd (h 0 (Nat.le_refl 0)) (by omega)
  | n + 1, f, h => by
    by_cases hex : ∃ i, i ≤ n ∧ f i = f (n + 1)
    · obtain ⟨i, h1, h2⟩ := hex
      exact ⟨i, n + 1, by omega, Nat.le_refl _, h2⟩
    · have hne : ∀ i, i ≤ n → f i ≠ f (n + 1) := fun i hi he => hex ⟨i, hi, he⟩
      have hv := h (n + 1) (Nat.le_refl _)
      obtain ⟨i, j, h1, h2, h3⟩ := php n (fun i => if f i = n then f (n + 1) else f i) (fun i hi => by
        show (if f i = n then f (n + 1) else f i) < n
        have := h i (by omega)
        have := hne i hi
        split <;> omega)
      refine ⟨i, j, h1, by omega, ?_⟩
      have a1 := hne i (by omega)
      have a2 := hne j h2
      have h3 : (if f i = n then f (n + 1) else f i) = (if f j = n then f (n + 1) else f j) := h3
      split at h3 <;> split at h3 <;> omega
/-- the towns of a walk, and how far each is -/
theorem wlk_path {A : Mem} {ok : Int → Bool} (hI : InvA A) : ∀ (k : Nat) (a b l : Int), (0 ≤ a ∧ a ≤ 7) → wlk A ok k a b l → ∃ v : Nat → Int, ∃ L : Nat → Int, ∀ i : Nat, i ≤ k → (0 ≤ v i ∧ v i ≤ 7) ∧ wlk A ok i a (v i) (L i) ∧ wlk A ok (k - i) (v i) b (l - L i) ∧ ∀ j : Nat, j ≤ i → L j ≤ L i
  | 0, a, b, l, ha, h => ⟨fun _ => a, fun _ => 0, fun i hi => by
      have : i = 0 := by omega
      subst this
      exact ⟨ha, ⟨rfl, rfl⟩, by rw [show l - 0 = l by omega]; exact h, fun j _ => Int.le_refl _⟩⟩
  | k + 1, a, b, l, ha, h => by
    have hw := h
    obtain ⟨r, c, h1, h2, h3, h4⟩ := h
    have hl := hI.2.1 r h1.1 h1.2
    obtain ⟨v, L, hvL⟩ := wlk_path hI k a c _ ha h4
    refine ⟨fun i => if i = k + 1 then b else v i, fun i => if i = k + 1 then l else L i, fun i hi => ?_⟩
    by_cases e : i = k + 1
    · subst e
      simp only [if_true]
      refine ⟨(jnR_r hI h1 h3).2, hw, ?_, fun j hj => ?_⟩
      · rw [Nat.sub_self]; exact ⟨rfl, by omega⟩
      · by_cases e2 : j = k + 1
        · rw [if_pos e2]; exact Int.le_refl _
        · rw [if_neg e2]
          have q1 := (hvL k (Nat.le_refl _)).2.2.2 j (by omega)
          have q2 := (hvL k (Nat.le_refl _)).2.2.1
          rw [Nat.sub_self] at q2
          have := q2.2
          omega
    · obtain ⟨q1, q2, q3, q4⟩ := hvL i (by omega)
      simp only [if_neg e]
      refine ⟨q1, q2, ?_, fun j hj => ?_⟩
      · rw [show k + 1 - i = (k - i) + 1 by omega]
        refine ⟨r, c, h1, h2, h3, ?_⟩
        rw [show l - L i - A 13 r = l - A 13 r - L i by omega]; exact q3
      · rw [if_neg (by omega)]; exact q4 j hj
theorem wlk_short {A : Mem} {ok : Int → Bool} (hI : InvA A) {a b : Int} (ha : 0 ≤ a ∧ a ≤ 7) : ∀ (n k : Nat) (l : Int), k ≤ n → wlk A ok k a b l → ∃ (j : Nat) (l' : Int), j ≤ 7 ∧ l' ≤ l ∧ wlk A ok j a b l'
  | 0, k, l, hk, h => ⟨k, l, by omega, Int.le_refl _, h⟩
  | n + 1, k, l, hk, h => by
    by_cases h7 : k ≤ 7
    · exact ⟨k, l, h7, Int.le_refl _, h⟩
    · obtain ⟨v, L, hvL⟩ := wlk_path hI k a b l ha h
      obtain ⟨i, j, h1, h2, h3⟩ := php 8 (fun i => (v i).toNat) (fun i hi => by have := (hvL i (by omega)).1; show (v i).toNat < 8; omega)
      have hi := hvL i (by omega)
      have hj := hvL j (by omega)
      have hvv : v i = v j := by have a1 := hi.1; have a2 := hj.1; have h3 : (v i).toNat = (v j).toNat := h3; omega
      have hw := hi.2.1
      rw [hvv] at hw
      have hc := wlk_app hw _ _ _ hj.2.2.1
      have hL := hj.2.2.2 i (by omega)
      obtain ⟨j2, l2, q1, q2, q3⟩ := wlk_short hI ha n (i + (k - j)) _ (by omega) hc
      exact ⟨j2, l2, q1, by omega, q3⟩
/-- what a laying of ways must keep -/
def sndF (A : Mem) (ok : Int → Bool) (a : Int) (m : Int → Int) : Prop := ∀ t : Int, m t < 1000000 → ∃ k : Nat, wlk A ok k a t (m t)
def cmpF (A : Mem) (ok : Int → Bool) (a : Int) (n : Nat) (m : Int → Int) : Prop := ∀ (k : Nat) (t l : Int), k ≤ n → wlk A ok k a t l → m t ≤ l
theorem snd_init {A : Mem} {ok : Int → Bool} {a : Int} : sndF A ok a (initF a) := fun t ht => by
  unfold initF at *
  by_cases e : t = a
  · rw [if_pos e]; exact ⟨0, e.symm, rfl⟩
  · rw [if_neg e] at ht; omega
theorem cmp_init {A : Mem} {ok : Int → Bool} {a : Int} : cmpF A ok a 0 (initF a) := fun k t l hk h => by
  have : k = 0 := by omega
  subst this
  unfold initF
  rw [if_pos h.1.symm, h.2]; omega
/-- a round -/
def rndOK (A : Mem) (ok : Int → Bool) (a : Int) (R : (Int → Int) → (Int → Int)) : Prop :=
  ∀ m : Int → Int, okF m → (∀ t : Int, R m t ≤ m t) ∧ (∀ r x y : Int, 0 ≤ r → r < A 10 0 → ok r = true → jnR A r x y → R m y ≤ m x + A 13 r) ∧ (sndF A ok a m → sndF A ok a (R m))
theorem cmp_rnd {A : Mem} {ok : Int → Bool} {a : Int} {R : (Int → Int) → (Int → Int)} {m : Int → Int} {n : Nat} (hR : rndOK A ok a R) (ho : okF m) (h : cmpF A ok a n m) : cmpF A ok a (n + 1) (R m) := fun k t l hk hw => by
  obtain ⟨r1, r2, -⟩ := hR m ho
  by_cases e : k ≤ n
  · exact Int.le_trans (r1 t) (h k t l e hw)
  · cases k with
    | zero => omega
    | succ k =>
      obtain ⟨r, c, h1, h2, h3, h4⟩ := hw
      have q1 := r2 r c t h1.1 h1.2 h2 h3
      have q2 := h k c _ (by omega) h4
      omega
theorem snd_fup {A : Mem} {ok : Int → Bool} {a : Int} {m : Int → Int} {r x y : Int} (h : sndF A ok a m) (hr : 0 ≤ r ∧ r < A 10 0) (hl : 0 ≤ A 13 r) (ho : ok r = true) (hj : jnR A r x y) : sndF A ok a (fup m y (m x + A 13 r)) := fun t ht => by
  unfold fup at *
  by_cases e : t = y
  · rw [if_pos e] at ht ⊢
    obtain ⟨k, hk⟩ := h x (by omega)
    exact ⟨k + 1, by rw [e]; exact wlk_snoc hk hr ho hj⟩
  · rw [if_neg e] at ht ⊢; exact h t ht
theorem snd_min {A : Mem} {ok : Int → Bool} {a : Int} {m : Int → Int} {r x y : Int} (h : sndF A ok a m) (hr : 0 ≤ r ∧ r < A 10 0) (hl : 0 ≤ A 13 r) (ho : ok r = true) (hj : jnR A r x y) : sndF A ok a (fup m y (min (m y) (m x + A 13 r))) := by
  rcases (show min (m y) (m x + A 13 r) = m y ∨ min (m y) (m x + A 13 r) = m x + A 13 r by omega) with e | e
  · rw [e]
    intro t ht
    unfold fup at *
    by_cases e2 : t = y
    · subst e2; rw [if_pos rfl] at ht ⊢; exact h t ht
    · rw [if_neg e2] at ht ⊢; exact h t ht
  · rw [e]; exact snd_fup h hr hl ho hj
theorem fup_le {m : Int → Int} {i v : Int} (h : v ≤ m i) (t : Int) : fup m i v t ≤ m t := by
  unfold fup; split
  · rename_i e; rw [e]; exact h
  · exact Int.le_refl _
theorem relC_le {A : Mem} {m : Int → Int} {r : Int} (t : Int) : relC A m r t ≤ m t := by
  unfold relC
  exact Int.le_trans (fup_le (by omega) t) (fup_le (by omega) t)
theorem relC_rel {A : Mem} {m : Int → Int} {r x y : Int} (hI : InvA A) (hr : 0 ≤ r ∧ r < A 10 0) (hj : jnR A r x y) : relC A m r y ≤ m x + A 13 r := by
  have k := hI.2.1 r hr.1 hr.2
  unfold relC
  rcases hj with ⟨rfl, rfl⟩ | ⟨rfl, rfl⟩
  · rw [fup_self, fup_self]
    have : fup m (A 11 r) (min (m (A 11 r)) (m (A 12 r) + A 13 r)) (A 12 r) = m (A 12 r) := fup_ne (by omega)
    rw [this]; omega
  · refine Int.le_trans (fup_le (by omega) _) ?_
    rw [fup_self]; omega
theorem relM1_le {A : Mem} {m : Int → Int} {r : Int} (t : Int) : relM1 A m r t ≤ m t := by
  unfold relM1; split
  · exact fup_le (by omega) t
  · exact Int.le_refl _
theorem relM2_le {A : Mem} {m : Int → Int} {r : Int} (t : Int) : relM2 A m r t ≤ m t := by
  unfold relM2; split
  · exact fup_le (by omega) t
  · exact Int.le_refl _
theorem relM_rel {A : Mem} {m : Int → Int} {r x y : Int} (hj : jnR A r x y) : relM2 A (relM1 A m r) r y ≤ m x + A 13 r := by
  rcases hj with ⟨rfl, rfl⟩ | ⟨rfl, rfl⟩
  · refine Int.le_trans (relM2_le _) ?_
    unfold relM1; split
    · rw [fup_self]; exact Int.le_refl _
    · omega
  · have h1 := relM1_le (A := A) (m := m) (r := r) (A 12 r)
    unfold relM2; split
    · rw [fup_self]; omega
    · omega
theorem rndC_ok {A : Mem} {th wo a : Int} (hI : InvA A) : ∀ n : Nat, (n : Int) ≤ A 10 0 → ∀ m : Int → Int, (∀ t : Int, rndC A th wo m n t ≤ m t) ∧ (∀ r x y : Int, 0 ≤ r → r < n → okR A th wo r = true → jnR A r x y → rndC A th wo m n y ≤ m x + A 13 r) ∧ (sndF A (okR A th wo) a m → sndF A (okR A th wo) a (rndC A th wo m n))
  | 0, _, m => ⟨fun _ => Int.le_refl _, fun r x y h1 h2 => by omega, fun h => h⟩
  | n + 1, hn, m => by
    obtain ⟨i1, i2, i3⟩ := rndC_ok (th := th) (wo := wo) (a := a) hI n (by omega) m
    have hl := hI.2.1 (n : Int) (by omega) (by omega)
    by_cases ho : okR A th wo (n : Int) = true
    · have e : rndC A th wo m (n + 1) = relC A (rndC A th wo m n) (n : Int) := by show (if _ then _ else _) = _; rw [if_pos ho]
      rw [e]
      refine ⟨fun t => Int.le_trans (relC_le t) (i1 t), fun r x y h1 h2 h3 h4 => ?_, fun h => ?_⟩
      · by_cases e2 : r = n
        · subst e2
          have := relC_rel (m := rndC A th wo m n) hI (by omega) h4
          have := i1 x
          omega
        · exact Int.le_trans (relC_le y) (i2 r x y h1 (by omega) h3 h4)
      · unfold relC
        exact snd_min (snd_min (i3 h) (by omega) (by omega) ho (Or.inr ⟨rfl, rfl⟩)) (by omega) (by omega) ho (Or.inl ⟨rfl, rfl⟩)
    · have e : rndC A th wo m (n + 1) = rndC A th wo m n := by show (if _ then _ else _) = _; rw [if_neg ho]
      rw [e]
      refine ⟨i1, fun r x y h1 h2 h3 h4 => ?_, i3⟩
      by_cases e2 : r = n
      · subst e2; exact absurd h3 ho
      · exact i2 r x y h1 (by omega) h3 h4
theorem rndM_ok {A : Mem} {th wo a : Int} (hI : InvA A) : ∀ n : Nat, (n : Int) ≤ A 10 0 → ∀ m : Int → Int, (∀ t : Int, rndM A th wo m n t ≤ m t) ∧ (∀ r x y : Int, 0 ≤ r → r < n → okR A th wo r = true → jnR A r x y → rndM A th wo m n y ≤ m x + A 13 r) ∧ (sndF A (okR A th wo) a m → sndF A (okR A th wo) a (rndM A th wo m n))
  | 0, _, m => ⟨fun _ => Int.le_refl _, fun r x y h1 h2 => by omega, fun h => h⟩
  | n + 1, hn, m => by
    obtain ⟨i1, i2, i3⟩ := rndM_ok (th := th) (wo := wo) (a := a) hI n (by omega) m
    have hl := hI.2.1 (n : Int) (by omega) (by omega)
    by_cases ho : okR A th wo (n : Int) = true
    · have e : rndM A th wo m (n + 1) = relM2 A (relM1 A (rndM A th wo m n) (n : Int)) (n : Int) := by show (if _ then _ else _) = _; rw [if_pos ho]
      rw [e]
      refine ⟨fun t => Int.le_trans (relM2_le t) (Int.le_trans (relM1_le t) (i1 t)), fun r x y h1 h2 h3 h4 => ?_, fun h => ?_⟩
      · by_cases e2 : r = n
        · subst e2
          have := relM_rel (m := rndM A th wo m n) h4
          have := i1 x
          omega
        · exact Int.le_trans (Int.le_trans (relM2_le y) (relM1_le y)) (i2 r x y h1 (by omega) h3 h4)
      · have h1 : sndF A (okR A th wo) a (relM1 A (rndM A th wo m n) (n : Int)) := by
          unfold relM1; split
          · exact snd_fup (i3 h) (by omega) (by omega) ho (Or.inl ⟨rfl, rfl⟩)
          · exact i3 h
        unfold relM2; split
        · exact snd_fup h1 (by omega) (by omega) ho (Or.inr ⟨rfl, rfl⟩)
        · exact h1
    · have e : rndM A th wo m (n + 1) = rndM A th wo m n := by show (if _ then _ else _) = _; rw [if_neg ho]
      rw [e]
      refine ⟨i1, fun r x y h1 h2 h3 h4 => ?_, i3⟩
      by_cases e2 : r = n
      · subst e2; exact absurd h3 ho
      · exact i2 r x y h1 (by omega) h3 h4
theorem sprC_ok {A : Mem} {th wo a : Int} (hI : InvA A) : ∀ k : Nat, sndF A (okR A th wo) a (sprC A th wo a k) ∧ cmpF A (okR A th wo) a k (sprC A th wo a k)
  | 0 => ⟨snd_init, cmp_init⟩
  | k + 1 => by
    obtain ⟨i1, i2⟩ := sprC_ok (th := th) (wo := wo) (a := a) hI k
    have hc := hI.1
    have hn : (((A 10 0).toNat : Nat) : Int) = A 10 0 := by omega
    have hR : rndOK A (okR A th wo) a (fun m => rndC A th wo m (A 10 0).toNat) := fun m _ => by
      obtain ⟨q1, q2, q3⟩ := rndC_ok (th := th) (wo := wo) (a := a) hI (A 10 0).toNat (by omega) m
      exact ⟨q1, fun r x y h1 h2 => q2 r x y h1 (by omega), q3⟩
    exact ⟨(hR _ (okF_sprC hI k)).2.2 i1, cmp_rnd hR (okF_sprC hI k) i2⟩
theorem sprM_ok {A : Mem} {th wo a : Int} (hI : InvA A) : ∀ k : Nat, sndF A (okR A th wo) a (sprM A th wo a k) ∧ cmpF A (okR A th wo) a k (sprM A th wo a k)
  | 0 => ⟨snd_init, cmp_init⟩
  | k + 1 => by
    obtain ⟨i1, i2⟩ := sprM_ok (th := th) (wo := wo) (a := a) hI k
    have hc := hI.1
    have hR : rndOK A (okR A th wo) a (fun m => rndM A th wo m (A 10 0).toNat) := fun m _ => by
      obtain ⟨q1, q2, q3⟩ := rndM_ok (th := th) (wo := wo) (a := a) hI (A 10 0).toNat (by omega) m
      exact ⟨q1, fun r x y h1 h2 => q2 r x y h1 (by omega), q3⟩
    exact ⟨(hR _ (okF_sprM hI k)).2.2 i1, cmp_rnd hR (okF_sprM hI k) i2⟩
theorem cmp_all {A : Mem} {ok : Int → Bool} {a : Int} {m : Int → Int} {n : Nat} (hI : InvA A) (ha : 0 ≤ a ∧ a ≤ 7) (hn : 7 ≤ n) (h : cmpF A ok a n m) (k : Nat) (t l : Int) (hw : wlk A ok k a t l) : m t ≤ l := by
  obtain ⟨j, l', h1, h2, h3⟩ := wlk_short hI ha k k l (Nat.le_refl _) hw
  exact Int.le_trans (h j t l' (by omega) h3) h2
theorem dst_uniq {A : Mem} {ok : Int → Bool} {a : Int} {m m' : Int → Int} (hs : sndF A ok a m) (hs' : sndF A ok a m') (ho : okF m) (ho' : okF m') (hc : ∀ (k : Nat) (t l : Int), wlk A ok k a t l → m t ≤ l) (hc' : ∀ (k : Nat) (t l : Int), wlk A ok k a t l → m' t ≤ l) (t : Int) : m t = m' t := by
  have o1 := ho t
  have o2 := ho' t
  by_cases h1 : m t < 1000000
  · obtain ⟨k, hk⟩ := hs t h1
    have := hc' k t _ hk
    by_cases h2 : m' t < 1000000
    · obtain ⟨k2, hk2⟩ := hs' t h2
      have := hc k2 t _ hk2
      omega
    · omega
  · by_cases h2 : m' t < 1000000
    · obtain ⟨k2, hk2⟩ := hs' t h2
      have := hc k2 t _ hk2
      omega
    · omega
/-- how far it is -/
def dst (A : Mem) (th wo a b : Int) : Int := sprC A th wo a 7 b
theorem dst_r {A : Mem} {th wo a b : Int} (hI : InvA A) : 0 ≤ dst A th wo a b ∧ dst A th wo a b ≤ 1000000 := okF_sprC hI 7 b
theorem dst_snd {A : Mem} {th wo a b : Int} (hI : InvA A) (h : dst A th wo a b < 1000000) : ∃ k : Nat, wlk A (okR A th wo) k a b (dst A th wo a b) := (sprC_ok hI 7).1 b h
theorem dst_le {A : Mem} {th wo a b l : Int} {k : Nat} (hI : InvA A) (ha : 0 ≤ a ∧ a ≤ 7) (h : wlk A (okR A th wo) k a b l) : dst A th wo a b ≤ l := cmp_all hI ha (Nat.le_refl 7) (sprC_ok hI 7).2 k b l h
theorem dst_lt {A : Mem} {th wo a b l : Int} {k : Nat} (hI : InvA A) (ha : 0 ≤ a ∧ a ≤ 7) (h : wlk A (okR A th wo) k a b l) : dst A th wo a b ≤ 63 := by
  obtain ⟨j, l', h1, h2, h3⟩ := wlk_short hI ha k k l (Nat.le_refl _) h
  have := wlk_len hI j a b l' h3
  have := dst_le hI ha h3
  omega
theorem dst_M {A : Mem} {th wo a b : Int} (hI : InvA A) (ha : 0 ≤ a ∧ a ≤ 7) : sprM A th wo a 8 b = dst A th wo a b :=
  dst_uniq (sprM_ok hI 8).1 (sprC_ok hI 7).1 (okF_sprM hI 8) (okF_sprC hI 7) (cmp_all hI ha (by omega) (sprM_ok hI 8).2) (cmp_all hI ha (Nat.le_refl 7) (sprC_ok hI 7).2) b
theorem dst_sm {A : Mem} {th wo a b : Int} (hI : InvA A) (ha : 0 ≤ a ∧ a ≤ 7) (hb : 0 ≤ b ∧ b ≤ 7) : dst A th wo a b = dst A th wo b a := by
  have h1 := dst_r (th := th) (wo := wo) (a := a) (b := b) hI
  have h2 := dst_r (th := th) (wo := wo) (a := b) (b := a) hI
  by_cases q1 : dst A th wo a b < 1000000
  · obtain ⟨k, hk⟩ := dst_snd hI q1
    have := dst_le hI hb (wlk_rev k _ _ _ hk)
    obtain ⟨k2, hk2⟩ := dst_snd (th := th) (wo := wo) (a := b) (b := a) hI (by omega)
    have := dst_le hI ha (wlk_rev k2 _ _ _ hk2)
    omega
  · by_cases q2 : dst A th wo b a < 1000000
    · obtain ⟨k2, hk2⟩ := dst_snd hI q2
      have := dst_le hI ha (wlk_rev k2 _ _ _ hk2)
      omega
    · omega
def rch (A : Mem) (ok : Int → Bool) (a b : Int) : Prop := ∃ (k : Nat) (l : Int), wlk A ok k a b l
theorem rch.rf {A : Mem} {ok : Int → Bool} (a : Int) : rch A ok a a := ⟨0, 0, rfl, rfl⟩
theorem rch.sm {A : Mem} {ok : Int → Bool} {a b : Int} (h : rch A ok a b) : rch A ok b a := by
  obtain ⟨k, l, h⟩ := h; exact ⟨k, l, wlk_rev k a b l h⟩
theorem rch.tr {A : Mem} {ok : Int → Bool} {a b c : Int} (h : rch A ok a b) (h2 : rch A ok b c) : rch A ok a c := by
  obtain ⟨k, l, h⟩ := h; obtain ⟨k2, l2, h2⟩ := h2; exact ⟨k + k2, l + l2, wlk_app h k2 c l2 h2⟩
theorem rch.edge {A : Mem} {ok : Int → Bool} {r x y : Int} (hr : 0 ≤ r ∧ r < A 10 0) (ho : ok r = true) (hj : jnR A r x y) : rch A ok x y := ⟨1, _, wlk_snoc (l := 0) ⟨rfl, rfl⟩ hr ho hj⟩
theorem rch.mono {A : Mem} {ok ok' : Int → Bool} {a b : Int} (h : rch A ok a b) (hm : ∀ r : Int, 0 ≤ r → r < A 10 0 → ok r = true → ok' r = true) : rch A ok' a b := by
  obtain ⟨k, l, h⟩ := h; exact ⟨k, l, wlk_mono hm k a b l h⟩
theorem dst_rch {A : Mem} {th wo a b : Int} (hI : InvA A) (ha : 0 ≤ a ∧ a ≤ 7) : dst A th wo a b < 1000000 ↔ rch A (okR A th wo) a b := by
  constructor
  · intro h; obtain ⟨k, hk⟩ := dst_snd hI h; exact ⟨k, _, hk⟩
  · intro h; obtain ⟨k, l, hk⟩ := h; have := dst_lt hI ha hk; omega
