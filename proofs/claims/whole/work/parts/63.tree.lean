/-! THE TREE -/
def addT (T : Int → Bool) (r : Int) : Int → Bool := fun q => T q || decide (q = r)
theorem rch_add {A : Mem} {T : Int → Bool} {r p q : Int} (hr : 0 ≤ r ∧ r < A 10 0) (hj : jnR A r p q) {x y : Int} : rch A (addT T r) x y ↔ (rch A T x y ∨ (rch A T x p ∧ rch A T q y) ∨ (rch A T x q ∧ rch A T p y)) := by
  constructor
  · intro ⟨k, l, h⟩
    induction k generalizing y l with
    | zero => rw [h.1]; exact Or.inl (rch.rf _)
    | succ k ih =>
      obtain ⟨r2, c, h1, h2, h3, h4⟩ := h
      have ihc := ih _ h4
      by_cases e : T r2 = true
      · have ed : rch A T c y := rch.edge h1 e h3
        rcases ihc with q1 | q1 | q1
        · exact Or.inl (q1.tr ed)
        · exact Or.inr (Or.inl ⟨q1.1, q1.2.tr ed⟩)
        · exact Or.inr (Or.inr ⟨q1.1, q1.2.tr ed⟩)
      · have er : r2 = r := by
          have h2 : (T r2 || decide (r2 = r)) = true := h2
          rw [Bool.or_eq_true] at h2
          rcases h2 with h2 | h2
          · exact absurd h2 e
          · exact of_decide_eq_true h2
        subst er
        have hcy : (c = p ∧ y = q) ∨ (c = q ∧ y = p) := by
          unfold jnR at h3 hj
          omega
        rcases hcy with ⟨rfl, rfl⟩ | ⟨rfl, rfl⟩
        · rcases ihc with q1 | q1 | q1
          · exact Or.inr (Or.inl ⟨q1, rch.rf _⟩)
          · exact Or.inr (Or.inl ⟨q1.1, rch.rf _⟩)
          · exact Or.inl q1.1
        · rcases ihc with q1 | q1 | q1
          · exact Or.inr (Or.inr ⟨q1, rch.rf _⟩)
          · exact Or.inl q1.1
          · exact Or.inr (Or.inr ⟨q1.1, rch.rf _⟩)
  · have hm : ∀ {a b : Int}, rch A T a b → rch A (addT T r) a b := fun h => h.mono (fun z _ _ hz => by show (T z || _) = true; rw [hz]; rfl)
    have he : rch A (addT T r) p q := rch.edge hr (by show (T r || decide (r = r)) = true; rw [decide_eq_true rfl, Bool.or_true]) hj
    rintro (h | h | h)
    · exact hm h
    · exact ((hm h.1).tr he).tr (hm h.2)
    · exact ((hm h.1).tr he.sm).tr (hm h.2)
noncomputable def trStep (A : Mem) (T L r : Int) : Int := if (netB A r && (decide (A 13 r = L) && !rchB A (tbt T) (A 11 r) (A 12 r))) = true then bOr T (bShl 1 r) else T
noncomputable def trR (A : Mem) (L T : Int) : Nat → Int
  | 0 => T
  | n + 1 => trStep A (trR A L T n) L (n : Int)
noncomputable def trL (A : Mem) : Nat → Int
  | 0 => 0
  | k + 1 => trR A ((k : Int) + 1) (trL A k) (A 10 0).toNat
noncomputable def treeS (A : Mem) : Int := trL A 9
def okTs (A : Mem) (T : Int) : Prop := (0 ≤ T ∧ T < 65536) ∧ ∀ r : Int, 0 ≤ r → tbt T r = true → r < A 10 0 ∧ netB A r = true
theorem tbt_add {T r : Int} (hT : 0 ≤ T ∧ T < 65536) (hr : 0 ≤ r ∧ r < 16) : (0 ≤ bOr T (bShl 1 r) ∧ bOr T (bShl 1 r) < 65536) ∧ ∀ q : Int, 0 ≤ q → tbt (bOr T (bShl 1 r)) q = addT (tbt T) r q := by
  have s1 := (tb_shl (k := r) (t := 0) hr (by omega)).1
  exact ⟨(tb_or (t := 0) hT s1).1, fun q hq => by rw [(tb_or (t := q) hT s1).2, (tb_shl hr hq).2]; rfl⟩
theorem rch_ext {A : Mem} {T T' : Int → Bool} (h : ∀ r : Int, 0 ≤ r → r < A 10 0 → T r = T' r) {x y : Int} : rch A T x y ↔ rch A T' x y :=
  ⟨fun q => q.mono (fun r a b c => by rw [← h r a b]; exact c), fun q => q.mono (fun r a b c => by rw [h r a b]; exact c)⟩
theorem trStep_ok {A : Mem} {T L r : Int} (hI : InvA A) (h : okTs A T) (hr : 0 ≤ r ∧ r < A 10 0) : okTs A (trStep A T L r) := by
  unfold trStep
  split
  · rename_i hc
    rw [Bool.and_eq_true] at hc
    have hc10 := hI.1
    obtain ⟨a1, a2⟩ := tbt_add h.1 (r := r) (by omega)
    refine ⟨a1, fun q q0 hq => ?_⟩
    rw [a2 q q0] at hq
    have hq : (tbt T q || decide (q = r)) = true := hq
    rw [Bool.or_eq_true] at hq
    rcases hq with hq | hq
    · exact h.2 q q0 hq
    · rw [of_decide_eq_true hq]; exact ⟨hr.2, hc.1⟩
  · exact h
theorem trR_ok {A : Mem} {L T : Int} (hI : InvA A) (h : okTs A T) : ∀ n : Nat, (n : Int) ≤ A 10 0 → okTs A (trR A L T n)
  | 0, _ => h
  | n + 1, hn => trStep_ok hI (trR_ok hI h n (by omega)) (by omega)
theorem trL_ok {A : Mem} (hI : InvA A) : ∀ k : Nat, okTs A (trL A k)
  | 0 => ⟨by show (0 : Int) ≤ 0 ∧ (0 : Int) < 65536; omega, fun r _ h => by have h : tbt 0 r = true := h; unfold tbt at h; simp at h⟩
  | k + 1 => trR_ok hI (trL_ok hI k) _ (by have := hI.1; omega)
/-- members -/
theorem trStep_mono {A : Mem} {T L r q : Int} (h : okTs A T) (hr : 0 ≤ r ∧ r < 16) (q0 : 0 ≤ q) (hq : tbt T q = true) : tbt (trStep A T L r) q = true := by
  unfold trStep
  split
  · rw [(tbt_add h.1 hr).2 q q0]; show (tbt T q || _) = true; rw [hq]; rfl
  · exact hq
theorem trR_spans {A : Mem} {L T : Int} (hI : InvA A) (h : okTs A T) : ∀ n : Nat, (n : Int) ≤ A 10 0 → (∀ q : Int, 0 ≤ q → tbt T q = true → tbt (trR A L T n) q = true) ∧ ∀ r : Int, 0 ≤ r → r < n → netB A r = true → A 13 r = L → rch A (tbt (trR A L T n)) (A 11 r) (A 12 r)
  | 0, _ => ⟨fun _ _ h => h, fun r h0 h1 => by omega⟩
  | n + 1, hn => by
    obtain ⟨i1, i2⟩ := trR_spans hI h n (by omega)
    have hok := trR_ok (L := L) hI h n (by omega)
    have hc := hI.1
    have hmono : ∀ q : Int, 0 ≤ q → tbt (trR A L T n) q = true → tbt (trR A L T (n + 1)) q = true := fun q q0 hq => trStep_mono hok (by omega) q0 hq
    refine ⟨fun q q0 hq => hmono q q0 (i1 q q0 hq), fun r r0 r1 hn2 hL => ?_⟩
    by_cases e : r = n
    · subst e
      show rch A (tbt (trStep A (trR A L T n) L (n : Int))) _ _
      unfold trStep
      by_cases hrch : rch A (tbt (trR A L T n)) (A 11 (n : Int)) (A 12 (n : Int))
      · rw [if_neg (by rw [rchB_t.mpr hrch]; simp)]; exact hrch
      · have : rchB A (tbt (trR A L T n)) (A 11 (n : Int)) (A 12 (n : Int)) = false := by
          cases hb : rchB A (tbt (trR A L T n)) (A 11 (n : Int)) (A 12 (n : Int)) with
          | false => rfl
          | true => exact absurd (rchB_t.mp hb) hrch
        rw [if_pos (by rw [hn2, decide_eq_true hL, this]; rfl)]
        refine rch.edge ⟨r0, by omega⟩ ?_ (Or.inl ⟨rfl, rfl⟩)
        rw [(tbt_add hok.1 (by omega)).2 _ r0]
        show (_ || decide ((n : Int) = (n : Int))) = true
        rw [decide_eq_true rfl, Bool.or_true]
    · exact (i2 r r0 (by omega) hn2 hL).mono (fun q a _ hq => hmono q a hq)
theorem trL_spans {A : Mem} (hI : InvA A) : ∀ k : Nat, ∀ r : Int, 0 ≤ r → r < A 10 0 → netB A r = true → A 13 r ≤ k → rch A (tbt (trL A k)) (A 11 r) (A 12 r)
  | 0, r, h0, h1, _, hl => by have := hI.2.1 r h0 h1; omega
  | k + 1, r, h0, h1, hn, hl => by
    have hc := hI.1
    obtain ⟨i1, i2⟩ := trR_spans (L := (k : Int) + 1) hI (trL_ok hI k) (A 10 0).toNat (by omega)
    by_cases e : A 13 r = (k : Int) + 1
    · exact i2 r h0 (by omega) hn e
    · exact (trL_spans hI k r h0 h1 hn (by omega)).mono (fun q a _ hq => i1 q a hq)
/-- the tree joins what the net joins -/
theorem tree_rch {A : Mem} (hI : InvA A) {x y : Int} : rch A (tbt (treeS A)) x y ↔ rch A (netB A) x y := by
  have hok := trL_ok hI 9
  constructor
  · exact fun h => h.mono (fun r a _ c => (hok.2 r a c).2)
  · intro ⟨k, l, h⟩
    induction k generalizing y l with
    | zero => rw [h.1]; exact rch.rf _
    | succ k ih =>
      obtain ⟨r, c, h1, h2, h3, h4⟩ := h
      have hs := trL_spans hI 9 r h1.1 h1.2 h2 (by have := hI.2.1 r h1.1 h1.2; omega)
      refine (ih _ h4).tr ?_
      rcases h3 with ⟨q1, q2⟩ | ⟨q1, q2⟩
      · rw [← q1, ← q2]; exact hs
      · rw [← q1, ← q2]; exact hs.sm
/-! COUNTING -/
def cntN (f : Nat → Bool) : Nat → Int
  | 0 => 0
  | n + 1 => cntN f n + (if f n = true then 1 else 0)
theorem cntN_r (f : Nat → Bool) : ∀ n : Nat, 0 ≤ cntN f n ∧ cntN f n ≤ n
  | 0 => by simp [cntN]
  | n + 1 => by have := cntN_r f n; unfold cntN; split <;> omega
theorem cntN_congr {f g : Nat → Bool} : ∀ n : Nat, (∀ t, t < n → f t = g t) → cntN f n = cntN g n
  | 0, _ => rfl
  | n + 1, h => by unfold cntN; rw [cntN_congr n (fun t ht => h t (by omega)), h n (by omega)]
theorem cntN_less {f g : Nat → Bool} {b : Nat} (hfb : f b = true) (hgb : g b = false) (h : ∀ t, t ≠ b → g t = f t) : ∀ n : Nat, b < n → cntN f n = cntN g n + 1
  | 0, hb => by omega
  | n + 1, hb => by
    unfold cntN
    by_cases e : n = b
    · subst e
      rw [hfb, hgb, cntN_congr n (fun t ht => (h t (by omega)).symm)]; simp
    · rw [cntN_less hfb hgb h n (by omega), h n e]; omega
theorem cntN_zero {f : Nat → Bool} : ∀ n : Nat, (∀ t, t < n → f t = false) → cntN f n = 0
  | 0, _ => rfl
  | n + 1, h => by unfold cntN; rw [cntN_zero n (fun t ht => h t (by omega)), h n (by omega)]; simp
theorem cntN_one {f : Nat → Bool} {a : Nat} (ha : f a = true) (hu : ∀ t, f t = true → t = a) {n : Nat} (hn : a < n) : cntN f n = 1 := by
  have := cntN_less (f := f) (g := fun _ => false) (b := a) ha rfl (fun t ht => by
    cases hf : f t with
    | false => rfl
    | true => exact absurd (hu t hf) ht) n hn
  rw [this, cntN_zero n (fun _ _ => rfl)]; omega
theorem cntN_two {f : Nat → Bool} {a b n : Nat} (ha : f a = true) (hb : f b = true) (hab : a ≠ b) (h1 : a < n) (h2 : b < n) : 2 ≤ cntN f n := by
  have e1 := cntN_less (f := f) (g := fun t => f t && !decide (t = a)) (b := a) ha (by simp) (fun t ht => by simp [ht]) n h1
  have e2 := cntN_less (f := fun t => f t && !decide (t = a)) (g := fun t => (f t && !decide (t = a)) && !decide (t = b)) (b := b) (by simp [hb, Ne.symm hab]) (by simp) (fun t ht => by simp [ht]) n h2
  have := cntN_r (fun t => (f t && !decide (t = a)) && !decide (t = b)) n
  omega
/-- t is the lowest town of its piece -/
noncomputable def minB (A : Mem) (T : Int → Bool) (t : Nat) : Bool := @decide (∀ u : Nat, u < t → ¬ rch A T (u : Int) (t : Int)) (Classical.propDecidable _)
theorem minB_t {A : Mem} {T : Int → Bool} {t : Nat} : minB A T t = true ↔ ∀ u : Nat, u < t → ¬ rch A T (u : Int) (t : Int) := by
  unfold minB; exact @decide_eq_true_iff _ (Classical.propDecidable _)
theorem min_ex {A : Mem} {T : Int → Bool} : ∀ (n p : Nat), p ≤ n → ∃ a : Nat, a ≤ p ∧ rch A T (a : Int) (p : Int) ∧ minB A T a = true
  | 0, p, h => ⟨p, Nat.le_refl _, rch.rf _, minB_t.mpr (fun u hu => by omega)⟩
  | n + 1, p, h => by
    by_cases hm : minB A T p = true
    · exact ⟨p, Nat.le_refl _, rch.rf _, hm⟩
    · have : ∃ u : Nat, u < p ∧ rch A T (u : Int) (p : Int) := by
        apply Classical.byContradiction
        intro hne
        exact hm (minB_t.mpr (fun u hu hr => hne ⟨u, hu, hr⟩))
      obtain ⟨u, hu, hr⟩ := this
      obtain ⟨a, h1, h2, h3⟩ := min_ex (A := A) (T := T) n u (by omega)
      exact ⟨a, by omega, h2.tr hr, h3⟩
theorem min_uniq {A : Mem} {T : Int → Bool} {a b : Nat} (ha : minB A T a = true) (hb : minB A T b = true) (h : rch A T (a : Int) (b : Int)) : a = b := by
  rcases Nat.lt_trichotomy a b with q | q | q
  · exact absurd h (minB_t.mp hb a q)
  · exact q
  · exact absurd h.sm (minB_t.mp ha b q)
theorem mins_add {A : Mem} {T T' : Int → Bool} {r p q : Int} (hr : 0 ≤ r ∧ r < A 10 0) (hj : jnR A r p q) (hT' : ∀ z : Int, 0 ≤ z → z < A 10 0 → T' z = addT T r z) (hp : 0 ≤ p ∧ p ≤ 7) (hq : 0 ≤ q ∧ q ≤ 7) (hno : ¬ rch A T p q) : cntN (minB A T) 8 = cntN (minB A T') 8 + 1 := by
  have hadd : ∀ x y : Int, rch A T' x y ↔ (rch A T x y ∨ (rch A T x p ∧ rch A T q y) ∨ (rch A T x q ∧ rch A T p y)) := fun x y => by rw [rch_ext hT']; exact rch_add hr hj
  obtain ⟨a, a1, a2, a3⟩ := min_ex (A := A) (T := T) p.toNat p.toNat (Nat.le_refl _)
  obtain ⟨b, b1, b2, b3⟩ := min_ex (A := A) (T := T) q.toNat q.toNat (Nat.le_refl _)
  rw [show ((p.toNat : Nat) : Int) = p by omega] at a2
  rw [show ((q.toNat : Nat) : Int) = q by omega] at b2
  have hab : a ≠ b := fun e => by subst e; exact hno (a2.sm.tr b2)
  -- the greater of the two is lowest no longer
  have key : ∀ (x y : Nat) (P Q : Int), x < y → y < 8 → rch A T (x : Int) P → rch A T (y : Int) Q → minB A T x = true → minB A T y = true → (∀ u v : Int, rch A T' u v ↔ (rch A T u v ∨ (rch A T u P ∧ rch A T Q v) ∨ (rch A T u Q ∧ rch A T P v))) → cntN (minB A T) 8 = cntN (minB A T') 8 + 1 := by
    intro x y P Q hxy hy8 hx hy hmx hmy hadd
    refine cntN_less (b := y) hmy ?_ (fun t ht => ?_) 8 hy8
    · cases hm : minB A T' y with
      | false => rfl
      | true =>
        exfalso
        exact minB_t.mp hm x hxy ((hadd _ _).mpr (Or.inr (Or.inl ⟨hx, hy.sm⟩)))
    · cases hm : minB A T t with
      | true =>
        refine minB_t.mpr (fun u hu hru => ?_)
        rcases (hadd _ _).mp hru with z | z | z
        · exact minB_t.mp hm u hu z
        · exact ht (min_uniq hm hmy (z.2.sm.tr hy.sm))
        · have etx := min_uniq hm hmx (z.2.sm.tr hx.sm)
          subst etx
          have huy : u < y := by omega
          exact minB_t.mp hmy u huy (z.1.tr hy.sm)
      | false =>
        cases hm2 : minB A T' t with
        | false => rfl
        | true =>
          exfalso
          have : minB A T t = true := minB_t.mpr (fun u hu hru => minB_t.mp hm2 u hu ((hadd _ _).mpr (Or.inl hru)))
          rw [hm] at this; cases this
  rcases Nat.lt_trichotomy a b with h | h | h
  · exact key a b p q h (by omega) a2 b2 a3 b3 hadd
  · exact absurd h hab
  · refine key b a q p h (by omega) b2 a2 b3 a3 (fun u v => ?_)
    rw [hadd u v]
    constructor
    · rintro (z | z | z)
      · exact Or.inl z
      · exact Or.inr (Or.inr z)
      · exact Or.inr (Or.inl z)
    · rintro (z | z | z)
      · exact Or.inl z
      · exact Or.inr (Or.inr z)
      · exact Or.inr (Or.inl z)
theorem pcN_or : ∀ (k n r : Nat), r < k → n.testBit r = false → pcN k (n ||| 2 ^ r) = pcN k n + 1
  | 0, n, r, h, _ => by omega
  | k + 1, n, 0, _, hb => by
    unfold pcN
    rw [Nat.testBit_zero] at hb
    have hm : n % 2 = 0 := by have := of_decide_eq_false hb; omega
    have h1 := Nat.or_div_two (a := n) (b := 2 ^ 0)
    have h2 : (n ||| 2 ^ 0) % 2 = 1 := Nat.or_mod_two_eq_one.mpr (Or.inr rfl)
    rw [h1, h2, hm, show (2 : Nat) ^ 0 / 2 = 0 from rfl, Nat.or_zero]; omega
  | k + 1, n, r + 1, hr, hb => by
    unfold pcN
    have h1 := Nat.or_div_two (a := n) (b := 2 ^ (r + 1))
    have e2 : (2 : Nat) ^ (r + 1) / 2 = 2 ^ r := by rw [Nat.pow_succ]; omega
    have h2 : (n ||| 2 ^ (r + 1)) % 2 = n % 2 := by
      have e3 : (2 : Nat) ^ (r + 1) % 2 = 0 := by rw [Nat.pow_succ]; omega
      have := Nat.or_mod_two_eq_one (a := n) (b := 2 ^ (r + 1))
      omega
    rw [h1, h2, e2, pcN_or k (n / 2) r (by omega) (by rw [← Nat.testBit_succ]; exact hb)]; omega
theorem pc_add {T r : Int} (hT : 0 ≤ T ∧ T < 65536) (hr : 0 ≤ r ∧ r < 16) (hno : tbt T r = false) : pcS (bOr T (bShl 1 r)) = pcS T + 1 := by
  obtain ⟨n, rfl⟩ : ∃ n : Nat, T = n := ⟨T.toNat, by omega⟩
  obtain ⟨k, rfl⟩ : ∃ k : Nat, r = k := ⟨r.toNat, by omega⟩
  rw [bShl1 (by omega) (by omega), Int.toNat_natCast]
  have e : ((2 : Int) ^ k) = ((2 ^ k : Nat) : Int) := by push_cast; rfl
  have hl : (2 : Nat) ^ k < 2 ^ 16 := Nat.pow_lt_pow_right (by omega) (by omega)
  rw [e, bOr_nat (by omega) (by omega)]
  unfold pcS
  unfold tbt at hno
  rw [Int.toNat_natCast, Int.toNat_natCast] at hno
  rw [Int.toNat_natCast, Int.toNat_natCast, pcN_or 16 n k (by omega) hno]; omega
