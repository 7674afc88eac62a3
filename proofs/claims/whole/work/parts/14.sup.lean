/-! SUPPORT: small facts that the printed walks use. -/
theorem rL (n : Int) (h : decide (-2147483648 ≤ n ∧ n ≤ 2147483647) = true) : R32 n := (of_decide_eq_true h : -2147483648 ≤ n ∧ n ≤ 2147483647)
theorem rLL (n : Int) (h : decide (-9223372036854775808 ≤ n ∧ n ≤ 9223372036854775807) = true) : R64 n := (of_decide_eq_true h : -9223372036854775808 ≤ n ∧ n ≤ 9223372036854775807)
theorem r32_max {a b : Int} (ha : R32 a) (hb : R32 b) : R32 (max a b) := by unfold R32 at *; omega
theorem r32_min {a b : Int} (ha : R32 a) (hb : R32 b) : R32 (min a b) := by unfold R32 at *; omega
theorem r64_max {a b : Int} (ha : R64 a) (hb : R64 b) : R64 (max a b) := by unfold R64 at *; omega
theorem r64_min {a b : Int} (ha : R64 a) (hb : R64 b) : R64 (min a b) := by unfold R64 at *; omega
theorem r01 {x : Int} (h : x = 0 ∨ x = 1) : R32 x := by unfold R32; omega
theorem bI_ne {p : Prop} [Decidable p] (h : bI p ≠ 0) : p := by
  by_cases hp : p
  · exact hp
  · exact absurd ((bI_0 p).mpr hp) h
theorem mset_self (σ : Mem) (p : Nat) (i v : Int) : mset σ p i v p i = v := by unfold mset; rw [if_pos ⟨rfl, rfl⟩]
theorem mset_at (σ : Mem) (p q : Nat) (i j v : Int) : mset σ p i v q j = if q = p ∧ j = i then v else σ q j := rfl
theorem fa_i {σ : Mem} {p k n : Nat} {v : Int} (h : σ p (k : Int) = v) : fa σ p k (0, n) = aI v := by show aI _ = aI v; rw [h]
theorem fa_z {σ : Mem} {p k n : Nat} {v : Int} (h : σ p (k : Int) = v) : fa σ p k (5, n) = aI v := by show aI _ = aI v; rw [h]
theorem fa_l {σ : Mem} {p k n : Nat} {v : Int} (h : σ p (k : Int) = v) : fa σ p k (1, n) = aL v := by show aL _ = aL v; rw [h]
theorem fa_r {σ : Mem} {p k n t : Nat} (ht : 0 < t) : fa (mset σ p (k : Int) (t : Int)) p k (4, n) = aR t := by
  show (if mset σ p (k : Int) (t : Int) p (k : Int) = 0 then aN else aR (mset σ p (k : Int) (t : Int) p (k : Int)).toNat) = aR t
  rw [mset_self, if_neg (by omega)]
  rfl
def isText (t : Nat) : Prop := t = 54 ∨ t = 59 ∨ t = 64 ∨ t = 69
def isRow (t : Nat) : Prop := t = 47 ∨ t = 48
theorem shT {t : Nat} (h : isText t) : shp t = (0, 9, [(3, 1), (3, 2), (0, 0), (0, 0), (0, 0), (0, 0), (0, 0), (3, 3), (3, 4), (0, 0)]) := by rcases h with rfl | rfl | rfl | rfl <;> rfl
theorem shT1 {t : Nat} (h : isText t) : shp (t + 1) = (1, 300, []) := by rcases h with rfl | rfl | rfl | rfl <;> rfl
theorem shT2 {t : Nat} (h : isText t) : shp (t + 2) = (1, 300, []) := by rcases h with rfl | rfl | rfl | rfl <;> rfl
theorem shT3 {t : Nat} (h : isText t) : shp (t + 3) = (1, 24, []) := by rcases h with rfl | rfl | rfl | rfl <;> rfl
theorem shT4 {t : Nat} (h : isText t) : shp (t + 4) = (1, 96, []) := by rcases h with rfl | rfl | rfl | rfl <;> rfl
theorem ltT {t : Nat} (h : isText t) (k : Nat) (hk : k < 5) : t + k < 93 := by unfold isText at h; omega
theorem posT {t : Nat} (h : isText t) : 0 < t := by unfold isText at h; omega
theorem rT {t : Nat} (h : isText t) : R32 (t : Int) := by unfold isText at h; unfold R32; omega
theorem lgT {t : Nat} (h : isText t) (j : Nat) : isLg t (j : Int) = false := by
  unfold isLg
  rw [shT h]
  rcases Nat.lt_or_ge j 10 with hj | hj
  · have : ∀ j : Nat, j < 10 → ((((0, 9, [(3, 1), (3, 2), (0, 0), (0, 0), (0, 0), (0, 0), (0, 0), (3, 3), (3, 4), (0, 0)]) : Sh).1 == 2 || (((0, 9, [(3, 1), (3, 2), (0, 0), (0, 0), (0, 0), (0, 0), (0, 0), (3, 3), (3, 4), (0, 0)]) : Sh).1 == 0 && ((((0, 9, [(3, 1), (3, 2), (0, 0), (0, 0), (0, 0), (0, 0), (0, 0), (3, 3), (3, 4), (0, 0)]) : Sh).2.2.getD ((j : Int).toNat) (0, 0)).1 == 1))) = false) := by decide
    exact this j hj
  · simp [List.getD, List.getElem?_eq_none (show ([(3, 1), (3, 2), (0, 0), (0, 0), (0, 0), (0, 0), (0, 0), (3, 3), (3, 4), (0, 0)] : List (Nat × Nat)).length ≤ j from hj)]
theorem isText_at {i : Int} (h : 0 ≤ i ∧ i < 4) : isText (54 + 5 * i.toNat) := by unfold isText; omega
theorem fa_text {σ : Mem} {p k n t : Nat} (ht : isText t) (h : σ p (k : Int) = (t : Int)) : fa σ p k (4, n) = aR t := by
  have := posT ht
  show (if σ p (k : Int) = 0 then aN else aR (σ p (k : Int)).toNat) = aR t
  rw [h, if_neg (by omega)]
  rfl
theorem shRow {t : Nat} (h : isRow t) : shp t = (2, 8, []) := by rcases h with rfl | rfl <;> rfl
theorem ltRow {t : Nat} (h : isRow t) : t < 93 := by unfold isRow at h; omega
theorem posRow {t : Nat} (h : isRow t) : 0 < t := by unfold isRow at h; omega
theorem rRow {t : Nat} (h : isRow t) : R32 (t : Int) := by unfold isRow at h; unfold R32; omega
theorem fa_row {σ : Mem} {p k n t : Nat} (ht : isRow t) (h : σ p (k : Int) = (t : Int)) : fa σ p k (4, n) = aR t := by
  have := posRow ht
  show (if σ p (k : Int) = 0 then aN else aR (σ p (k : Int)).toNat) = aR t
  rw [h, if_neg (by omega)]
  rfl
theorem tsw_0 (x lo : Int) : lo ≤ x ∨ x < lo := by omega
theorem tsw_next {x lo a b : Int} (hb : a + 1 = b) (h : a ≤ x ∨ x < lo) (q : x ≠ a) : b ≤ x ∨ x < lo := by omega
theorem tsw_out {x lo hi a : Int} (h : a ≤ x ∨ x < lo) (hb : hi + 1 = a := by decide) : x < lo ∨ hi < x := by omega
theorem tsw_ne {x a b : Int} (h : x = a) (hab : a ≠ b) : x ≠ b := by rw [h]; exact hab
