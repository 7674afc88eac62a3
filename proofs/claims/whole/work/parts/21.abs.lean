/-! THE ABSTRACT STATE. A : Mem holds numbers: A 0 0 coil, 0 1 rain, 0 2 day, 0 3 x, 0 4 how many the book has; A 1 thick, A 2 place, A 3 went; book: A 4 day, A 5 goer, A 6 road, A 7 sucked;
 told: A 10 0 roads, 10 1 goers, 10 2 texts, 10 3 said, 10 4 ruling; A 11 from, A 12 to, A 13 length, A 14 first, A 15 mouth, A 16 town as told, A 17 18 19 said. -/
def Fr (S : List Nat) (σ σ' : Mem) : Prop := ∀ q, q ∉ S → σ' q = σ q
theorem Fr.rf (S : List Nat) (σ : Mem) : Fr S σ σ := fun _ _ => rfl
theorem Fr.tr {S : List Nat} {a b c : Mem} (h1 : Fr S a b) (h2 : Fr S b c) : Fr S a c := fun q hq => (h2 q hq).trans (h1 q hq)
theorem Fr.wk {S S' : List Nat} {a b : Mem} (h : Fr S a b) (hs : ∀ q ∈ S, q ∈ S') : Fr S' a b := fun q hq => h q (fun h' => hq (hs q h'))
theorem Fr.set {S : List Nat} {a b : Mem} {p : Nat} {i v : Int} (h : Fr S a b) (hp : p ∈ S) : Fr S a (mset b p i v) := fun q hq => by
  rw [mset_ne (fun e : q = p => hq (by rw [e]; exact hp))]; exact h q hq
theorem Fr.row {S : List Nat} {a b : Mem} {p : Nat} {f : Int → Int} (h : Fr S a b) (hp : p ∈ S) : Fr S a (mrow b p f) := fun q hq => by
  rw [mrow_ne (fun e : q = p => hq (by rw [e]; exact hp))]; exact h q hq
theorem mset_same {σ : Mem} {p : Nat} {i v j : Int} : mset σ p i v p j = if j = i then v else σ p j := by
  unfold mset; simp
theorem mrow_same {σ : Mem} {p : Nat} {f : Int → Int} {j : Int} : mrow σ p f p j = f j := by rw [mrow_self]
theorem mset_off {σ : Mem} {p q : Nat} {i v j : Int} (h : q ≠ p) : mset σ p i v q j = σ q j := by rw [mset_ne h]
theorem mset_hit {σ : Mem} {p : Nat} {i v j : Int} (h : j = i) : mset σ p i v p j = v := by rw [h, mset_self]
theorem mset_miss {σ : Mem} {p : Nat} {i v j : Int} (h : j ≠ i) : mset σ p i v p j = σ p j := by rw [mset_same, if_neg h]
theorem mrow_off {σ : Mem} {p q : Nat} {f : Int → Int} {j : Int} (h : q ≠ p) : mrow σ p f q j = σ q j := by rw [mrow_ne h]
theorem mcpy_off {σ : Mem} {p0 p1 q : Nat} {sp dp n j : Int} (h : q ≠ p1) : mcpy σ p0 sp p1 dp n q j = σ q j := by unfold mcpy; rw [mrow_ne h]
theorem mcpy_hit {σ : Mem} {p0 p1 : Nat} {sp dp n j : Int} (h : dp ≤ j ∧ j < dp + n) : mcpy σ p0 sp p1 dp n p1 j = σ p0 (sp + (j - dp)) := by unfold mcpy; rw [mrow_self, if_pos h]
theorem mcpy_miss {σ : Mem} {p0 p1 : Nat} {sp dp n j : Int} (h : ¬ (dp ≤ j ∧ j < dp + n)) : mcpy σ p0 sp p1 dp n p1 j = σ p1 j := by unfold mcpy; rw [mrow_self, if_neg h]
/-- what a law sees: names by number (0 day 1 rain 2 way 3 long 4 thick 5 mouth 6 who 7 went 8 first), and how thick any road is -/
abbrev Env : Type := (Int → Int) × (Int → Int)
/-- a text: its laws, its clauses (kind: 0 sucks 1 swells 2 road 3 goer 4 go 5 relay 6 coil 7 day; numbers) -/
abbrev Txt : Type := Option (Env → Int) × Option (Env → Int) × List (Int × Int × Int × Int × Int)
/-- one row of numbers in range -/
def InvA (A : Mem) : Prop :=
  (0 ≤ A 10 0 ∧ A 10 0 ≤ 16 ∧ 0 ≤ A 10 1 ∧ A 10 1 ≤ 6 ∧ 0 ≤ A 10 2 ∧ A 10 2 ≤ 4 ∧ 0 ≤ A 10 3 ∧ A 10 3 ≤ 8 ∧ -1 ≤ A 10 4 ∧ A 10 4 < A 10 2) ∧
  (∀ r : Int, 0 ≤ r → r < A 10 0 → (0 ≤ A 11 r ∧ A 11 r ≤ 7 ∧ 0 ≤ A 12 r ∧ A 12 r ≤ 7 ∧ A 11 r ≠ A 12 r) ∧ (1 ≤ A 13 r ∧ A 13 r ≤ 9 ∧ 1 ≤ A 14 r ∧ A 14 r ≤ 99 ∧ 0 ≤ A 1 r ∧ A 1 r ≤ A 14 r)) ∧
  (∀ g : Int, 0 ≤ g → g < A 10 1 → (1 ≤ A 15 g ∧ A 15 g ≤ 9 ∧ 0 ≤ A 16 g ∧ A 16 g ≤ 7) ∧ (0 ≤ A 2 g ∧ A 2 g ≤ 7 ∧ 0 ≤ A 3 g ∧ A 3 g ≤ 9999)) ∧
  (0 ≤ A 0 0 ∧ A 0 0 ≤ 999 ∧ 0 ≤ A 0 1 ∧ A 0 1 ≤ 1 ∧ 0 ≤ A 0 2 ∧ A 0 2 ≤ 9999 ∧ 0 ≤ A 0 3 ∧ A 0 3 ≤ 30726 ∧ 0 ≤ A 0 4 ∧ A 0 4 ≤ 30) ∧
  (∀ i : Int, 0 ≤ i → i < A 0 4 → (0 ≤ A 4 i ∧ A 4 i ≤ 9999 ∧ 0 ≤ A 5 i ∧ A 5 i ≤ 5 ∧ 0 ≤ A 6 i ∧ A 6 i ≤ 15 ∧ 0 ≤ A 7 i ∧ A 7 i ≤ 99)) ∧
  (∀ i : Int, 0 ≤ i → i < A 10 3 → (0 ≤ A 17 i ∧ A 17 i < A 10 1 ∧ 0 ≤ A 18 i ∧ A 18 i < A 10 0 ∧ 0 ≤ A 19 i ∧ A 19 i ≤ 99))
def bkC (A : Mem) (i : Int) : Int := A 4 i * 16384 + A 5 i * 2048 + A 6 i * 128 + A 7 i
def bkM (A : Mem) (i : Int) : Int := ((A 4 i * 6 + A 5 i) * 16 + A 6 i) * 100 + A 7 i
/-- the class: what was told, at p -/
def toldC (σ : Mem) (p : Nat) (A : Mem) : Prop :=
  (σ p 8 = A 10 0 ∧ σ p 9 = A 10 1 ∧ σ p 10 = A 10 2 ∧ σ p 11 = A 10 3 ∧ σ p 12 = A 10 4) ∧
  (∀ r : Int, 0 ≤ r → r < A 10 0 → σ (p + 1) r = A 11 r ∧ σ (p + 2) r = A 12 r ∧ σ (p + 3) r = A 13 r ∧ σ (p + 4) r = A 14 r) ∧
  (∀ g : Int, 0 ≤ g → g < A 10 1 → σ (p + 5) g = A 15 g) ∧
  (∀ i : Int, 0 ≤ i → i < A 10 3 → σ (p + 6) i = A 17 i ∧ σ (p + 7) i = A 18 i ∧ σ (p + 8) i = A 19 i)
def nowC (σ : Mem) (A : Mem) : Prop :=
  (σ 10 5 = A 0 0 ∧ σ 10 6 = A 0 1 ∧ σ 10 7 = A 0 2 ∧ σ 10 8 = A 0 3 ∧ σ 10 4 = A 0 4) ∧
  (∀ r : Int, 0 ≤ r → r < A 10 0 → σ 11 r = A 1 r) ∧
  (∀ g : Int, 0 ≤ g → g < A 10 1 → σ 12 g = A 2 g ∧ σ 13 g = A 3 g) ∧
  (∀ i : Int, 0 ≤ i → i < A 0 4 → σ 14 i = bkC A i)
def rowC (σ : Mem) (p : Nat) (o : Int) (A : Mem) : Prop :=
  (σ p (o + 58) = A 0 0 ∧ σ p (o + 59) = A 0 1 ∧ σ p (o + 60) = A 0 2 ∧ σ p (o + 61) = A 0 3 ∧ σ p (o + 62) = A 0 4 ∧ σ p (o + 63) = A 10 0 ∧ σ p (o + 64) = A 10 1) ∧
  (∀ r : Int, 0 ≤ r → r < A 10 0 → σ p (o + r) = A 1 r) ∧
  (∀ g : Int, 0 ≤ g → g < A 10 1 → σ p (o + (16 + g)) = A 2 g ∧ σ p (o + (22 + g)) = A 3 g) ∧
  (∀ i : Int, 0 ≤ i → i < A 0 4 → σ p (o + (28 + i)) = bkC A i)
/-- what the rows need of A's counts -/
def Cnt (A : Mem) : Prop := 0 ≤ A 10 0 ∧ A 10 0 ≤ 16 ∧ 0 ≤ A 10 1 ∧ A 10 1 ≤ 6 ∧ 0 ≤ A 0 4 ∧ A 0 4 ≤ 30
theorem InvA.cnt {A : Mem} (h : InvA A) : Cnt A := ⟨h.1.1, h.1.2.1, h.1.2.2.1, h.1.2.2.2.1, h.2.2.2.1.2.2.2.2.2.2.2.2.1, h.2.2.2.1.2.2.2.2.2.2.2.2.2⟩
theorem rowC_congr {σ σ' : Mem} {p p' : Nat} {o o' : Int} {A : Mem} (h : rowC σ p o A) (hc : Cnt A) (he : ∀ i : Int, 0 ≤ i → i < 65 → σ' p' (o' + i) = σ p (o + i)) : rowC σ' p' o' A := by
  obtain ⟨h0, h1, h2, h3⟩ := h
  unfold Cnt at hc
  refine ⟨?_, fun r hr hr2 => ?_, fun g hg hg2 => ?_, fun i hi hi2 => ?_⟩
  · rw [he 58 (by omega) (by omega), he 59 (by omega) (by omega), he 60 (by omega) (by omega), he 61 (by omega) (by omega), he 62 (by omega) (by omega), he 63 (by omega) (by omega), he 64 (by omega) (by omega)]
    exact h0
  · rw [he r hr (by omega)]; exact h1 r hr hr2
  · rw [he (16 + g) (by omega) (by omega), he (22 + g) (by omega) (by omega)]; exact h2 g hg hg2
  · rw [he (28 + i) (by omega) (by omega)]; exact h3 i hi hi2
/-- behind restore of the row B -/
def restC (σ σ' : Mem) (B : Mem) : Prop :=
  (σ' 10 5 = B 0 0 ∧ σ' 10 6 = B 0 1 ∧ σ' 10 7 = B 0 2 ∧ σ' 10 8 = B 0 3 ∧ σ' 10 4 = B 0 4) ∧
  (∀ r : Int, 0 ≤ r → r < B 10 0 → σ' 11 r = B 1 r) ∧ (∀ r : Int, B 10 0 ≤ r → σ' 11 r = σ 11 r) ∧
  (∀ g : Int, 0 ≤ g → g < B 10 1 → σ' 12 g = B 2 g ∧ σ' 13 g = B 3 g) ∧ (∀ g : Int, B 10 1 ≤ g → σ' 12 g = σ 12 g ∧ σ' 13 g = σ 13 g) ∧
  (∀ i : Int, 0 ≤ i → i < B 0 4 → σ' 14 i = bkC B i)
def stepsC (σ : Mem) (p : Nat) (L : List Mem) : Prop :=
  L.length ≤ 30 ∧ σ p 2 = (L.length : Int) ∧ 0 ≤ σ p 1 ∧ σ p 1 < 30 ∧ ∀ (k : Nat) (B : Mem), L[k]? = some B → Cnt B ∧ rowC σ (p + 1) (65 * ((σ p 1 + 29 - (k : Int)) % 30)) B
/-- the reference: its row at p -/
def rowM (σ : Mem) (p : Nat) (o : Int) (A : Mem) : Prop :=
  (σ p (o + 2) = A 0 2 ∧ σ p (o + 3) = A 0 3 ∧ σ p (o + 4) = A 0 1 ∧ σ p (o + 5) = A 0 0 ∧ σ p (o + 6) = A 0 4 ∧ σ p o = A 10 0 ∧ σ p (o + 1) = A 10 1) ∧
  (∀ r : Int, 0 ≤ r → r < A 10 0 → σ p (o + (7 + r)) = A 1 r) ∧
  (∀ g : Int, 0 ≤ g → g < A 10 1 → σ p (o + (23 + 2 * g)) = A 2 g ∧ σ p (o + (24 + 2 * g)) = A 3 g) ∧
  (∀ i : Int, 0 ≤ i → i < A 0 4 → σ p (o + (35 + i)) = bkM A i)
def nowM (σ : Mem) (p : Nat) (A : Mem) : Prop :=
  (σ p 6 = A 0 2 ∧ σ p 7 = A 0 3 ∧ σ p 8 = A 0 1 ∧ σ p 9 = A 0 0 ∧ σ p 10 = A 0 4) ∧
  (∀ r : Int, 0 ≤ r → r < A 10 0 → σ p (11 + r) = A 1 r) ∧
  (∀ g : Int, 0 ≤ g → g < A 10 1 → σ p (27 + 2 * g) = A 2 g ∧ σ p (27 + 2 * g + 1) = A 3 g) ∧
  (∀ i : Int, 0 ≤ i → i < A 0 4 → σ p (2089 + i) = bkM A i)
def toldM (σ : Mem) (p : Nat) (A : Mem) : Prop :=
  (σ p 0 = A 10 0 ∧ σ p 1 = A 10 1 ∧ σ p 2 = A 10 2 ∧ σ p 5 = A 10 3 ∧ σ p 3 = A 10 4) ∧
  (∀ r : Int, 0 ≤ r → r < A 10 0 → σ p (39 + 4 * r) = A 11 r ∧ σ p (39 + 4 * r + 1) = A 12 r ∧ σ p (39 + 4 * r + 2) = A 13 r ∧ σ p (39 + 4 * r + 3) = A 14 r) ∧
  (∀ g : Int, 0 ≤ g → g < A 10 1 → σ p (103 + 2 * g) = A 16 g ∧ σ p (103 + 2 * g + 1) = A 15 g) ∧
  (∀ i : Int, 0 ≤ i → i < A 10 3 → σ p (115 + 3 * i) = A 17 i ∧ σ p (115 + 3 * i + 1) = A 18 i ∧ σ p (115 + 3 * i + 2) = A 19 i)
def stepsM (σ : Mem) (p : Nat) (L : List Mem) : Prop :=
  L.length ≤ 30 ∧ σ p 4 = (L.length : Int) ∧ ∀ (k : Nat) (B : Mem), L[k]? = some B → Cnt B ∧ rowM σ p (139 + 65 * ((L.length : Int) - 1 - (k : Int))) B
