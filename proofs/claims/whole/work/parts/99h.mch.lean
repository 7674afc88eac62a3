/-! THE REFERENCE'S READER OF LAWS: a machine with a pile of waiting signs (top first), how many are begun, whether one is whole, the token, and a stack of meanings (true: a truth). -/
abbrev SE : Type := Bool × (Env → Int)
abbrev SK : Type := Option (List SE)
def mcC (o : Int) : Int := if o = 4 then 18 else if o = 10 then 28 else if o = 11 then 39 else if o = 12 then 29 else if o = 13 then 40 else if o = 14 then 30 else if o = 15 then 31 else if o = 21 then 26 else if o = 22 then 25 else o + 26
def em1 (o v : Int) (l : List SE) : SK :=
  if o = 0 then some ((false, fun _ => v) :: l)
  else if o = 1 then some ((false, fun e => e.1 v) :: l)
  else if o = 5 ∨ o = 2 then (match l with
    | (false, f) :: r => some ((false, fun e => aln e.2 (if o = 5 then 44 else 20) (f e)) :: r)
    | _ => none)
  else if o = 3 then (match l with
    | (false, g) :: (false, f) :: (true, q) :: r => some ((false, fun e => if q e = 0 then g e else f e) :: r)
    | _ => none)
  else if o = 20 then (match l with
    | (true, f) :: r => some ((true, fun e => aln e.2 27 (f e)) :: r)
    | _ => none)
  else if o = 4 ∨ 6 ≤ o ∧ o ≤ 9 then (match l with
    | (false, g) :: (false, f) :: r => some ((false, fun e => jn (mcC o) (f e) (g e)) :: r)
    | _ => none)
  else if 10 ≤ o ∧ o ≤ 15 then (match l with
    | (false, g) :: (false, f) :: r => some ((true, fun e => jn (mcC o) (f e) (g e)) :: r)
    | _ => none)
  else if o = 21 ∨ o = 22 then (match l with
    | (true, g) :: (true, f) :: r => some ((true, fun e => jn (mcC o) (f e) (g e)) :: r)
    | _ => none)
  else none
def em (o v : Int) : SK → SK
  | none => none
  | some l => em1 o v l
def stlS (m : Int) : List Int → Int → SK → List Int × Int × SK
  | [], o, s => ([], o, s)
  | x :: r, o, s => if m ≤ rankS x then stlS m r (if rankS x = 7 ∨ x = 20 then o - 1 else o) (em x 0 s) else (x :: r, o, s)
def opP : List Int → Int
  | [] => -1
  | x :: r => if 40 ≤ x then x else opP r
def cmpd : List Int → Bool
  | [] => false
  | x :: r => if 4 < rankS x then cmpd r else decide (rankS x = 4)
def hdA : List Int → Bool
  | [] => false
  | x :: _ => decide (40 ≤ x ∨ (1 ≤ rankS x ∧ rankS x ≤ 3))
def askA (p : List Int) : Bool := decide (opP p = 42) && hdA p
def lowR (m : Int) (G : List Int) : Prop := ∀ x r, G = x :: r → rankS x < m
theorem stl_pop {m x o : Int} {r : List Int} {s : SK} (h : m ≤ rankS x) : stlS m (x :: r) o s = stlS m r (if rankS x = 7 ∨ x = 20 then o - 1 else o) (em x 0 s) := by
  show (if m ≤ rankS x then _ else _) = _; rw [if_pos h]
theorem stl_low {m o : Int} {G : List Int} {s : SK} (h : lowR m G) : stlS m G o s = (G, o, s) := by
  cases G with
  | nil => rfl
  | cons x r => show (if m ≤ rankS x then _ else _) = _; rw [if_neg (by have := h x r rfl; omega)]
theorem stl_stl {a c : Int} (h : a ≤ c) : ∀ (p : List Int) (o : Int) (s : SK), stlS a (stlS c p o s).1 (stlS c p o s).2.1 (stlS c p o s).2.2 = stlS a p o s
  | [], o, s => rfl
  | x :: r, o, s => by
    by_cases q : c ≤ rankS x
    · rw [stl_pop q, stl_pop (show a ≤ rankS x by omega)]; exact stl_stl h r _ _
    · have e : stlS c (x :: r) o s = (x :: r, o, s) := stl_low (fun y t e => by cases e; omega)
      rw [e]
theorem stl_eq {a c o o' : Int} {p G : List Int} {s s' : SK} (h : a ≤ c) (e : stlS c p o s = (G, o', s')) : stlS a p o s = stlS a G o' s' := by
  have := stl_stl h p o s
  rw [e] at this; exact this.symm
theorem stl_eq2 {a c o o' : Int} {p G : List Int} {s s' : SK} (h : a ≤ c) (e : stlS c p o s = stlS c G o' s') : stlS a p o s = stlS a G o' s' := by
  rw [← stl_stl h p o s, e, stl_stl h G o' s']
theorem stl_app {m : Int} : ∀ (p : List Int) (o : Int) (s : SK), ∃ Q, p = Q ++ (stlS m p o s).1 ∧ ∀ x ∈ Q, m ≤ rankS x
  | [], o, s => ⟨[], rfl, fun x h => by simp at h⟩
  | x :: r, o, s => by
    by_cases q : m ≤ rankS x
    · rw [stl_pop q]
      obtain ⟨Q, h1, h2⟩ := stl_app r (if rankS x = 7 ∨ x = 20 then o - 1 else o) (em x 0 s)
      refine ⟨x :: Q, by rw [List.cons_append, ← h1], fun y hy => ?_⟩
      rcases List.mem_cons.mp hy with e | e
      · rw [e]; exact q
      · exact h2 y e
    · exact ⟨[], by rw [stl_low (fun y t e => by cases e; omega)]; rfl, fun y h => by simp at h⟩
theorem rank_lt {x : Int} (h : 1 ≤ rankS x) : x < 40 := by
  rcases Int.lt_or_le x 40 with q | q
  · exact q
  · have : rankS x = 0 := by unfold rankS; rw [if_pos q]
    omega
theorem opP_app : ∀ (Q G : List Int), (∀ x ∈ Q, 1 ≤ rankS x) → opP (Q ++ G) = opP G
  | [], G, _ => rfl
  | x :: Q, G, h => by
    show (if 40 ≤ x then x else opP (Q ++ G)) = _
    rw [if_neg (by have := rank_lt (h x (by simp)); omega)]
    exact opP_app Q G (fun y hy => h y (List.mem_cons_of_mem _ hy))
theorem cmpd_app : ∀ (Q G : List Int), (∀ x ∈ Q, 5 ≤ rankS x) → cmpd (Q ++ G) = cmpd G
  | [], G, _ => rfl
  | x :: Q, G, h => by
    show (if 4 < rankS x then cmpd (Q ++ G) else _) = _
    rw [if_pos (by have := h x (by simp); omega)]
    exact cmpd_app Q G (fun y hy => h y (List.mem_cons_of_mem _ hy))
theorem opP_stl {m o o' : Int} {p G : List Int} {s s' : SK} (hm : 1 ≤ m) (e : stlS m p o s = (G, o', s')) : opP p = opP G := by
  obtain ⟨Q, h1, h2⟩ := stl_app (m := m) p o s
  rw [e] at h1
  rw [h1]; exact opP_app Q G (fun x hx => by have := h2 x hx; omega)
theorem cmpd_stl {o o' : Int} {p G : List Int} {s s' : SK} (e : stlS 5 p o s = (G, o', s')) : cmpd p = cmpd G := by
  obtain ⟨Q, h1, h2⟩ := stl_app (m := 5) p o s
  rw [e] at h1
  rw [h1]; exact cmpd_app Q G h2
/-! one step of it, as what must hold for the goal Z to hold: Fl faults, Dn the end -/
def eo (K : Nat → Int) (Z : List Int → Int → Bool → Nat → SK → Prop) (Fl : Int → Nat → Prop) (p : List Int) (o : Int) (i : Nat) (s : SK) : Prop :=
  if (stlS 7 p o s).1.head? = some 41 then (if K i = 19 then Z (4 :: (stlS 7 p o s).1.tail) (stlS 7 p o s).2.1 false (i + 1) (stlS 7 p o s).2.2 else Fl 1 i) else Z (stlS 7 p o s).1 (stlS 7 p o s).2.1 true i (stlS 7 p o s).2.2
def opn (Z : List Int → Int → Bool → Nat → SK → Prop) (Fl : Int → Nat → Prop) (c : Int) (p : List Int) (o : Int) (i : Nat) (s : SK) : Prop := if o = 8 then Fl 3 i else Z (c :: p) (o + 1) false (i + 1) s
def begP (K M : Nat → Int) (lw : Int) (Z : List Int → Int → Bool → Nat → SK → Prop) (Fl : Int → Nat → Prop) (p : List Int) (o : Int) (i : Nat) (s : SK) : Prop :=
  if K i = 41 then (if 9999 < M i then Fl 2 i else eo K Z Fl p o (i + 1) (em 0 (M i) s))
  else if 0 ≤ K i ∧ K i ≤ 8 then (if (0 ≤ K i ∧ K i ≤ 4) ∨ (lw = 9 ∧ 5 ≤ K i ∧ K i ≤ 7) ∨ (lw ≠ 9 ∧ K i = 8) then eo K Z Fl p o (i + 1) (em 1 (K i) s) else Fl 5 i)
  else if K i = 36 then opn Z Fl 40 p o i s
  else if K i = 33 then opn Z Fl 5 p o i s
  else if K i = 18 then opn Z Fl 41 p o i s
  else if K i = 20 then opn Z Fl 2 p o i s
  else if K i = 21 then opn Z Fl 42 p o i s
  else if K i = 27 ∧ askA p = true then opn Z Fl 20 p o i s
  else Fl 1 i
def cmO (k : Int) : Int := if k = 28 then 10 else if k = 39 then 11 else if k = 29 then 12 else if k = 40 then 13 else if k = 30 then 14 else if k = 31 then 15 else -1
def btw (k : Int) (p : List Int) : Int := if k = 32 then 6 else if k = 33 then 7 else if k = 34 then 8 else if k = 35 then 9 else if opP p ≠ 42 then -1 else if cmpd p = false then cmO k else if k = 26 then 21 else if k = 25 then 22 else -1
def prt (k : Int) (p : List Int) : Int := if opP p = 40 then (if k = 37 then 0 else -1) else if opP p = 42 then (if k = 22 ∧ cmpd p = true then 43 else -1) else if opP p = 43 then (if k = 23 then 44 else -1) else if opP p = 44 then (if k = 24 then 0 else -1) else -1
def behP (K : Nat → Int) (Z : List Int → Int → Bool → Nat → SK → Prop) (Fl : Int → Nat → Prop) (Dn : Nat → SK → Prop) (p : List Int) (o : Int) (i : Nat) (s : SK) : Prop :=
  if 0 ≤ btw (K i) p then Z (btw (K i) p :: (stlS (if rankS (btw (K i) p) = 4 then 5 else rankS (btw (K i) p)) p o s).1) (stlS (if rankS (btw (K i) p) = 4 then 5 else rankS (btw (K i) p)) p o s).2.1 false (i + 1) (stlS (if rankS (btw (K i) p) = 4 then 5 else rankS (btw (K i) p)) p o s).2.2
  else if prt (K i) p < 0 then (if 0 ≤ opP p then Fl 1 i else Dn i (stlS 1 p o s).2.2)
  else if prt (K i) p = 0 then eo K Z Fl (stlS 1 p o s).1.tail ((stlS 1 p o s).2.1 - 1) (i + 1) (if opP p = 44 then em 3 0 (stlS 1 p o s).2.2 else (stlS 1 p o s).2.2)
  else Z (prt (K i) p :: (stlS 1 p o s).1.tail) (stlS 1 p o s).2.1 false (i + 1) (stlS 1 p o s).2.2
def CLo (K M : Nat → Int) (lw : Int) (Z : List Int → Int → Bool → Nat → SK → Prop) (Fl : Int → Nat → Prop) (Dn : Nat → SK → Prop) : Prop :=
  (∀ p o i s, p.length ≤ 120 → begP K M lw Z Fl p o i s → Z p o false i s) ∧ (∀ p o i s, p.length ≤ 120 → behP K Z Fl Dn p o i s → Z p o true i s)
theorem eo_pop {K : Nat → Int} {Z : List Int → Int → Bool → Nat → SK → Prop} {Fl : Int → Nat → Prop} {x : Int} {p : List Int} {o : Int} {i : Nat} {s : SK} (h : rankS x = 7) (hh : eo K Z Fl p (o - 1) i (em x 0 s)) : eo K Z Fl (x :: p) o i s := by
  have e : stlS 7 (x :: p) o s = stlS 7 p (o - 1) (em x 0 s) := by rw [stl_pop (by omega), if_pos (show rankS x = 7 ∨ x = 20 from .inl h)]
  unfold eo at *
  rw [e]; exact hh
theorem eo_low {K : Nat → Int} {Z : List Int → Int → Bool → Nat → SK → Prop} {Fl : Int → Nat → Prop} {p : List Int} {o : Int} {i : Nat} {s : SK} (h : lowR 7 p) (h41 : p.head? ≠ some 41) (hh : Z p o true i s) : eo K Z Fl p o i s := by
  unfold eo
  rw [stl_low h, if_neg h41]; exact hh
theorem eo_com {K : Nat → Int} {Z : List Int → Int → Bool → Nat → SK → Prop} {Fl : Int → Nat → Prop} {p : List Int} {o : Int} {i : Nat} {s : SK} (h1 : K i = 19 → Z (4 :: p) o false (i + 1) s) (h2 : K i ≠ 19 → Fl 1 i) : eo K Z Fl (41 :: p) o i s := by
  unfold eo
  rw [stl_low (fun x r e => by cases e; decide)]
  rw [if_pos (show (41 :: p, o, s).1.head? = some 41 from rfl)]
  by_cases q : K i = 19
  · rw [if_pos q]; exact h1 q
  · rw [if_neg q]; exact h2 q
