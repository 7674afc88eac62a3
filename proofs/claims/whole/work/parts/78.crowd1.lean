/-! CROWD: orders of GOERS at one ROAD, lower ones first -/
def visL (rc : List Int → Int → List Int → List Int) (sk : Int → Int → Int) (p : List Int) (th : Int) : Nat → List Int → List Int
  | 0, b => b
  | k + 1, b => if (k : Int) ∉ p ∧ sk (k : Int) th ≤ th then rc (p ++ [(k : Int)]) (th - sk (k : Int) th) (visL rc sk p th k b) else visL rc sk p th k b
def vis (sk : Int → Int → Int) (G : Nat) : Nat → List Int → Int → List Int → List Int
  | 0, _, _, b => b
  | f + 1, p, th, b => visL (vis sk G f) sk p th G (if b.length < p.length then p else b)
def onL (τ : Mem) (q : Nat) (p : List Int) : Prop := ∀ (i : Nat) (x : Int), p[i]? = some x → τ q (i : Int) = x
def bsP (u : Int) (p : List Int) : Prop := (0 ≤ u ∧ u < 65536) ∧ ∀ t : Int, 0 ≤ t → tbt u t = decide (t ∈ p)
def okP (G : Int) (p : List Int) : Prop := p.Nodup ∧ ∀ x, x ∈ p → 0 ≤ x ∧ x < G
theorem onL.lt {τ : Mem} {q : Nat} {p : List Int} {i : Nat} (h : onL τ q p) (hi : i < p.length) : τ q (i : Int) = p[i] := h i _ (List.getElem?_eq_getElem hi)
theorem onL.nil (τ : Mem) (q : Nat) : onL τ q [] := fun i x h => by simp at h
theorem onL.snoc {τ : Mem} {q : Nat} {p : List Int} {x : Int} (h : onL τ q p) (hx : τ q (p.length : Int) = x) : onL τ q (p ++ [x]) := fun i y hy => by
  by_cases e : i < p.length
  · rw [List.getElem?_append_left e] at hy; exact h i y hy
  · rw [List.getElem?_append_right (by omega)] at hy
    by_cases e2 : i = p.length
    · subst e2; simp at hy; rw [hx, hy]
    · have : ([x] : List Int)[i - p.length]? = none := List.getElem?_eq_none (by simp; omega)
      rw [this] at hy; cases hy
theorem onL.pre {τ : Mem} {q : Nat} {p : List Int} {x : Int} (h : onL τ q (p ++ [x])) : onL τ q p := fun i y hy => by
  have e : i < p.length := (List.getElem?_eq_some_iff.mp hy).1
  exact h i y (by rw [List.getElem?_append_left e]; exact hy)
theorem onL.last {τ : Mem} {q : Nat} {p : List Int} {x : Int} (h : onL τ q (p ++ [x])) : τ q (p.length : Int) = x := h p.length x (by simp)
theorem onL.congr {τ τ' : Mem} {q : Nat} {p : List Int} (h : onL τ q p) (he : ∀ i : Int, 0 ≤ i → i < (p.length : Int) → τ' q i = τ q i) : onL τ' q p := fun i y hy => by
  have e : i < p.length := (List.getElem?_eq_some_iff.mp hy).1
  rw [he (i : Int) (by omega) (by omega)]; exact h i y hy
theorem bsP.nil : bsP 0 [] := ⟨by omega, fun t _ => by unfold tbt; simp⟩
theorem bsP.snoc {u x : Int} {p : List Int} (h : bsP u p) (hx : 0 ≤ x ∧ x < 16) : bsP (bOr u (bShl 1 x)) (p ++ [x]) := by
  refine ⟨(tb_or (t := 0) h.1 (tb_shl hx (Int.le_refl 0)).1).1, fun t ht => ?_⟩
  rw [(tb_or (t := t) h.1 (tb_shl hx ht).1).2, (tb_shl hx ht).2, h.2 t ht]
  by_cases e : t ∈ p <;> by_cases e2 : t = x <;> simp [e, e2]
theorem bsP.uniq {u u' : Int} {p : List Int} (h : bsP u p) (h' : bsP u' p) : u' = u := tb_ext h'.1.1 h.1.1 (fun t ht => by rw [h.2 t ht, h'.2 t ht])
theorem bsP.drop {u x : Int} {p : List Int} (h : bsP u (p ++ [x])) (hx : 0 ≤ x ∧ x < 16) (hn : x ∉ p) : bsP (bAnd u (bXor (bShl 1 x) (-1))) p := by
  have h1 := (tb_not (t := 0) h.1 (tb_shl hx (Int.le_refl 0)).1).1
  refine ⟨by have := h.1; omega, fun t ht => ?_⟩
  rw [(tb_not (t := t) h.1 (tb_shl hx ht).1).2, (tb_shl hx ht).2, h.2 t ht]
  by_cases e2 : t = x
  · subst e2; simp [hn]
  · simp [e2]
theorem bsP.self {u : Int} {p : List Int} (h : bsP u p) : bAnd u u = u := by
  have h1 := (tb_and (t := 0) h.1 h.1).1
  exact tb_ext h1.1 h.1.1 (fun t ht => by rw [(tb_and (t := t) h.1 h.1).2]; simp)
theorem okP.len : ∀ {G : Nat} {p : List Int}, okP (G : Int) p → p.length ≤ G
  | 0, p, h => by
    cases p with
    | nil => simp
    | cons x p => have := h.2 x (by simp); omega
  | G + 1, p, h => by
    by_cases e : (G : Int) ∈ p
    · have h1 : okP (G : Int) (p.erase (G : Int)) := ⟨h.1.erase _, fun x hx => by
        have h2 := (h.1.mem_erase_iff.mp hx)
        have := h.2 x h2.2
        have := h2.1
        omega⟩
      have h3 := h1.len
      rw [List.length_erase_of_mem e] at h3
      omega
    · have h1 : okP (G : Int) p := ⟨h.1, fun x hx => by
        have := h.2 x hx
        have : x ≠ (G : Int) := fun q => e (q ▸ hx)
        omega⟩
      have := h1.len
      omega
theorem okP.snoc {G x : Int} {p : List Int} (h : okP G p) (hx : 0 ≤ x ∧ x < G) (hn : x ∉ p) : okP G (p ++ [x]) := by
  refine ⟨?_, fun y hy => ?_⟩
  · rw [List.nodup_append]
    refine ⟨h.1, by simp, fun a ha b hb q => ?_⟩
    simp at hb; subst hb q; exact hn ha
  · rw [List.mem_append] at hy
    rcases hy with hy | hy
    · exact h.2 y hy
    · simp at hy; subst hy; exact hx
theorem okP.full {G : Nat} {x : Int} {p : List Int} (h : okP (G : Int) p) (hl : G ≤ p.length) (hx : 0 ≤ x ∧ x < (G : Int)) : x ∈ p := by
  by_cases e : x ∈ p
  · exact e
  · have := (h.snoc hx e).len
    simp at this; omega
/-- once all of them stand in an order, no other is longer -/
theorem vis_full {sk : Int → Int → Int} {G : Nat} : ∀ (f : Nat) (p : List Int) (th : Int) (b : List Int), okP (G : Int) p → G ≤ b.length → vis sk G f p th b = b
  | 0, _, _, _, _, _ => rfl
  | f + 1, p, th, b, hp, hb => by
    show visL (vis sk G f) sk p th G (if b.length < p.length then p else b) = b
    rw [if_neg (by have := hp.len; omega)]
    have : ∀ k : Nat, k ≤ G → visL (vis sk G f) sk p th k b = b := fun k => by
      induction k with
      | zero => intro _; rfl
      | succ k ih =>
        intro hk
        show (if (k : Int) ∉ p ∧ sk (k : Int) th ≤ th then _ else _) = _
        rw [ih (by omega)]
        split
        · rename_i h
          exact vis_full f _ _ _ (hp.snoc (by omega) h.1) hb
        · rfl
    exact this G (Nat.le_refl _)
theorem visL_full {sk : Int → Int → Int} {G f : Nat} {p : List Int} {th : Int} {b : List Int} {c : Nat} (hp : okP (G : Int) p) (hc : c ≤ G) (h : G ≤ (visL (vis sk G f) sk p th c b).length) : ∀ n : Nat, c + n ≤ G → visL (vis sk G f) sk p th (c + n) b = visL (vis sk G f) sk p th c b
  | 0, _ => rfl
  | n + 1, hn => by
    have ih := visL_full hp hc h n (by omega)
    show visL (vis sk G f) sk p th ((c + n) + 1) b = _
    show (if ((c + n : Nat) : Int) ∉ p ∧ sk ((c + n : Nat) : Int) th ≤ th then vis sk G f (p ++ [((c + n : Nat) : Int)]) (th - sk ((c + n : Nat) : Int) th) (visL (vis sk G f) sk p th (c + n) b) else visL (vis sk G f) sk p th (c + n) b) = _
    rw [ih]
    split
    · rename_i h2
      exact vis_full f _ _ _ (hp.snoc (by omega) h2.1) h
    · rfl
theorem visL_no {rc : List Int → Int → List Int → List Int} {sk : Int → Int → Int} {p : List Int} {th : Int} {k : Nat} {b : List Int} (h : ¬ ((k : Int) ∉ p ∧ sk (k : Int) th ≤ th)) : visL rc sk p th (k + 1) b = visL rc sk p th k b := by
  show (if _ then _ else _) = _; rw [if_neg h]
theorem visL_yes {rc : List Int → Int → List Int → List Int} {sk : Int → Int → Int} {p : List Int} {th : Int} {k : Nat} {b : List Int} (h : (k : Int) ∉ p ∧ sk (k : Int) th ≤ th) : visL rc sk p th (k + 1) b = rc (p ++ [(k : Int)]) (th - sk (k : Int) th) (visL rc sk p th k b) := by
  show (if _ then _ else _) = _; rw [if_pos h]
def crL (A : Mem) (tx : Nat → Txt) (r : Int) : List Int := vis (fun g t => skT A tx g r t) (A 10 1).toNat 7 [] (A 1 r) []
def crS (A : Mem) (tx : Nat → Txt) (r i : Int) : Int := if 0 ≤ r ∧ r < A 10 0 then (if i = -1 then ((crL A tx r).length : Int) else if 0 ≤ i ∧ i ≤ ((crL A tx r).length : Int) - 1 then (crL A tx r).getD i.toNat 0 else -2) else -2
