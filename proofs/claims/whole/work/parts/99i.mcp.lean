theorem em_jn {o : Int} {f g : Env → Int} {l : List SE} (h : o = 4 ∨ 6 ≤ o ∧ o ≤ 9) : em o 0 (some ((false, g) :: (false, f) :: l)) = some ((false, fun e => jn (mcC o) (f e) (g e)) :: l) := by
  show em1 o 0 _ = _
  unfold em1
  rw [if_neg (by omega), if_neg (by omega), if_neg (by omega), if_neg (by omega), if_neg (by omega), if_pos h]
theorem em_cm {o : Int} {f g : Env → Int} {l : List SE} (h : 10 ≤ o ∧ o ≤ 15) : em o 0 (some ((false, g) :: (false, f) :: l)) = some ((true, fun e => jn (mcC o) (f e) (g e)) :: l) := by
  show em1 o 0 _ = _
  unfold em1
  rw [if_neg (by omega), if_neg (by omega), if_neg (by omega), if_neg (by omega), if_neg (by omega), if_neg (by omega), if_pos h]
theorem em_an {o : Int} {f g : Env → Int} {l : List SE} (h : o = 21 ∨ o = 22) : em o 0 (some ((true, g) :: (true, f) :: l)) = some ((true, fun e => jn (mcC o) (f e) (g e)) :: l) := by
  show em1 o 0 _ = _
  unfold em1
  rw [if_neg (by omega), if_neg (by omega), if_neg (by omega), if_neg (by omega), if_neg (by omega), if_neg (by omega), if_neg (by omega), if_pos h]
theorem em_no {f : Env → Int} {l : List SE} : em 20 0 (some ((true, f) :: l)) = some ((true, fun e => aln e.2 27 (f e)) :: l) := rfl
theorem em_mi {f : Env → Int} {l : List SE} : em 5 0 (some ((false, f) :: l)) = some ((false, fun e => aln e.2 44 (f e)) :: l) := rfl
theorem em_ro {f : Env → Int} {l : List SE} : em 2 0 (some ((false, f) :: l)) = some ((false, fun e => aln e.2 20 (f e)) :: l) := rfl
theorem em_se {q f g : Env → Int} {l : List SE} : em 3 0 (some ((false, g) :: (false, f) :: (true, q) :: l)) = some ((false, fun e => if q e = 0 then g e else f e) :: l) := rfl
theorem em_nu {v : Int} {l : List SE} : em 0 v (some l) = some ((false, fun _ => v) :: l) := rfl
theorem em_na {v : Int} {l : List SE} : em 1 v (some l) = some ((false, fun e => e.1 v) :: l) := rfl
theorem pTl_R {K : Nat → Int} {o : Int → Bool} {it : Nat → PR} {R : Int → Prop} (hit : ∀ i f j, it i = .inr (f, j) → R (K j)) : ∀ (k : Nat) (f : Env → Int) (j : Nat) (f' : Env → Int) (j' : Nat), R (K j) → pTl K o it k f j = .inr (f', j') → R (K j')
  | 0, f, j, f', j', hR, h => by
    have := (inr_inj h).2
    rw [← this]; exact hR
  | k + 1, f, j, f', j', hR, h => by
    unfold pTl at h
    by_cases q : o (K j) = true
    · rw [if_pos q] at h
      obtain ⟨g, j1, e1, e2⟩ := pB_inv h
      exact pTl_R hit k _ _ _ _ (hit _ _ _ e1) e2
    · rw [if_neg q] at h
      have := (inr_inj h).2
      rw [← this]; exact hR
theorem pCh_R {K : Nat → Int} {o : Int → Bool} {it : Nat → PR} {R : Int → Prop} (hit : ∀ i f j, it i = .inr (f, j) → R (K j)) {i : Nat} {f : Env → Int} {j : Nat} (h : pCh K o it i = .inr (f, j)) : R (K j) := by
  obtain ⟨g, j1, e1, e2⟩ := pB_inv h
  exact pTl_R hit 300 _ _ _ _ (hit _ _ _ e1) e2
def nAr (k : Int) : Prop := k ≠ 32 ∧ k ≠ 33 ∧ k ≠ 34 ∧ k ≠ 35
theorem endP {K M : Nat → Int} {lw : Int} (hM : ∀ i, K i = 41 → 0 ≤ M i) (hK : ∀ j, 301 ≤ j → K j = 43) (n : Nat) : ∀ i f j, pP K M lw n i = .inr (f, j) → K j ≠ 34 ∧ K j ≠ 35 := fun i f j h => by
  have := pCh_end (pO_g (lw := lw) hM n) hK (by decide) h
  unfold oTO at this; rw [decide_eq_false_iff_not] at this; omega
theorem endS {K M : Nat → Int} {lw : Int} (hM : ∀ i, K i = 41 → 0 ≤ M i) (hK : ∀ j, 301 ≤ j → K j = 43) (n : Nat) : ∀ i f j, pS K M lw n i = .inr (f, j) → nAr (K j) := fun i f j h => by
  have h1 := pCh_end (pP_g (lw := lw) hM n) hK (by decide) h
  have h2 := pCh_R (R := fun k => k ≠ 34 ∧ k ≠ 35) (endP (lw := lw) hM hK n) h
  unfold oPM at h1; rw [decide_eq_false_iff_not] at h1
  exact ⟨fun q => h1 (.inl q), fun q => h1 (.inr q), h2.1, h2.2⟩
theorem endA {K M : Nat → Int} {lw : Int} (hM : ∀ i, K i = 41 → 0 ≤ M i) (hK : ∀ j, 301 ≤ j → K j = 43) : ∀ n i f j, pA K M lw n i = .inr (f, j) → nAr (K j) := by
  intro n
  have base : ∀ n i f j, K i ≠ 27 → pA K M lw n i = .inr (f, j) → nAr (K j) := fun n i f j q h => by
    rw [pA_cmp q] at h
    obtain ⟨g, j1, e1, e2⟩ := pB_inv h
    by_cases r : (28 ≤ K j1 ∧ K j1 ≤ 31) ∨ (39 ≤ K j1 ∧ K j1 ≤ 40)
    · rw [if_pos r] at e2
      obtain ⟨g2, j2, e3, e4⟩ := pB_inv e2
      have := (inr_inj e4).2
      rw [← this]; exact endS hM hK n _ _ _ e3
    · rw [if_neg r] at e2; cases e2
  induction n with
  | zero =>
    intro i f j h
    by_cases q : K i = 27
    · rw [pA_deep q] at h; cases h
    · exact base 0 i f j q h
  | succ n ih =>
    intro i f j h
    by_cases q : K i = 27
    · rw [pA_not q] at h
      obtain ⟨g, j1, e1, e2⟩ := pB_inv h
      have := (inr_inj e2).2
      rw [← this]; exact ih _ _ _ e1
    · exact base (n + 1) i f j q h
theorem endB {K M : Nat → Int} {lw : Int} (hM : ∀ i, K i = 41 → 0 ≤ M i) (hK : ∀ j, 301 ≤ j → K j = 43) (n : Nat) : ∀ i f j, pBt K M lw n i = .inr (f, j) → nAr (K j) ∧ K j ≠ 26 := fun i f j h => by
  have h1 := pCh_end (pA_g (lw := lw) hM n) hK (by decide) h
  unfold oAn at h1; rw [decide_eq_false_iff_not] at h1
  exact ⟨pCh_R (R := nAr) (endA hM hK n) h, h1⟩
theorem endE {K M : Nat → Int} {lw : Int} (hM : ∀ i, K i = 41 → 0 ≤ M i) (hK : ∀ j, 301 ≤ j → K j = 43) (n : Nat) : ∀ i f j, pE K M lw n i = .inr (f, j) → nAr (K j) ∧ K j ≠ 26 ∧ K j ≠ 25 := fun i f j h => by
  have h1 := pCh_end (pBt_g (lw := lw) hM n) hK (by decide) h
  unfold oOr at h1; rw [decide_eq_false_iff_not] at h1
  have h2 := pCh_R (R := fun k => nAr k ∧ k ≠ 26) (endB (lw := lw) hM hK n) h
  exact ⟨h2.1, h2.2, h1⟩
def OneP (K M : Nat → Int) (lw : Int) (Z : List Int → Int → Bool → Nat → SK → Prop) (Fl : Int → Nat → Prop) (n : Nat) : Prop := ∀ (G : List Int) (o : Int) (i : Nat) (l : List SE), o = 8 - (n : Int) → G.length + 7 * n ≤ 66 → (K i = 27 → askA G = false) → (∀ c k, pO K M lw n i = .inl (c, k) → Fl c k) → (∀ f j, pO K M lw n i = .inr (f, j) → eo K Z Fl G o j (some ((false, f) :: l))) → Z G o false i (some l)
def ProP (K M : Nat → Int) (lw : Int) (Z : List Int → Int → Bool → Nat → SK → Prop) (Fl : Int → Nat → Prop) (n : Nat) : Prop := ∀ (G : List Int) (o : Int) (i : Nat) (l : List SE), o = 8 - (n : Int) → G.length + 7 * n ≤ 65 → (K i = 27 → askA G = false) → lowR 6 G → G.head? ≠ some 41 → (∀ c k, pP K M lw n i = .inl (c, k) → Fl c k) → (∀ f j, pP K M lw n i = .inr (f, j) → ∀ p' o' s', stlS 6 p' o' s' = (G, o, some ((false, f) :: l)) → p'.length ≤ G.length + 1 → Z p' o' true j s') → Z G o false i (some l)
def SumP (K M : Nat → Int) (lw : Int) (Z : List Int → Int → Bool → Nat → SK → Prop) (Fl : Int → Nat → Prop) (n : Nat) : Prop := ∀ (G : List Int) (o : Int) (i : Nat) (l : List SE), o = 8 - (n : Int) → G.length + 7 * n ≤ 64 → (K i = 27 → askA G = false) → lowR 5 G → G.head? ≠ some 41 → (∀ c k, pS K M lw n i = .inl (c, k) → Fl c k) → (∀ f j, pS K M lw n i = .inr (f, j) → ∀ p' o' s', stlS 5 p' o' s' = (G, o, some ((false, f) :: l)) → p'.length ≤ G.length + 2 → Z p' o' true j s') → Z G o false i (some l)
def AskP (K M : Nat → Int) (lw : Int) (Z : List Int → Int → Bool → Nat → SK → Prop) (Fl : Int → Nat → Prop) (n : Nat) : Prop := ∀ (G : List Int) (o : Int) (i : Nat) (l : List SE), o = 8 - (n : Int) → G.length + 7 * n ≤ 63 → askA G = true → (∀ c k, pA K M lw n i = .inl (c, k) → Fl c k) → (∀ f j, pA K M lw n i = .inr (f, j) → ∀ p' o' s', stlS 3 p' o' s' = stlS 3 G o (some ((true, f) :: l)) → opP p' = 42 → cmpd p' = true → p'.length ≤ G.length + 3 + n → Z p' o' true j s') → Z G o false i (some l)
def BotP (K M : Nat → Int) (lw : Int) (Z : List Int → Int → Bool → Nat → SK → Prop) (Fl : Int → Nat → Prop) (n : Nat) : Prop := ∀ (G : List Int) (o : Int) (i : Nat) (l : List SE), o = 8 - (n : Int) → G.length + 7 * n ≤ 62 → askA G = true → lowR 2 G → (∀ c k, pBt K M lw n i = .inl (c, k) → Fl c k) → (∀ f j, pBt K M lw n i = .inr (f, j) → ∀ p' o' s', stlS 2 p' o' s' = (G, o, some ((true, f) :: l)) → opP p' = 42 → cmpd p' = true → p'.length ≤ G.length + 4 + n → Z p' o' true j s') → Z G o false i (some l)
def EitP (K M : Nat → Int) (lw : Int) (Z : List Int → Int → Bool → Nat → SK → Prop) (Fl : Int → Nat → Prop) (n : Nat) : Prop := ∀ (G : List Int) (o : Int) (i : Nat) (l : List SE), o = 8 - (n : Int) → G.length + 7 * n ≤ 61 → askA G = true → lowR 1 G → (∀ c k, pE K M lw n i = .inl (c, k) → Fl c k) → (∀ f j, pE K M lw n i = .inr (f, j) → ∀ p' o' s', stlS 1 p' o' s' = (G, o, some ((true, f) :: l)) → opP p' = 42 → cmpd p' = true → p'.length ≤ G.length + 5 + n → Z p' o' true j s') → Z G o false i (some l)
def ChoP (K M : Nat → Int) (lw : Int) (Z : List Int → Int → Bool → Nat → SK → Prop) (Fl : Int → Nat → Prop) (n : Nat) : Prop := ∀ (G : List Int) (o : Int) (i : Nat) (l : List SE), o = 8 - (n : Int) → G.length + 7 * n ≤ 60 → (∀ c k, pC K M lw n i = .inl (c, k) → Fl c k) → (∀ f j, pC K M lw n i = .inr (f, j) → eo K Z Fl G (o - 1) j (some ((false, f) :: l))) → Z (42 :: G) o false i (some l)
theorem lowR.mono {a c : Int} {G : List Int} (h : lowR a G) (hc : a ≤ c) : lowR c G := fun x r e => by have := h x r e; omega
theorem lowR.cons {m x : Int} {G : List Int} (h : rankS x < m) : lowR m (x :: G) := fun y r e => by cases e; exact h
theorem askA_no {x : Int} {G : List Int} (h : ¬ (40 ≤ x ∨ (1 ≤ rankS x ∧ rankS x ≤ 3))) : askA (x :: G) = false := by
  show (decide (opP (x :: G) = 42) && decide (40 ≤ x ∨ (1 ≤ rankS x ∧ rankS x ≤ 3))) = false
  rw [decide_eq_false h, Bool.and_false]
theorem btw_ar {k : Int} {p : List Int} (h : 32 ≤ k ∧ k ≤ 35) : btw k p = k - 26 := by
  have : k = 32 ∨ k = 33 ∨ k = 34 ∨ k = 35 := by omega
  rcases this with rfl | rfl | rfl | rfl <;> rfl
theorem beh_ar {K : Nat → Int} {Z : List Int → Int → Bool → Nat → SK → Prop} {Fl : Int → Nat → Prop} {Dn : Nat → SK → Prop} {p : List Int} {o : Int} {i : Nat} {s : SK} (h : 32 ≤ K i ∧ K i ≤ 35) (hh : Z ((K i - 26) :: (stlS (rankS (K i - 26)) p o s).1) (stlS (rankS (K i - 26)) p o s).2.1 false (i + 1) (stlS (rankS (K i - 26)) p o s).2.2) : behP K Z Fl Dn p o i s := by
  have hr : rankS (K i - 26) = 5 ∨ rankS (K i - 26) = 6 := by
    have : K i = 32 ∨ K i = 33 ∨ K i = 34 ∨ K i = 35 := by omega
    rcases this with q | q | q | q <;> rw [q] <;> decide
  unfold behP
  rw [btw_ar h, if_pos (by omega), if_neg (by omega)]
  exact hh
theorem mcC_ar {k : Int} (h : 32 ≤ k ∧ k ≤ 35) : mcC (k - 26) = k := by
  have : k = 32 ∨ k = 33 ∨ k = 34 ∨ k = 35 := by omega
  rcases this with rfl | rfl | rfl | rfl <;> rfl
theorem pro_of {K M : Nat → Int} {lw : Int} {Z : List Int → Int → Bool → Nat → SK → Prop} {Fl : Int → Nat → Prop} {Dn : Nat → SK → Prop} {n : Nat} (hC : CLo K M lw Z Fl Dn) (h1 : OneP K M lw Z Fl n) : ProP K M lw Z Fl n := by
  intro G o i l ho hl hna hlow h41 hE hO
  have T : ∀ (k : Nat) (f : Env → Int) (j : Nat) (p' : List Int) (o' : Int) (s' : SK), pP K M lw n i = pTl K oTO (pO K M lw n) k f j → stlS 6 p' o' s' = (G, o, some ((false, f) :: l)) → p'.length ≤ G.length + 1 → Z p' o' true j s' := by
    intro k
    induction k with
    | zero => intro f j p' o' s' he hs hp; exact hO f j he p' o' s' hs hp
    | succ k ih =>
      intro f j p' o' s' he hs hp
      by_cases q : oTO (K j) = true
      · have he2 : pTl K oTO (pO K M lw n) (k + 1) f j = pB (pO K M lw n (j + 1)) (fun g j' => pTl K oTO (pO K M lw n) k (fun e => jn (K j) (f e) (g e)) j') := by
          show (if oTO (K j) = true then _ else _) = _; rw [if_pos q]
        have q2 := q
        unfold oTO at q2; rw [decide_eq_true_eq] at q2
        have hr : rankS (K j - 26) = 6 := by rcases q2 with z | z <;> rw [z] <;> decide
        refine hC.2 p' o' j s' (by omega) (beh_ar (by omega) ?_)
        rw [hr, hs]
        refine h1 _ _ _ _ ho (by simp; omega) (fun _ => askA_no (by omega)) (fun c k' e => hE c k' (by rw [he, he2, pB_er e])) (fun g j' e => eo_low (lowR.cons (by omega)) (by simp; omega) (ih _ j' _ _ _ (by rw [he, he2, pB_ok e]) ?_ (by simp)))
        rw [stl_pop (by omega), em_jn (by omega), mcC_ar (by omega), if_neg (by omega)]
        exact stl_low hlow
      · exact hO f j (by rw [he]; show (if oTO (K j) = true then _ else _) = _; rw [if_neg q]) p' o' s' hs hp
  refine h1 G o i l ho (by omega) hna (fun c k e => hE c k (by rw [pP_eq]; exact pB_er e)) (fun f j e => eo_low (hlow.mono (by omega)) h41 (T 300 f j G o _ (by rw [pP_eq]; exact pB_ok e) (stl_low hlow) (by omega)))
theorem sum_of {K M : Nat → Int} {lw : Int} {Z : List Int → Int → Bool → Nat → SK → Prop} {Fl : Int → Nat → Prop} {Dn : Nat → SK → Prop} {n : Nat} (hC : CLo K M lw Z Fl Dn) (h1 : ProP K M lw Z Fl n) : SumP K M lw Z Fl n := by
  intro G o i l ho hl hna hlow h41 hE hO
  have T : ∀ (k : Nat) (f : Env → Int) (j : Nat) (p' : List Int) (o' : Int) (s' : SK), pS K M lw n i = pTl K oPM (pP K M lw n) k f j → stlS 5 p' o' s' = (G, o, some ((false, f) :: l)) → p'.length ≤ G.length + 2 → Z p' o' true j s' := by
    intro k
    induction k with
    | zero => intro f j p' o' s' he hs hp; exact hO f j he p' o' s' hs hp
    | succ k ih =>
      intro f j p' o' s' he hs hp
      by_cases q : oPM (K j) = true
      · have he2 : pTl K oPM (pP K M lw n) (k + 1) f j = pB (pP K M lw n (j + 1)) (fun g j' => pTl K oPM (pP K M lw n) k (fun e => jn (K j) (f e) (g e)) j') := by
          show (if oPM (K j) = true then _ else _) = _; rw [if_pos q]
        have q2 := q
        unfold oPM at q2; rw [decide_eq_true_eq] at q2
        have hr : rankS (K j - 26) = 5 := by rcases q2 with z | z <;> rw [z] <;> decide
        refine hC.2 p' o' j s' (by omega) (beh_ar (by omega) ?_)
        rw [hr, hs]
        refine h1 _ _ _ _ ho (by simp; omega) (fun _ => askA_no (by omega)) (lowR.cons (by omega)) (by simp; omega) (fun c k' e => hE c k' (by rw [he, he2, pB_er e])) (fun g j' e p2 o2 s2 hs2 hp2 => ih _ j' _ _ _ (by rw [he, he2, pB_ok e]) ?_ (by simp at hp2; omega))
        rw [stl_eq (show (5 : Int) ≤ 6 by omega) hs2, stl_pop (by omega), em_jn (by omega), mcC_ar (by omega), if_neg (by omega)]
        exact stl_low hlow
      · exact hO f j (by rw [he]; show (if oPM (K j) = true then _ else _) = _; rw [if_neg q]) p' o' s' hs hp
  refine h1 G o i l ho (by omega) hna (hlow.mono (by omega)) h41 (fun c k e => hE c k (by rw [pS_eq]; exact pB_er e)) (fun f j e p2 o2 s2 hs2 hp2 => T 300 f j p2 o2 s2 (by rw [pS_eq]; exact pB_ok e) (by rw [stl_eq (show (5 : Int) ≤ 6 by omega) hs2]; exact stl_low hlow) (by omega))
