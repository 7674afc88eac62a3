/-! THE GRAMMAR OF LAWS over tokens K (kinds) and M (numbers); lw: 9 or 10, whose names may stand. An answer: a fault and the token where, or the law's meaning and the next token. -/
abbrev PR : Type := (Int × Nat) ⊕ ((Env → Int) × Nat)
abbrev Lv : Type := (Nat → PR) × (Nat → PR) × (Nat → PR) × (Nat → PR)
def pB (r : PR) (c : (Env → Int) → Nat → PR) : PR := match r with
  | .inl e => .inl e
  | .inr q => c q.1 q.2
def pTl (K : Nat → Int) (o : Int → Bool) (it : Nat → PR) : Nat → (Env → Int) → Nat → PR
  | 0, f, j => .inr (f, j)
  | k + 1, f, j => if o (K j) = true then pB (it (j + 1)) (fun g j' => pTl K o it k (fun e => jn (K j) (f e) (g e)) j') else .inr (f, j)
def pCh (K : Nat → Int) (o : Int → Bool) (it : Nat → PR) (i : Nat) : PR := pB (it i) (fun f j => pTl K o it 300 f j)
def oPM (k : Int) : Bool := decide (k = 32 ∨ k = 33)
def oTO (k : Int) : Bool := decide (k = 34 ∨ k = 35)
def oOr (k : Int) : Bool := decide (k = 25)
def oAn (k : Int) : Bool := decide (k = 26)
def oAsk (k : Int) : Prop := (28 ≤ k ∧ k ≤ 31) ∨ (39 ≤ k ∧ k ≤ 40)
def nOf (k lw : Int) : Prop := (0 ≤ k ∧ k ≤ 4) ∨ (lw = 9 ∧ 5 ≤ k ∧ k ≤ 7) ∨ (lw ≠ 9 ∧ k = 8)
def oOp (k : Int) : Prop := k = 36 ∨ k = 33 ∨ k = 18 ∨ k = 20 ∨ k = 21
theorem oAsk_dec (k : Int) : oAsk k ∨ ¬ oAsk k := Classical.em _
noncomputable section
def pOn (K M : Nat → Int) (lw : Int) (lo : Option Lv) (i : Nat) : PR :=
  if K i = 41 then (if 9999 < M i then .inl (2, i) else .inr (fun _ => M i, i + 1))
  else if 0 ≤ K i ∧ K i ≤ 8 then (if (0 ≤ K i ∧ K i ≤ 4) ∨ (lw = 9 ∧ 5 ≤ K i ∧ K i ≤ 7) ∨ (lw ≠ 9 ∧ K i = 8) then .inr (fun e => e.1 (K i), i + 1) else .inl (5, i))
  else if ¬ (K i = 36 ∨ K i = 33 ∨ K i = 18 ∨ K i = 20 ∨ K i = 21) then .inl (1, i)
  else match lo with
    | none => .inl (3, i)
    | some L =>
      if K i = 36 then pB (L.1 (i + 1)) (fun f j => if K j = 37 then .inr (f, j + 1) else .inl (1, j))
      else if K i = 33 then pB (L.2.1 (i + 1)) (fun f j => .inr (fun e => aln e.2 44 (f e), j))
      else if K i = 18 then pB (L.2.1 (i + 1)) (fun f j => if K j = 19 then pB (L.2.1 (j + 1)) (fun g j' => .inr (fun e => jn 18 (f e) (g e), j')) else .inl (1, j))
      else if K i = 20 then pB (L.2.1 (i + 1)) (fun f j => .inr (fun e => aln e.2 20 (f e), j))
      else L.2.2.2 (i + 1)
def pPr (K : Nat → Int) (on : Nat → PR) : Nat → PR := pCh K oTO on
def pSu (K : Nat → Int) (on : Nat → PR) : Nat → PR := pCh K oPM (pPr K on)
def pAs (K : Nat → Int) (lo : Option Lv) (su : Nat → PR) (i : Nat) : PR :=
  if K i = 27 then (match lo with
    | none => .inl (3, i)
    | some L => pB (L.2.2.1 (i + 1)) (fun f j => .inr (fun e => aln e.2 27 (f e), j)))
  else pB (su i) (fun f j => if (28 ≤ K j ∧ K j ≤ 31) ∨ (39 ≤ K j ∧ K j ≤ 40) then pB (su (j + 1)) (fun g j' => .inr (fun e => jn (K j) (f e) (g e), j')) else .inl (1, j))
def pBo (K : Nat → Int) (as : Nat → PR) : Nat → PR := pCh K oAn as
def pEi (K : Nat → Int) (as : Nat → PR) : Nat → PR := pCh K oOr (pBo K as)
def pCo (K : Nat → Int) (su ei : Nat → PR) (i : Nat) : PR :=
  pB (ei i) (fun q j => if K j = 22 then pB (su (j + 1)) (fun f j2 => if K j2 = 23 then pB (su (j2 + 1)) (fun g j3 => if K j3 = 24 then .inr (fun e => if q e = 0 then g e else f e, j3 + 1) else .inl (1, j3)) else .inl (1, j2)) else .inl (1, j))
def pMk (K M : Nat → Int) (lw : Int) (lo : Option Lv) : Lv :=
  (pSu K (pOn K M lw lo), pOn K M lw lo, pAs K lo (pSu K (pOn K M lw lo)), pCo K (pSu K (pOn K M lw lo)) (pEi K (pAs K lo (pSu K (pOn K M lw lo)))))
/-- what stands below level n -/
def pLo (K M : Nat → Int) (lw : Int) : Nat → Option Lv
  | 0 => none
  | n + 1 => some (pMk K M lw (pLo K M lw n))
def pS (K M : Nat → Int) (lw : Int) (n : Nat) : Nat → PR := (pMk K M lw (pLo K M lw n)).1
def pO (K M : Nat → Int) (lw : Int) (n : Nat) : Nat → PR := (pMk K M lw (pLo K M lw n)).2.1
def pA (K M : Nat → Int) (lw : Int) (n : Nat) : Nat → PR := (pMk K M lw (pLo K M lw n)).2.2.1
def pC (K M : Nat → Int) (lw : Int) (n : Nat) : Nat → PR := (pMk K M lw (pLo K M lw n)).2.2.2
def pP (K M : Nat → Int) (lw : Int) (n : Nat) : Nat → PR := pPr K (pO K M lw n)
def pBt (K M : Nat → Int) (lw : Int) (n : Nat) : Nat → PR := pBo K (pA K M lw n)
def pE (K M : Nat → Int) (lw : Int) (n : Nat) : Nat → PR := pEi K (pA K M lw n)
end
theorem pS_eq {K M : Nat → Int} {lw : Int} {n : Nat} : pS K M lw n = pCh K oPM (pP K M lw n) := rfl
theorem pP_eq {K M : Nat → Int} {lw : Int} {n : Nat} : pP K M lw n = pCh K oTO (pO K M lw n) := rfl
theorem pE_eq {K M : Nat → Int} {lw : Int} {n : Nat} : pE K M lw n = pCh K oOr (pBt K M lw n) := rfl
theorem pBt_eq {K M : Nat → Int} {lw : Int} {n : Nat} : pBt K M lw n = pCh K oAn (pA K M lw n) := rfl
theorem pO_eq {K M : Nat → Int} {lw : Int} {n : Nat} : pO K M lw n = pOn K M lw (pLo K M lw n) := rfl
theorem pA_eq {K M : Nat → Int} {lw : Int} {n : Nat} : pA K M lw n = pAs K (pLo K M lw n) (pS K M lw n) := rfl
theorem pC_eq {K M : Nat → Int} {lw : Int} {n : Nat} : pC K M lw n = pCo K (pS K M lw n) (pE K M lw n) := rfl
theorem pLo_s {K M : Nat → Int} {lw : Int} {n : Nat} : pLo K M lw (n + 1) = some (pS K M lw n, pO K M lw n, pA K M lw n, pC K M lw n) := rfl
theorem pB_ok {r : PR} {c : (Env → Int) → Nat → PR} {f : Env → Int} {j : Nat} (h : r = .inr (f, j)) : pB r c = c f j := by rw [h]; rfl
theorem pB_er {r : PR} {c : (Env → Int) → Nat → PR} {e : Int × Nat} (h : r = .inl e) : pB r c = .inl e := by rw [h]; rfl
theorem pB_inv {r : PR} {c : (Env → Int) → Nat → PR} {q : (Env → Int) × Nat} (h : pB r c = .inr q) : ∃ f j, r = .inr (f, j) ∧ c f j = .inr q := by
  cases r with
  | inl e => simp [pB] at h
  | inr p => exact ⟨p.1, p.2, rfl, h⟩
/-! what is true of every meaning -/
def gd (lw : Int) (f : Env → Int) : Prop := Bd f ∧ loc f ∧ (lw ≠ 9 → indep f)
def gB (lw : Int) (f : Env → Int) : Prop := gd lw f ∧ isB f
theorem gd.map2 {lw : Int} {f g : Env → Int} {h : Int → Int → Int} (hf : gd lw f) (hg : gd lw g) (hb : ∀ x y, Mil x → Mil y → Mil (h x y)) : gd lw (fun e => h (f e) (g e)) :=
  ⟨fun e he => hb _ _ (hf.1 e he) (hg.1 e he), fun e e' h1 h2 => by show h (f e) (g e) = h (f e') (g e'); rw [hf.2.1 e e' h1 h2, hg.2.1 e e' h1 h2], fun hl e e' h1 h2 => by show h (f e) (g e) = h (f e') (g e'); rw [hf.2.2 hl e e' h1 h2, hg.2.2 hl e e' h1 h2]⟩
theorem Mil01 {x : Int} (h : x = 0 ∨ x = 1) : Mil x := by unfold Mil; omega
theorem iabs_b {x : Int} (h : Mil x) : 0 ≤ iabs x ∧ iabs x ≤ 1000000 := by unfold iabs; unfold Mil at h; split <;> omega
theorem jn_mil {c x y : Int} (hc : c = 18 ∨ 32 ≤ c ∧ c ≤ 35) (hx : Mil x) (hy : Mil y) : Mil (jn c x y) := by
  have hcl : ∀ z, Mil (clip z) := fun z => clip_r z
  rcases hc with rfl | h
  · unfold jn; rw [if_pos rfl]
    have := gcdI_le (iabs_b hx) (iabs_b hy)
    have := gcdI_nn (iabs x) (iabs y)
    unfold Mil; omega
  · have : c = 32 ∨ c = 33 ∨ c = 34 ∨ c = 35 := by omega
    rcases this with rfl | rfl | rfl | rfl
    · exact hcl _
    · exact hcl _
    · exact hcl _
    · show Mil (if y = 0 then 0 else Int.tdiv x y)
      split
      · unfold Mil; omega
      · have h1 : (Int.tdiv x y).natAbs ≤ 1000000 := by
          rw [Int.natAbs_tdiv]
          unfold Mil at hx
          exact Nat.le_trans (Nat.div_le_self _ _) (by omega)
        unfold Mil; omega
theorem jn_ask {c x y : Int} (hc : (28 ≤ c ∧ c ≤ 31) ∨ (39 ≤ c ∧ c ≤ 40)) : jn c x y = 0 ∨ jn c x y = 1 := by
  have : c = 28 ∨ c = 29 ∨ c = 30 ∨ c = 31 ∨ c = 39 ∨ c = 40 := by omega
  rcases this with rfl | rfl | rfl | rfl | rfl | rfl <;> exact bI_01 _
theorem jn_or {x y : Int} (hx : x = 0 ∨ x = 1) (hy : y = 0 ∨ y = 1) : jn 25 x y = if x = 0 ∧ y = 0 then 0 else 1 := by
  rcases hx with rfl | rfl <;> rcases hy with rfl | rfl <;> decide +kernel
theorem jn_an {x y : Int} (hx : x = 0 ∨ x = 1) (hy : y = 0 ∨ y = 1) : jn 26 x y = if x = 0 ∨ y = 0 then 0 else 1 := by
  rcases hx with rfl | rfl <;> rcases hy with rfl | rfl <;> decide +kernel
theorem gB_jn {lw c : Int} {f g : Env → Int} (hc : c = 25 ∨ c = 26) (hf : gB lw f) (hg : gB lw g) : gB lw (fun e => jn c (f e) (g e)) := by
  have hB : isB (fun e => jn c (f e) (g e)) := fun e => by
    rcases hc with rfl | rfl
    · show jn 25 (f e) (g e) = 0 ∨ jn 25 (f e) (g e) = 1
      rw [jn_or (hf.2 e) (hg.2 e)]; split <;> simp
    · show jn 26 (f e) (g e) = 0 ∨ jn 26 (f e) (g e) = 1
      rw [jn_an (hf.2 e) (hg.2 e)]; split <;> simp
  exact ⟨⟨hB.bd, fun e e' h1 h2 => by show jn c (f e) (g e) = jn c (f e') (g e'); rw [hf.1.2.1 e e' h1 h2, hg.1.2.1 e e' h1 h2], fun hl e e' h1 h2 => by show jn c (f e) (g e) = jn c (f e') (g e'); rw [hf.1.2.2 hl e e' h1 h2, hg.1.2.2 hl e e' h1 h2]⟩, hB⟩
theorem gB.ask {lw c : Int} {f g : Env → Int} (hc : (28 ≤ c ∧ c ≤ 31) ∨ (39 ≤ c ∧ c ≤ 40)) (hf : gd lw f) (hg : gd lw g) : gB lw (fun e => jn c (f e) (g e)) :=
  ⟨hf.map2 hg (fun x y _ _ => Mil01 (jn_ask hc)), fun e => jn_ask hc⟩
theorem gB.not {lw : Int} {f : Env → Int} (hf : gB lw f) : gB lw (fun e => aln e.2 27 (f e)) := by
  have he : ∀ e : Env, aln e.2 27 (f e) = 1 - f e := fun e => rfl
  have hB : isB (fun e => aln e.2 27 (f e)) := fun e => by have := hf.2 e; show aln e.2 27 (f e) = 0 ∨ aln e.2 27 (f e) = 1; rw [he]; omega
  exact ⟨⟨hB.bd, fun e e' h1 h2 => by show aln e.2 27 (f e) = aln e'.2 27 (f e'); rw [he, he, hf.1.2.1 e e' h1 h2], fun hl e e' h1 h2 => by show aln e.2 27 (f e) = aln e'.2 27 (f e'); rw [he, he, hf.1.2.2 hl e e' h1 h2]⟩, hB⟩
theorem gd.neg {lw : Int} {f : Env → Int} (hf : gd lw f) : gd lw (fun e => aln e.2 44 (f e)) := by
  have he : ∀ e : Env, aln e.2 44 (f e) = -f e := fun e => rfl
  exact ⟨fun e h => by have := hf.1 e h; show Mil (aln e.2 44 (f e)); rw [he]; unfold Mil at *; omega, fun e e' h1 h2 => by show aln e.2 44 (f e) = aln e'.2 44 (f e'); rw [he, he, hf.2.1 e e' h1 h2], fun hl e e' h1 h2 => by show aln e.2 44 (f e) = aln e'.2 44 (f e'); rw [he, he, hf.2.2 hl e e' h1 h2]⟩
theorem gd.rds {lw : Int} {f : Env → Int} (hf : gd lw f) : gd lw (fun e => aln e.2 20 (f e)) := by
  have he : ∀ e : Env, aln e.2 20 (f e) = e.2 (f e) := fun e => rfl
  exact ⟨fun e h => by show Mil (aln e.2 20 (f e)); rw [he]; exact h.2 _, fun e e' h1 h2 => by show aln e.2 20 (f e) = aln e'.2 20 (f e'); rw [he, he, hf.2.1 e e' h1 h2, h1], fun hl e e' h1 h2 => by show aln e.2 20 (f e) = aln e'.2 20 (f e'); rw [he, he, hf.2.2 hl e e' h1 h2, h1]⟩
theorem gd.cho {lw : Int} {q f g : Env → Int} (hq : gB lw q) (hf : gd lw f) (hg : gd lw g) : gd lw (fun e => if q e = 0 then g e else f e) :=
  ⟨fun e h => by show Mil (if q e = 0 then g e else f e); split; exact hg.1 e h; exact hf.1 e h, fun e e' h1 h2 => by show (if q e = 0 then g e else f e) = if q e' = 0 then g e' else f e'; rw [hq.1.2.1 e e' h1 h2, hf.2.1 e e' h1 h2, hg.2.1 e e' h1 h2], fun hl e e' h1 h2 => by show (if q e = 0 then g e else f e) = if q e' = 0 then g e' else f e'; rw [hq.1.2.2 hl e e' h1 h2, hf.2.2 hl e e' h1 h2, hg.2.2 hl e e' h1 h2]⟩
/-- every answer of a part is good, and takes a token at least -/
def gP (G : (Env → Int) → Prop) (it : Nat → PR) : Prop := ∀ i f j, it i = .inr (f, j) → G f ∧ i < j
theorem pTl_g {K : Nat → Int} {o : Int → Bool} {it : Nat → PR} {G : (Env → Int) → Prop} (hit : gP G it) (hc : ∀ c f g, o c = true → G f → G g → G (fun e => jn c (f e) (g e))) : ∀ (k : Nat) (f : Env → Int) (j : Nat) (f' : Env → Int) (j' : Nat), G f → pTl K o it k f j = .inr (f', j') → G f' ∧ j ≤ j'
  | 0, f, j, f', j', hf, h => by
    have := Sum.inr.inj h
    have h1 := congrArg Prod.fst this
    have h2 := congrArg Prod.snd this
    simp only at h1 h2
    exact ⟨h1 ▸ hf, by omega⟩
  | k + 1, f, j, f', j', hf, h => by
    unfold pTl at h
    by_cases q : o (K j) = true
    · rw [if_pos q] at h
      obtain ⟨g, j1, e1, e2⟩ := pB_inv h
      have h1 := hit _ _ _ e1
      have := pTl_g hit hc k _ _ _ _ (hc _ _ _ q hf h1.1) e2
      exact ⟨this.1, by omega⟩
    · rw [if_neg q] at h
      have := Sum.inr.inj h
      have h1 := congrArg Prod.fst this
      have h2 := congrArg Prod.snd this
      simp only at h1 h2
      exact ⟨h1 ▸ hf, by omega⟩
theorem pCh_g {K : Nat → Int} {o : Int → Bool} {it : Nat → PR} {G : (Env → Int) → Prop} (hit : gP G it) (hc : ∀ c f g, o c = true → G f → G g → G (fun e => jn c (f e) (g e))) : gP G (pCh K o it) := by
  intro i f j h
  obtain ⟨g, j1, e1, e2⟩ := pB_inv h
  have h1 := hit _ _ _ e1
  have := pTl_g hit hc 300 _ _ _ _ h1.1 e2
  exact ⟨this.1, by omega⟩
/-- behind a row of parts none of its signs stands -/
theorem pTl_end {K : Nat → Int} {o : Int → Bool} {it : Nat → PR} {G : (Env → Int) → Prop} (hit : gP G it) (hK : ∀ j, 301 ≤ j → K j = 43) (ho : o 43 = false) : ∀ (k : Nat) (f : Env → Int) (j : Nat) (f' : Env → Int) (j' : Nat), 301 ≤ j + k → pTl K o it k f j = .inr (f', j') → o (K j') = false
  | 0, f, j, f', j', hj, h => by
    have := congrArg Prod.snd (Sum.inr.inj h)
    simp only at this
    rw [← this, hK j (by omega)]; exact ho
  | k + 1, f, j, f', j', hj, h => by
    unfold pTl at h
    by_cases q : o (K j) = true
    · rw [if_pos q] at h
      obtain ⟨g, j1, e1, e2⟩ := pB_inv h
      have h1 := hit _ _ _ e1
      exact pTl_end hit hK ho k _ _ _ _ (by omega) e2
    · rw [if_neg q] at h
      have := congrArg Prod.snd (Sum.inr.inj h)
      simp only at this
      rw [← this]; simpa using q
theorem pCh_end {K : Nat → Int} {o : Int → Bool} {it : Nat → PR} {G : (Env → Int) → Prop} (hit : gP G it) (hK : ∀ j, 301 ≤ j → K j = 43) (ho : o 43 = false) {i : Nat} {f : Env → Int} {j : Nat} (h : pCh K o it i = .inr (f, j)) : o (K j) = false := by
  obtain ⟨g, j1, e1, e2⟩ := pB_inv h
  have h1 := hit _ _ _ e1
  exact pTl_end hit hK ho 300 _ _ _ _ (by omega) e2
theorem oPM_g {lw : Int} : ∀ c f g, oPM c = true → gd lw f → gd lw g → gd lw (fun e => jn c (f e) (g e)) := fun c f g hc hf hg => by
  unfold oPM at hc; rw [decide_eq_true_eq] at hc
  exact hf.map2 hg (fun x y hx hy => jn_mil (.inr (by omega)) hx hy)
theorem oTO_g {lw : Int} : ∀ c f g, oTO c = true → gd lw f → gd lw g → gd lw (fun e => jn c (f e) (g e)) := fun c f g hc hf hg => by
  unfold oTO at hc; rw [decide_eq_true_eq] at hc
  exact hf.map2 hg (fun x y hx hy => jn_mil (.inr (by omega)) hx hy)
theorem oOr_g {lw : Int} : ∀ c f g, oOr c = true → gB lw f → gB lw g → gB lw (fun e => jn c (f e) (g e)) := fun c f g hc hf hg => by
  unfold oOr at hc; rw [decide_eq_true_eq] at hc
  exact gB_jn (.inl hc) hf hg
theorem oAn_g {lw : Int} : ∀ c f g, oAn c = true → gB lw f → gB lw g → gB lw (fun e => jn c (f e) (g e)) := fun c f g hc hf hg => by
  unfold oAn at hc; rw [decide_eq_true_eq] at hc
  exact gB_jn (.inr hc) hf hg
theorem inr_inj {f g : Env → Int} {i j : Nat} (h : (.inr (f, i) : PR) = .inr (g, j)) : f = g ∧ i = j := by
  have := Sum.inr.inj h
  exact ⟨congrArg Prod.fst this, congrArg Prod.snd this⟩
theorem inl_inj {a c : Int} {i j : Nat} (h : (.inl (a, i) : PR) = .inl (c, j)) : a = c ∧ i = j := by
  have := Sum.inl.inj h
  exact ⟨congrArg Prod.fst this, congrArg Prod.snd this⟩
theorem pOn_g {K M : Nat → Int} {lw : Int} (hM : ∀ i, K i = 41 → 0 ≤ M i) {lo : Option Lv} (hlo : ∀ L, lo = some L → gP (gd lw) L.1 ∧ gP (gd lw) L.2.1 ∧ gP (gd lw) L.2.2.2) : gP (gd lw) (pOn K M lw lo) := by
  intro i f j h
  unfold pOn at h
  by_cases h1 : K i = 41
  · rw [if_pos h1] at h
    by_cases h2 : 9999 < M i
    · rw [if_pos h2] at h; cases h
    · rw [if_neg h2] at h
      obtain ⟨rfl, rfl⟩ := inr_inj h
      have := hM i h1
      exact ⟨⟨fun e _ => by show Mil (M i); unfold Mil; omega, fun _ _ _ _ => rfl, fun _ _ _ _ _ => rfl⟩, by omega⟩
  · rw [if_neg h1] at h
    by_cases h2 : 0 ≤ K i ∧ K i ≤ 8
    · rw [if_pos h2] at h
      by_cases h3 : (0 ≤ K i ∧ K i ≤ 4) ∨ (lw = 9 ∧ 5 ≤ K i ∧ K i ≤ 7) ∨ (lw ≠ 9 ∧ K i = 8)
      · rw [if_pos h3] at h
        obtain ⟨rfl, rfl⟩ := inr_inj h
        exact ⟨⟨fun e he => he.1 _ h2.1 h2.2, fun e e' _ q => q _ h2.1 h2.2, fun hl e e' _ q => q _ (by omega)⟩, by omega⟩
      · rw [if_neg h3] at h; cases h
    · rw [if_neg h2] at h
      by_cases h3 : ¬ (K i = 36 ∨ K i = 33 ∨ K i = 18 ∨ K i = 20 ∨ K i = 21)
      · rw [if_pos h3] at h; cases h
      · rw [if_neg h3] at h
        cases lo with
        | none => cases h
        | some L =>
          obtain ⟨l1, l2, l3⟩ := hlo L rfl
          simp only at h
          by_cases c1 : K i = 36
          · rw [if_pos c1] at h
            obtain ⟨g, j1, e1, e2⟩ := pB_inv h
            have := l1 _ _ _ e1
            by_cases q : K j1 = 37
            · rw [if_pos q] at e2
              obtain ⟨rfl, rfl⟩ := inr_inj e2
              exact ⟨this.1, by omega⟩
            · rw [if_neg q] at e2; cases e2
          rw [if_neg c1] at h
          by_cases c2 : K i = 33
          · rw [if_pos c2] at h
            obtain ⟨g, j1, e1, e2⟩ := pB_inv h
            have := l2 _ _ _ e1
            obtain ⟨rfl, rfl⟩ := inr_inj e2
            exact ⟨this.1.neg, by omega⟩
          rw [if_neg c2] at h
          by_cases c3 : K i = 18
          · rw [if_pos c3] at h
            obtain ⟨g, j1, e1, e2⟩ := pB_inv h
            have h5 := l2 _ _ _ e1
            by_cases q : K j1 = 19
            · rw [if_pos q] at e2
              obtain ⟨g2, j2, e3, e4⟩ := pB_inv e2
              have h6 := l2 _ _ _ e3
              obtain ⟨rfl, rfl⟩ := inr_inj e4
              exact ⟨h5.1.map2 h6.1 (fun x y hx hy => jn_mil (.inl rfl) hx hy), by omega⟩
            · rw [if_neg q] at e2; cases e2
          rw [if_neg c3] at h
          by_cases c4 : K i = 20
          · rw [if_pos c4] at h
            obtain ⟨g, j1, e1, e2⟩ := pB_inv h
            have := l2 _ _ _ e1
            obtain ⟨rfl, rfl⟩ := inr_inj e2
            exact ⟨this.1.rds, by omega⟩
          rw [if_neg c4] at h
          have := l3 _ _ _ h
          exact ⟨this.1, by omega⟩
theorem pAs_g {K : Nat → Int} {lw : Int} {lo : Option Lv} {su : Nat → PR} (hs : gP (gd lw) su) (hlo : ∀ L, lo = some L → gP (gB lw) L.2.2.1) : gP (gB lw) (pAs K lo su) := by
  intro i f j h
  unfold pAs at h
  by_cases h1 : K i = 27
  · rw [if_pos h1] at h
    cases lo with
    | none => cases h
    | some L =>
      simp only at h
      obtain ⟨g, j1, e1, e2⟩ := pB_inv h
      have := hlo L rfl _ _ _ e1
      obtain ⟨rfl, rfl⟩ := inr_inj e2
      exact ⟨this.1.not, by omega⟩
  · rw [if_neg h1] at h
    obtain ⟨g, j1, e1, e2⟩ := pB_inv h
    have h5 := hs _ _ _ e1
    by_cases q : (28 ≤ K j1 ∧ K j1 ≤ 31) ∨ (39 ≤ K j1 ∧ K j1 ≤ 40)
    · rw [if_pos q] at e2
      obtain ⟨g2, j2, e3, e4⟩ := pB_inv e2
      have h6 := hs _ _ _ e3
      obtain ⟨rfl, rfl⟩ := inr_inj e4
      exact ⟨gB.ask q h5.1 h6.1, by omega⟩
    · rw [if_neg q] at e2; cases e2
theorem pCo_g {K : Nat → Int} {lw : Int} {su ei : Nat → PR} (hs : gP (gd lw) su) (he : gP (gB lw) ei) : gP (gd lw) (pCo K su ei) := by
  intro i f j h
  unfold pCo at h
  obtain ⟨q, j1, e1, e2⟩ := pB_inv h
  have h1 := he _ _ _ e1
  by_cases q1 : K j1 = 22
  · rw [if_pos q1] at e2
    obtain ⟨f1, j2, e3, e4⟩ := pB_inv e2
    have h2 := hs _ _ _ e3
    by_cases q2 : K j2 = 23
    · rw [if_pos q2] at e4
      obtain ⟨f2, j3, e5, e6⟩ := pB_inv e4
      have h3 := hs _ _ _ e5
      by_cases q3 : K j3 = 24
      · rw [if_pos q3] at e6
        obtain ⟨rfl, rfl⟩ := inr_inj e6
        exact ⟨gd.cho h1.1 h2.1 h3.1, by omega⟩
      · rw [if_neg q3] at e6; cases e6
    · rw [if_neg q2] at e4; cases e4
  · rw [if_neg q1] at e2; cases e2
theorem pMk_g {K M : Nat → Int} {lw : Int} (hM : ∀ i, K i = 41 → 0 ≤ M i) {lo : Option Lv} (hlo : ∀ L, lo = some L → gP (gd lw) L.1 ∧ gP (gd lw) L.2.1 ∧ gP (gB lw) L.2.2.1 ∧ gP (gd lw) L.2.2.2) : gP (gd lw) (pMk K M lw lo).1 ∧ gP (gd lw) (pMk K M lw lo).2.1 ∧ gP (gB lw) (pMk K M lw lo).2.2.1 ∧ gP (gd lw) (pMk K M lw lo).2.2.2 := by
  have h1 : gP (gd lw) (pOn K M lw lo) := pOn_g hM (fun L e => ⟨(hlo L e).1, (hlo L e).2.1, (hlo L e).2.2.2⟩)
  have h2 : gP (gd lw) (pSu K (pOn K M lw lo)) := pCh_g (pCh_g h1 oTO_g) oPM_g
  have h3 : gP (gB lw) (pAs K lo (pSu K (pOn K M lw lo))) := pAs_g h2 (fun L e => (hlo L e).2.2.1)
  have h4 : gP (gB lw) (pEi K (pAs K lo (pSu K (pOn K M lw lo)))) := pCh_g (pCh_g h3 oAn_g) oOr_g
  exact ⟨h2, h1, h3, pCo_g h2 h4⟩
theorem pLo_g {K M : Nat → Int} {lw : Int} (hM : ∀ i, K i = 41 → 0 ≤ M i) : ∀ n : Nat, ∀ L, pLo K M lw n = some L → gP (gd lw) L.1 ∧ gP (gd lw) L.2.1 ∧ gP (gB lw) L.2.2.1 ∧ gP (gd lw) L.2.2.2
  | 0, L, h => by cases h
  | n + 1, L, h => by
    have := pMk_g (lw := lw) hM (pLo_g hM n)
    have e : pMk K M lw (pLo K M lw n) = L := Option.some.inj h
    rw [e] at this; exact this
theorem pS_g {K M : Nat → Int} {lw : Int} (hM : ∀ i, K i = 41 → 0 ≤ M i) (n : Nat) : gP (gd lw) (pS K M lw n) := (pMk_g hM (pLo_g hM n)).1
theorem pO_g {K M : Nat → Int} {lw : Int} (hM : ∀ i, K i = 41 → 0 ≤ M i) (n : Nat) : gP (gd lw) (pO K M lw n) := (pMk_g hM (pLo_g hM n)).2.1
theorem pA_g {K M : Nat → Int} {lw : Int} (hM : ∀ i, K i = 41 → 0 ≤ M i) (n : Nat) : gP (gB lw) (pA K M lw n) := (pMk_g hM (pLo_g hM n)).2.2.1
theorem pC_g {K M : Nat → Int} {lw : Int} (hM : ∀ i, K i = 41 → 0 ≤ M i) (n : Nat) : gP (gd lw) (pC K M lw n) := (pMk_g hM (pLo_g hM n)).2.2.2
theorem pP_g {K M : Nat → Int} {lw : Int} (hM : ∀ i, K i = 41 → 0 ≤ M i) (n : Nat) : gP (gd lw) (pP K M lw n) := pCh_g (pO_g hM n) oTO_g
theorem pBt_g {K M : Nat → Int} {lw : Int} (hM : ∀ i, K i = 41 → 0 ≤ M i) (n : Nat) : gP (gB lw) (pBt K M lw n) := pCh_g (pA_g hM n) oAn_g
theorem pE_g {K M : Nat → Int} {lw : Int} (hM : ∀ i, K i = 41 → 0 ≤ M i) (n : Nat) : gP (gB lw) (pE K M lw n) := pCh_g (pBt_g hM n) oOr_g
