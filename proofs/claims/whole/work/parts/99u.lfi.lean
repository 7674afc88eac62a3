/-! behind two calls: the law's invariant again -/
theorem fin_deed {σ σ1 σ2 A A' IA X : Mem} {L L' IL : List Mem} {tx : Nat → Txt} {n k : Int} (hC : fullC σ A L IA IL tx X) (hM : fullM σ A L IA IL tx X) (hJ : LJ A L IA IL X) (hn : σ 74 24 ≤ n) (c1 : vsC σ1 A' L' tx) (f1 : Fr PLC σ σ1) (m2 : vsM σ2 A' L' tx) (f2 : stM σ1 σ2 k) (hk : k ≤ 10000) (hs : stI A' L') (he : extA A A') : LI σ2 (n + 10000) := by
  have a1 : ∀ q : Nat, 74 ≤ q → σ1 q = σ q := fun q hq => f1 q (by simp; omega)
  have a2 : ∀ q : Nat, q < 74 → σ2 q = σ1 q := fun q hq => f2.2.1 q (by simp; omega)
  exact ⟨A', L', IA, IL, tx, X, (hC.deed c1 f1).other a2, (hM.other a1).deed m2 f2.1 (f2.2.1 76 (by simp)) (f2.2.1 78 (by simp)), hJ.step hs he, by have := f2.2.2; rw [a1 74 (by omega)] at this; omega⟩
theorem fin_g {σ σ1 σ2 A IA X : Mem} {L IL : List Mem} {tx : Nat → Txt} {n : Int} (hC : fullC σ A L IA IL tx X) (hM : fullM σ A L IA IL tx X) (hJ : LJ A L IA IL X) (hn : σ 74 24 ≤ n) (c1 : fullC σ1 A L IA IL tx X) (a1 : ∀ q : Nat, 74 ≤ q → σ1 q = σ q) (v2 : vwM σ2 A tx) (f2 : ∀ q : Nat, q < 79 → q ≠ 75 → σ2 q = σ1 q) (h75 : ∀ j : Int, (j = 4 ∨ (139 ≤ j ∧ j < 2089)) → σ2 75 j = σ1 75 j) : LI σ2 (n + 10000) := by
  have hM1 := hM.other a1
  exact ⟨A, L, IA, IL, tx, X, c1.other (fun q hq => f2 q (by omega) (by omega)), hM1.vw (r := 0) v2 (fun _ _ => trivial) h75 (f2 74 (by omega) (by omega)) (f2 76 (by omega) (by omega)) (f2 78 (by omega) (by omega)), hJ, by rw [f2 74 (by omega) (by omega), a1 74 (by omega)]; omega⟩
theorem fin_ask {σ σ1 σ2 A IA X : Mem} {L IL : List Mem} {tx : Nat → Txt} {n : Int} (hC : fullC σ A L IA IL tx X) (hM : fullM σ A L IA IL tx X) (hJ : LJ A L IA IL X) (hn : σ 74 24 ≤ n) (f1 : Fr ScrC σ σ1) (v2 : vwM σ2 A tx) (f2 : ∀ q : Nat, q < 79 → σ2 q = σ1 q) : LI σ2 (n + 10000) :=
  fin_g hC hM hJ hn (hC.ask f1) (fun q hq => f1 q (by simp; omega)) v2 (fun q h1 _ => f2 q h1) (fun j _ => by rw [f2 75 (by omega)])
theorem fullC.vs {σ τ A A' : Mem} {L L' : List Mem} {IA : Mem} {IL : List Mem} {tx : Nat → Txt} {X : Mem} (h : fullC σ A L IA IL tx X) (hv : vsC τ A' L' tx) (hf : ∀ q : Nat, (17 ≤ q ∧ q ≤ 31 ∨ q = 35 ∨ q = 40) → τ q = σ q) : fullC τ A' L' IA IL tx X :=
  ⟨hv, h.2.1.fr (fun q h1 h2 => hf q (by omega)), h.2.2.1.fr (by rw [hf 30 (by omega)]) (hf 31 (by omega)) (by rw [hf 35 (by omega)]) (by rw [hf 35 (by omega)]), by unfold netC; rw [hf 40 (by omega)]; exact h.2.2.2⟩
theorem fin_vs {σ σ1 σ2 A A' IA X : Mem} {L L' IL : List Mem} {tx : Nat → Txt} {n k : Int} (hC : fullC σ A L IA IL tx X) (hM : fullM σ A L IA IL tx X) (hJ : LJ A L IA IL X) (hn : σ 74 24 ≤ n) (c1 : fullC σ1 A' L' IA IL tx X) (a1 : ∀ q : Nat, 74 ≤ q → σ1 q = σ q) (m2 : vsM σ2 A' L' tx) (f2 : stM σ1 σ2 k) (hk : k ≤ 10000) (hs : stI A' L') (he : extA A A') : LI σ2 (n + 10000) := by
  have a2 : ∀ q : Nat, q < 74 → σ2 q = σ1 q := fun q hq => f2.2.1 q (by simp; omega)
  exact ⟨A', L', IA, IL, tx, X, c1.other a2, (hM.other a1).deed m2 f2.1 (f2.2.1 76 (by simp)) (f2.2.1 78 (by simp)), hJ.step hs he, by have := f2.2.2; rw [a1 74 (by omega)] at this; omega⟩
theorem fin_all {σ σ1 σ2 A A' IA X X' : Mem} {L L' IL : List Mem} {tx tx' : Nat → Txt} {n : Int} (hC : fullC σ A L IA IL tx X) (hM : fullM σ A L IA IL tx X) (hJ : LJ A L IA IL X) (hn : σ 74 24 ≤ n) {IA' : Mem} {IL' : List Mem} (c1 : fullC σ1 A' L' IA' IL' tx' X') (a1 : ∀ q : Nat, 74 ≤ q → σ1 q = σ q) (m2 : fullM σ2 A' L' IA' IL' tx' X') (a2 : ∀ q : Nat, q < 74 → σ2 q = σ1 q) (h24 : σ2 74 24 = σ1 74 24) (hJ' : LJ A' L' IA' IL' X') : LI σ2 (n + 10000) :=
  ⟨A', L', IA', IL', tx', X', c1.other a2, m2, hJ', by rw [h24, a1 74 (by omega)]; omega⟩
theorem fin_fore {σ σ1 σ2 A IA X : Mem} {L IL : List Mem} {tx : Nat → Txt} {n : Int} (hC : fullC σ A L IA IL tx X) (hM : fullM σ A L IA IL tx X) (hJ : LJ A L IA IL X) (hn : σ 74 24 ≤ n) (c1 : fullC σ1 A L IA IL tx X) (a1 : ∀ q : Nat, 74 ≤ q → σ1 q = σ q) (m2 : vsM σ2 A L tx) (j2 : ∀ j : Int, j ≠ 24 → σ2 74 j = σ1 74 j) (f2 : Fr [74, 75, 80, 81, 82, 83] σ1 σ2) (k2 : σ2 74 24 ≤ σ1 74 24 + 360) : LI σ2 (n + 10000) :=
  ⟨A, L, IA, IL, tx, X, c1.other (fun q hq => f2 q (by simp; omega)), (hM.other a1).deed m2 j2 (f2 76 (by simp)) (f2 78 (by simp)), hJ, by rw [a1 74 (by omega)] at k2; omega⟩
/-- the tape alone -/
theorem fullC.tape {σ τ A : Mem} {L : List Mem} {IA : Mem} {IL : List Mem} {tx : Nat → Txt} {X X' : Mem} (h : fullC σ A L IA IL tx X) (ht : tapC τ X') (hf : ∀ q : Nat, q ≠ 30 → q ≠ 31 → τ q = σ q) : fullC τ A L IA IL tx X' := by
  obtain ⟨v1, v2, v3, v4⟩ := h.1.1
  exact ⟨⟨⟨v1.congr (fun j hj => hf _ (by omega) (by omega)), v2.congr (fun q h1 h2 => hf q (by omega) (by omega)), v3, fun i hi => (v4 i hi).congr (fun j hj => hf _ (by omega) (by omega))⟩, h.1.2.congr (hf 15 (by omega) (by omega)) (hf (15 + 1) (by omega) (by omega))⟩, h.2.1.fr (fun q h1 h2 => hf q (by omega) (by omega)), ht, by unfold netC; rw [hf 40 (by omega) (by omega)]; exact h.2.2.2⟩
theorem fullM.tape {σ τ A : Mem} {L : List Mem} {IA : Mem} {IL : List Mem} {tx : Nat → Txt} {X X' : Mem} (h : fullM σ A L IA IL tx X) (ht : tapM τ X') (hf : ∀ q : Nat, q ≠ 74 → q ≠ 78 → τ q = σ q) (h74 : ∀ j : Int, j ≠ 4 → τ 74 j = σ 74 j) : fullM τ A L IA IL tx X' := by
  obtain ⟨h1, h2, h3, h4, h5⟩ := h.1.1
  refine ⟨⟨⟨?_, ?_, h3, fun i hi => (h4 i hi).congr (by omega) (fun j _ _ => by rw [hf 77 (by omega) (by omega)]), ?_⟩, h.1.2.1.keep (fun j _ => by rw [hf 75 (by omega) (by omega)]), by rw [h74 23 (by omega), h74 24 (by omega)]; exact h.1.2.2⟩, h.2.1.fr (hf 76 (by omega) (by omega)), ht⟩
  · unfold toldM at *; rw [hf 75 (by omega) (by omega)]; exact h1
  · unfold nowM at *; rw [hf 75 (by omega) (by omega)]; exact h2
  · unfold nmOK; rw [hf 80 (by omega) (by omega)]; exact h5
theorem stI.q10 {A : Mem} {L : List Mem} {k v : Int} (h : stI A L) (hk : k ≠ 0 ∧ k ≠ 1) : stI (mset A 10 k v) L :=
  h.told (mset_miss (by omega)) (mset_miss (by omega)) (fun r _ _ => ⟨mset_off (by omega), mset_off (by omega), mset_off (by omega), mset_off (by omega), mset_off (by omega)⟩) (fun g _ _ => ⟨mset_off (by omega), mset_off (by omega), mset_off (by omega), mset_off (by omega)⟩)
theorem extA.q10 {A : Mem} {k v : Int} (hk : k ≠ 0 ∧ (k = 2 → A 10 2 ≤ v)) : extA A (mset A 10 k v) := by
  refine ⟨?_, by rw [mset_miss (by omega)]; exact Int.le_refl _, fun r _ _ => mset_off (by omega)⟩
  by_cases q : k = 2
  · rw [mset_hit q.symm]; exact hk.2 q
  · rw [mset_miss (by omega)]; exact Int.le_refl _
theorem stI.said {A : Mem} {L : List Mem} {g r s : Int} (h : stI A L) : stI (saidS A g r s) L := by
  unfold saidS
  refine stI.q10 (k := 3) ?_ (by omega)
  exact h.told (by simp (disch := omega) only [mset_off]) (by simp (disch := omega) only [mset_off]) (fun r _ _ => by simp (disch := omega) only [mset_off]; exact ⟨trivial, trivial, trivial, trivial, trivial⟩) (fun g _ _ => by simp (disch := omega) only [mset_off]; exact ⟨trivial, trivial, trivial, trivial⟩)
theorem extA.said {A : Mem} {g r s : Int} : extA A (saidS A g r s) := by
  unfold saidS
  exact ⟨by simp (disch := omega) only [mset_off, mset_miss]; omega, by simp (disch := omega) only [mset_off, mset_miss]; omega, fun r _ _ => by simp (disch := omega) only [mset_off]⟩
theorem LJ.text {A : Mem} {L : List Mem} {IA : Mem} {IL : List Mem} {X : Mem} (h : LJ A L IA IL X) : LJ (txtA A X) L IA IL (txtX A X) := by
  have hx := h.2.2.2.2.txt (A := A)
  have : txtA A X = A ∨ txtA A X = mset A 10 2 (A 10 2 + 1) := by
    unfold txtA
    split
    · split
      · exact .inl rfl
      · exact .inr rfl
    · exact .inl rfl
  rcases this with e | e
  · rw [e]; exact h.tape hx
  · rw [e]; exact (h.step (h.1.q10 (by omega)) (extA.q10 (by omega))).tape hx
theorem undoQ.fr {L : List Mem} {A : Mem} {tx : Nat → Txt} {v : Int} {σ τ : Mem} (h : undoQ L A tx v σ τ) : Fr PLC σ τ := by
  cases L with
  | nil => exact h.2.2
  | cons B L => exact h.2.2
