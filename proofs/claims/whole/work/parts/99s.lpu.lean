/-! THE LAW'S LOOP, the pure side: what is true of every state whatever runs -/
theorem passS_ok {A : Mem} {tx : Nat → Txt} (h : InvA A) (hd : A 0 2 < 9999) : InvA (passS A tx).1 := by
  have hc := h.1
  have hR := rainS_ok h
  have h2 := h.2.2.2.1
  have hR10 : rainS A 10 = A 10 := by unfold rainS; rw [mset_ne (by omega), mset_ne (by omega)]
  have hG := goersN_ok (tx := tx) hR (A 10 1).toNat (by rw [hR10]; omega)
  have hS := swN_ok (tx := tx) hG.1 (A 10 0).toNat (by rw [hG.2.1 10 (by omega), hR10]; omega)
  unfold passS
  exact hS.1.core (by omega) ⟨fun q => by omega, fun q => by omega, fun _ => by omega, fun q => by omega⟩
def extA (A A' : Mem) : Prop := A 10 2 ≤ A' 10 2 ∧ A 10 0 ≤ A' 10 0 ∧ ∀ r : Int, 0 ≤ r → r < A 10 0 → A' 14 r = A 14 r
theorem extA.rf (A : Mem) : extA A A := ⟨Int.le_refl _, Int.le_refl _, fun _ _ _ => rfl⟩
theorem extA.tr {A B C : Mem} (h1 : extA A B) (h2 : extA B C) : extA A C := ⟨Int.le_trans h1.1 h2.1, Int.le_trans h1.2.1 h2.2.1, fun r a b => by rw [h2.2.2 r a (by have := h1.2.1; omega)]; exact h1.2.2 r a b⟩
theorem extA.told {A A' : Mem} (h : ∀ q, 8 ≤ q → A' q = A q) : extA A A' := ⟨by rw [h 10 (by omega)]; exact Int.le_refl _, by rw [h 10 (by omega)]; exact Int.le_refl _, fun r _ _ => by rw [h 14 (by omega)]⟩
theorem extA.road {A : Mem} {a b n th : Int} : extA A (roadS A a b n th) := by
  unfold roadS
  refine ⟨?_, ?_, fun r x y => ?_⟩
  · simp (disch := omega) only [mset_off, mset_miss]; omega
  · simp (disch := omega) only [mset_hit]; omega
  · simp (disch := omega) only [mset_off, mset_miss]
theorem extA.goer {A : Mem} {t m : Int} : extA A (goerS A t m) := by
  unfold goerS
  refine ⟨?_, ?_, fun r x y => ?_⟩
  · simp (disch := omega) only [mset_off, mset_miss]; omega
  · simp (disch := omega) only [mset_off, mset_miss]; omega
  · simp (disch := omega) only [mset_off, mset_miss]
theorem goneS_told {A : Mem} {tx : Nat → Txt} {g r : Int} {q : Nat} (h : 8 ≤ q) : goneS A tx g r q = A q := by unfold goneS; exact walkS_told h
theorem layS_told {A : Mem} {r : Int} {q : Nat} (h : 8 ≤ q) : layS A r q = A q := by unfold layS; rw [mset_ne (by omega), mset_ne (by omega)]
theorem coilS_told {A : Mem} {m : Int} {q : Nat} (h : 8 ≤ q) : coilS A m q = A q := by unfold coilS; rw [mset_ne (by omega)]
theorem doneS_told {A : Mem} {tx : Nat → Txt} {x : Int} {q : Nat} (h : 8 ≤ q) : doneS A tx x q = A q := by
  unfold doneS
  repeat' split
  all_goals first
    | rfl
    | exact goneS_told h
    | exact layS_told h
    | exact coilS_told h
    | exact passS_told h
theorem deedN_told {A : Mem} {tx : Nat → Txt} {q : Nat} (h : 8 ≤ q) : ∀ n : Nat, deedN tx A n q = A q
  | 0 => rfl
  | n + 1 => by show doneS _ tx _ q = A q; rw [doneS_told h, mset_ne (by omega)]; exact deedN_told h n
theorem dayN_J {A : Mem} {L : List Mem} {tx : Nat → Txt} (hs : stI A L) (hI : InvA A) : ∀ n : Nat, A 0 2 + n ≤ 9999 → stI (dayN tx A L n).1 (dayN tx A L n).2.1 ∧ InvA (dayN tx A L n).1
  | 0, _ => ⟨hs, hI⟩
  | n + 1, h => by
    have ih := dayN_J (tx := tx) hs hI n (by omega)
    have hd := dayN_day (A := A) (L := L) (tx := tx) n
    exact ⟨ih.1.push ih.2 (fun q hq => passS_told hq), passS_ok ih.2 (by omega)⟩
theorem InvA.coil {A : Mem} {m : Int} (h : InvA A) (hm : 0 ≤ m) (hc : A 0 0 + m ≤ 999) : InvA (coilS A m) := by
  have := h.2.2.2.1
  unfold coilS
  exact h.core (by omega) ⟨fun _ => by omega, fun q => by omega, fun q => by omega, fun q => by omega⟩
def PJ (A : Mem) (L : List Mem) (A' : Mem) (L' : List Mem) : Prop := stI A' L' ∧ InvA A' ∧ extA A A'
theorem playS_J {A : Mem} {L : List Mem} {tx : Nat → Txt} {c : Cl} (hs : stI A L) (hI : InvA A) (hc : clOK c) : PJ A L (playS A L tx c).2.1 (playS A L tx c).2.2 := by
  have h0 : PJ A L A L := ⟨hs, hI, extA.rf A⟩
  have hday := hI.2.2.2.1
  unfold playS
  rcases hc with hc | hc | hc | hc | hc | hc | hc
  · rw [if_neg (by omega), if_neg (by omega), if_neg (by omega), if_neg (by omega), if_neg (by omega), if_neg (by omega)]; exact h0
  · rw [if_pos hc.1]
    by_cases q : A 10 0 < 16 ∧ c.2.1 ≠ c.2.2.1
    · rw [if_pos q]; exact ⟨hs.road hI, hI.road q.1 ⟨hc.2.1.1, hc.2.1.2, hc.2.2.1.1, hc.2.2.1.2, q.2⟩ hc.2.2.2.1 hc.2.2.2.2, extA.road⟩
    · rw [if_neg q]; exact h0
  · rw [if_neg (by omega), if_pos hc.1]
    by_cases q : A 10 1 < 6
    · rw [if_pos q]; exact ⟨hs.goer hI, hI.goer q hc.2.1 hc.2.2, extA.goer⟩
    · rw [if_neg q]; exact h0
  · rw [if_neg (by omega), if_neg (by omega), if_pos hc.1]
    by_cases q : canGoV A tx c.2.2.1 c.2.1 = true
    · rw [if_pos q]
      have w := canGoV_spec q
      exact ⟨hs.push hI (fun q hq => goneS_told hq), hI.gone w.1 w.2.1 w.2.2, extA.told (fun q hq => goneS_told hq)⟩
    · rw [if_neg q]; exact h0
  · rw [if_neg (by omega), if_neg (by omega), if_neg (by omega), if_pos hc.1]
    by_cases q : canLayS A c.2.1 = true
    · rw [if_pos q]; exact ⟨hs.push hI (fun q hq => layS_told hq), hI.lay q, extA.told (fun q hq => layS_told hq)⟩
    · rw [if_neg q]; exact h0
  · rw [if_neg (by omega), if_neg (by omega), if_neg (by omega), if_neg (by omega), if_pos hc.1]
    by_cases q : A 0 0 + c.2.1 ≤ 999
    · rw [if_pos q]; exact ⟨hs.push hI (fun q hq => coilS_told hq), hI.coil (by omega) q, extA.told (fun q hq => coilS_told hq)⟩
    · rw [if_neg q]; exact h0
  · rw [if_neg (by omega), if_neg (by omega), if_neg (by omega), if_neg (by omega), if_neg (by omega), if_pos hc.1]
    have h := dayN_J (tx := tx) hs hI (min c.2.1 (9999 - A 0 2)).toNat (by omega)
    exact ⟨h.1, h.2, extA.told (fun q hq => dayN_told hq _)⟩
theorem playL_J {tx : Nat → Txt} : ∀ (cs : List Cl) (k : Int) (A : Mem) (L : List Mem), (∀ c ∈ cs, clOK c) → stI A L → InvA A → PJ A L (playL tx cs k A L).2.1 (playL tx cs k A L).2.2
  | [], k, A, L, _, hs, hI => ⟨hs, hI, extA.rf A⟩
  | c :: cs, k, A, L, hc, hs, hI => by
    have h := playS_J (tx := tx) hs hI (hc c List.mem_cons_self)
    show PJ A L (if (playS A L tx c).1 = 0 then (k, (playS A L tx c).2.1, (playS A L tx c).2.2) else playL tx cs (k + 1) (playS A L tx c).2.1 (playS A L tx c).2.2).2.1 (if (playS A L tx c).1 = 0 then (k, (playS A L tx c).2.1, (playS A L tx c).2.2) else playL tx cs (k + 1) (playS A L tx c).2.1 (playS A L tx c).2.2).2.2
    by_cases q : (playS A L tx c).1 = 0
    · rw [if_pos q]; exact h
    · rw [if_neg q]
      have ih := playL_J (tx := tx) cs (k + 1) (playS A L tx c).2.1 (playS A L tx c).2.2 (fun d hd => hc d (List.mem_cons_of_mem _ hd)) h.1 h.2.1
      exact ⟨ih.1, ih.2.1, h.2.2.tr ih.2.2⟩
def LJ (A : Mem) (L : List Mem) (IA : Mem) (IL : List Mem) (X : Mem) : Prop := stI A L ∧ InvA IA ∧ stI IA IL ∧ extA IA A ∧ okX X
theorem LJ.step {A A' : Mem} {L L' : List Mem} {IA : Mem} {IL : List Mem} {X : Mem} (h : LJ A L IA IL X) (h1 : stI A' L') (h2 : extA A A') : LJ A' L' IA IL X := ⟨h1, h.2.1, h.2.2.1, h.2.2.2.1.tr h2, h.2.2.2.2⟩
theorem LJ.tape {A : Mem} {L : List Mem} {IA : Mem} {IL : List Mem} {X X' : Mem} (h : LJ A L IA IL X) (hx : okX X') : LJ A L IA IL X' := ⟨h.1, h.2.1, h.2.2.1, h.2.2.2.1, hx⟩
theorem LJ.who {A : Mem} {L : List Mem} {IA : Mem} {IL : List Mem} {X : Mem} (h : LJ A L IA IL X) : ∀ r : Int, 0 ≤ r → r < IA 10 0 → 0 ≤ IA 1 r ∧ IA 1 r ≤ A 14 r := fun r a b => by
  have := h.2.1.2.1 r a b
  rw [h.2.2.2.1.2.2 r a b]; omega
/-- between two calls -/
def LI (σ : Mem) (n : Int) : Prop := ∃ (A : Mem) (L : List Mem) (IA : Mem) (IL : List Mem) (tx : Nat → Txt) (X : Mem), fullC σ A L IA IL tx X ∧ fullM σ A L IA IL tx X ∧ LJ A L IA IL X ∧ σ 74 24 ≤ n
/-- the class's places beyond what its asks use -/
theorem fullC.vw {σ τ A : Mem} {L : List Mem} {IA : Mem} {IL : List Mem} {tx : Nat → Txt} {X : Mem} (h : fullC σ A L IA IL tx X) (hv : vwC τ A tx) (hf : ∀ q : Nat, (15 ≤ q ∧ q ≤ 31 ∨ q = 35) → τ q = σ q) (hn : netC τ) : fullC τ A L IA IL tx X :=
  ⟨⟨hv, h.1.2.congr (hf 15 (by omega)) (hf (15 + 1) (by omega))⟩, h.2.1.fr (fun q h1 h2 => hf q (by omega)), h.2.2.1.fr (by rw [hf 30 (by omega)]) (hf 31 (by omega)) (by rw [hf 35 (by omega)]) (by rw [hf 35 (by omega)]), hn⟩
theorem fullM.vw {σ τ A : Mem} {L : List Mem} {IA : Mem} {IL : List Mem} {tx : Nat → Txt} {X : Mem} {r : Int} (h : fullM σ A L IA IL tx X) (hv : vwM τ A tx) (hr : 0 ≤ r → r < 16 → True) (h75 : ∀ j : Int, (j = 4 ∨ (139 ≤ j ∧ j < 2089)) → τ 75 j = σ 75 j) (h74 : τ 74 = σ 74) (h76 : τ 76 = σ 76) (h78 : τ 78 = σ 78) : fullM τ A L IA IL tx X :=
  ⟨⟨hv, h.1.2.1.keep h75, by rw [h74]; exact h.1.2.2⟩, h.2.1.fr h76, h.2.2.fr (by rw [h74]) h78 (by rw [h74]) (by rw [h74])⟩

theorem sp_X12_timesB (d : Nat) (hd : 6 ≤ d) (σ : Mem) (hO : OKm σ) (x1 : Int) (hx1 : R32 x1) (x2 : Int) (hx2 : R32 x2) (A : Mem) (tx : Nat → Txt) (hpre : vwM σ A tx) : Mt yX12_times cX12_times 5 (some .int) d [aR (74), aI (x1), aI (x2)] σ (QI (fun v σ' => v = timS A tx x1 x2 ∧ vwM σ' A tx ∧ (∀ j : Int, (j = 4 ∨ (139 ≤ j ∧ j < 2089)) → σ' 75 j = σ 75 j) ∧ Fr [75, 80, 81, 82] σ σ')) := by
  have hc := hpre.2.2.1.1
  by_cases q : 0 ≤ x2 ∧ x2 < A 10 0
  · refine (sp_X12_times d hd σ hO x1 hx1 x2 hx2 A tx hpre).mono (fun r σ' hr => ?_)
    obtain ⟨v, e, h1, h2, h3, h4⟩ := hr
    exact ⟨v, e, h1, h2, fun j hj => h3 j (by omega), h4⟩
  · refine mt_X12_times hd hx1 hx2 hO ?_
    unfold wp_X12_times
    intro P31 h31
    have e0 : σ 75 0 = A 10 0 := hpre.1.1.1
    have e1 : σ 75 1 = A 10 1 := hpre.1.1.2.1
    rw [e0, e1]
    have no : (-1 : Int) = timS A tx x1 x2 ∧ vwM σ A tx ∧ (∀ j : Int, (j = 4 ∨ (139 ≤ j ∧ j < 2089)) → σ 75 j = σ 75 j) ∧ Fr [75, 80, 81, 82] σ σ := ⟨by unfold timS; rw [if_neg (fun z => q z.2)], hpre, fun _ _ => rfl, Fr.rf _ _⟩
    exact ⟨by omega, fun _ => no, fun _ => ⟨by omega, fun h => absurd h q, fun _ => no⟩⟩
theorem sp_X12_whoB (d : Nat) (hd : 5 ≤ d) (σ : Mem) (hO : OKm σ) (x1 : Int) (hx1 : R32 x1) (A : Mem) (tx : Nat → Txt) (IA : Mem) (IL : List Mem) (hpre : vwM σ A tx ∧ imgM σ IA IL ∧ (∀ r : Int, 0 ≤ r → r < IA 10 0 → 0 ≤ IA 1 r ∧ IA 1 r ≤ A 14 r)) : Mt yX12_who cX12_who 9 (some .long) d [aR (74), aI (x1)] σ (QL (fun v σ' => v = whoS A IA tx x1 ∧ vwM σ' A tx ∧ (∀ j : Int, (j = 4 ∨ (139 ≤ j ∧ j < 2089)) → σ' 75 j = σ 75 j) ∧ Fr [75, 80, 81, 82, 88] σ σ')) := by
  have hc := hpre.1.2.2.1.1
  by_cases q : 0 ≤ x1 ∧ x1 < A 10 0
  · refine (sp_X12_who d hd σ hO x1 hx1 A tx IA IL hpre).mono (fun r σ' hr => ?_)
    obtain ⟨v, e, h1, h2, h3, h4⟩ := hr
    exact ⟨v, e, h1, h2, fun j hj => h3 j (by omega), h4⟩
  · refine mt_X12_who hd hx1 hO ?_
    unfold wp_X12_who
    intro P65 P118 P139 h65 h118 h139
    have e0 : σ 75 0 = A 10 0 := hpre.1.1.1.1
    rw [e0]
    have no : (-1 : Int) = whoS A IA tx x1 ∧ vwM σ A tx ∧ (∀ j : Int, (j = 4 ∨ (139 ≤ j ∧ j < 2089)) → σ 75 j = σ 75 j) ∧ Fr [75, 80, 81, 82, 88] σ σ := ⟨by unfold whoS; rw [if_neg (fun z => q z.1)], hpre.1, fun _ _ => rfl, Fr.rf _ _⟩
    exact ⟨by omega, fun _ => no, fun h => absurd h q⟩
theorem sp_X12_crowdB (d : Nat) (hd : 7 ≤ d) (σ : Mem) (hO : OKm σ) (x1 : Int) (hx1 : R32 x1) (x2 : Int) (hx2 : R32 x2) (A : Mem) (tx : Nat → Txt) (hpre : vwM σ A tx) : Mt yX12_crowd cX12_crowd 4 (some .int) d [aR (74), aI (x1), aI (x2)] σ (QI (fun v σ' => v = crS A tx x1 x2 ∧ vwM σ' A tx ∧ (∀ j : Int, (j = 4 ∨ (139 ≤ j ∧ j < 2089)) → σ' 75 j = σ 75 j) ∧ Fr [75, 80, 81, 82, 88, 89, 90] σ σ')) := by
  have hc := hpre.2.2.1.1
  by_cases q : 0 ≤ x1 ∧ x1 < A 10 0
  · refine (sp_X12_crowd d hd σ hO x1 hx1 x2 hx2 A tx hpre).mono (fun r σ' hr => ?_)
    obtain ⟨v, e, h1, h2, h3, h4⟩ := hr
    exact ⟨v, e, h1, h2, fun j hj => h3 j (by omega), h4⟩
  · refine mt_X12_crowd hd hx1 hx2 hO ?_
    unfold wp_X12_crowd
    have e0 : σ 75 0 = A 10 0 := hpre.1.1.1
    rw [e0]
    have no : (-2 : Int) = crS A tx x1 x2 ∧ vwM σ A tx ∧ (∀ j : Int, (j = 4 ∨ (139 ≤ j ∧ j < 2089)) → σ 75 j = σ 75 j) ∧ Fr [75, 80, 81, 82, 88, 89, 90] σ σ := ⟨by unfold crS; rw [if_neg q], hpre, fun _ _ => rfl, Fr.rf _ _⟩
    exact ⟨by omega, fun h => absurd h q, fun _ => no⟩
