theorem lev_all : ∀ nn : Nat, SpS nn ∧ SpO nn ∧ SpA nn ∧ SpC nn
  | 0 => ⟨fun d hd σ hO x1 hx1 b N p i n lw hpre => absurd hpre.2.2.2 (by omega), fun d hd σ hO x1 hx1 b N p i n lw hpre => absurd hpre.2.2.2 (by omega), fun d hd σ hO x1 hx1 b N p i n lw hpre => absurd hpre.2.2.2 (by omega), fun d hd σ hO x1 hx1 b N p i n lw hpre => absurd hpre.2.2.2 (by omega)⟩
  | nn + 1 => by
    obtain ⟨i1, i2, i3, i4⟩ := lev_all nn
    exact ⟨fun d hd σ hO x1 hx1 b N p i n lw hpre => sp_X5_takesSum nn i1 i2 i3 i4 d (by omega) σ hO x1 hx1 b N p i n lw ⟨hpre.1, hpre.2.1, hpre.2.2.1, by have := hpre.2.2.2; omega⟩,
      fun d hd σ hO x1 hx1 b N p i n lw hpre => sp_X5_takesOne nn i1 i2 i3 i4 d (by omega) σ hO x1 hx1 b N p i n lw ⟨hpre.1, hpre.2.1, hpre.2.2.1, by have := hpre.2.2.2; omega⟩,
      fun d hd σ hO x1 hx1 b N p i n lw hpre => sp_X5_takesAsk nn i1 i2 i3 i4 d (by omega) σ hO x1 hx1 b N p i n lw ⟨hpre.1, hpre.2.1, hpre.2.2.1, by have := hpre.2.2.2; omega⟩,
      fun d hd σ hO x1 hx1 b N p i n lw hpre => sp_X5_takesChoice nn i1 i2 i3 i4 d (by omega) σ hO x1 hx1 b N p i n lw ⟨hpre.1, hpre.2.1, hpre.2.2.1, by have := hpre.2.2.2; omega⟩⟩

theorem sp_X5_takesSum_top (d : Nat) (hd : 76 ≤ d) (σ : Mem) (hO : OKm σ) (b : Int → Int) (N : Int) (p : Nat) (i : Nat) (lw : Int) (hpre : rdC σ b N p i ∧ σ p 2 ≤ (i : Int) ∧ σ 35 3 = lw) : Mt yX5_takesSum cX5_takesSum 5 (some .boolean) d [aR (35), aI (0)] σ (QI (fun v σ' => ansR b N p i 43 σ σ' v (pS (kd b N) (nu b N) lw 8 i))) :=
  (lev_all 9).1 d (by omega) σ hO 0 (by unfold R32; omega) b N p i 8 lw ⟨hpre, by omega, by omega, by omega⟩

/-! CLAUSES -/
abbrev NR : Type := (Int × Nat) ⊕ (Int × Nat)
abbrev QR : Type := (Int × Nat) ⊕ (Cl × Nat)
def pN (K M : Nat → Int) (lo hi : Int) (i : Nat) : NR := if K i = 41 then (if lo ≤ M i ∧ M i ≤ hi then .inr (M i, i + 1) else .inl (2, i)) else .inl (1, i)
def pW (K M : Nat → Int) (k lo hi : Int) (i : Nat) : NR := if K i = k then pN K M lo hi (i + 1) else .inl (1, i)
def qB (r : NR) (c : Int → Nat → QR) : QR := match r with
  | .inl e => .inl e
  | .inr q => c q.1 q.2
theorem qB_ok {r : NR} {c : Int → Nat → QR} {x : Int} {j : Nat} (h : r = .inr (x, j)) : qB r c = c x j := by rw [h]; rfl
theorem qB_er {r : NR} {c : Int → Nat → QR} {e : Int × Nat} (h : r = .inl e) : qB r c = .inl e := by rw [h]; rfl
def pDeed (K M : Nat → Int) (c : Int) (i : Nat) : QR :=
  if c = 2 then qB (pN K M 0 7 i) (fun a i1 => qB (pW K M 12 0 7 i1) (fun b i2 => qB (pW K M 3 1 9 i2) (fun l i3 => qB (pW K M 4 1 99 i3) (fun t i4 => .inr ((2, a, b, l, t), i4)))))
  else if c = 3 then qB (pN K M 0 7 i) (fun a i1 => qB (pW K M 5 1 9 i1) (fun b i2 => .inr ((3, a, b, 0, 0), i2)))
  else if c = 4 then qB (pN K M 0 15 i) (fun a i1 => qB (pW K M 15 0 5 i1) (fun b i2 => .inr ((4, a, b, 0, 0), i2)))
  else if c = 5 then qB (pN K M 0 15 i) (fun a i1 => .inr ((5, a, 0, 0, 0), i1))
  else if c = 6 then qB (pN K M 1 99 i) (fun a i1 => .inr ((6, a, 0, 0, 0), i1))
  else qB (pN K M 1 60 i) (fun a i1 => .inr ((7, a, 0, 0, 0), i1))
theorem pD2 {K M : Nat → Int} {i : Nat} : pDeed K M 2 i = qB (pN K M 0 7 i) (fun a i1 => qB (pW K M 12 0 7 i1) (fun b i2 => qB (pW K M 3 1 9 i2) (fun l i3 => qB (pW K M 4 1 99 i3) (fun t i4 => .inr ((2, a, b, l, t), i4))))) := rfl
theorem pD3 {K M : Nat → Int} {i : Nat} : pDeed K M 3 i = qB (pN K M 0 7 i) (fun a i1 => qB (pW K M 5 1 9 i1) (fun b i2 => .inr ((3, a, b, 0, 0), i2))) := rfl
theorem pD4 {K M : Nat → Int} {i : Nat} : pDeed K M 4 i = qB (pN K M 0 15 i) (fun a i1 => qB (pW K M 15 0 5 i1) (fun b i2 => .inr ((4, a, b, 0, 0), i2))) := rfl
theorem pD5 {K M : Nat → Int} {i : Nat} : pDeed K M 5 i = qB (pN K M 0 15 i) (fun a i1 => .inr ((5, a, 0, 0, 0), i1)) := rfl
theorem pD6 {K M : Nat → Int} {i : Nat} : pDeed K M 6 i = qB (pN K M 1 99 i) (fun a i1 => .inr ((6, a, 0, 0, 0), i1)) := rfl
theorem pD7 {K M : Nat → Int} {i : Nat} : pDeed K M 7 i = qB (pN K M 1 60 i) (fun a i1 => .inr ((7, a, 0, 0, 0), i1)) := rfl
/-- the sort of clause that a kind begins; none: -1 -/
def clS (k : Int) : Int := if k = 9 then 0 else if k = 10 then 1 else if k = 11 then 2 else if k = 13 then 3 else if k = 14 then 4 else if k = 16 then 5 else if k = 17 then 6 else if k = 0 then 7 else -1
/-- what a fault leaves -/
def erT (b : Int → Int) (N : Int) (p : Nat) (σ σ' : Mem) (e : Int × Nat) : Prop := Fr [35, p, p + 1, p + 2, p + 3, p + 4] σ σ' ∧ σ' 35 4 = e.1 ∧ σ' 35 5 = ps b N e.2
theorem erR.T {b : Int → Int} {N : Int} {p : Nat} {σ σ' : Mem} {e : Int × Nat} (h : erR b N p σ σ' e) : erT b N p σ σ' e := ⟨h.1.1.wk (by intro q hq; simp at hq ⊢; omega), h.2⟩
theorem erT.pre {b : Int → Int} {N : Int} {p : Nat} {σ τ σ' : Mem} {e : Int × Nat} (h : erT b N p τ σ' e) (hf : Fr [35, p, p + 1, p + 2, p + 3, p + 4] σ τ) : erT b N p σ σ' e := ⟨hf.tr h.1, h.2⟩
/-- numbers of a clause -/
def nmQ (p m : Nat) (L : List Int) (σ τ : Mem) (j : Nat) : Prop := Fr [35, p + 4] σ τ ∧ (∀ q : Int, q ≠ 2 → τ 35 q = σ 35 q) ∧ τ 35 2 = (j : Int) ∧ j ≤ 301 ∧ (∀ q : Int, q < 4 * (m : Int) → τ (p + 4) q = σ (p + 4) q) ∧ ∀ (k : Nat) (x : Int), L[k]? = some x → τ (p + 4) (4 * (m : Int) + (k : Int)) = x
theorem nmQ.rf {p m : Nat} {σ : Mem} {j : Nat} (h : σ 35 2 = (j : Int)) (hj : j ≤ 301) : nmQ p m [] σ σ j := ⟨Fr.rf _ _, fun _ _ => rfl, h, hj, fun _ _ => rfl, fun k x h => by simp at h⟩
theorem off4 {p : Nat} (hp : isText p) : 35 ≠ p + 4 ∧ 35 ≠ p + 3 := by unfold isText at hp; omega
theorem nmQ.rd {b : Int → Int} {N : Int} {p m i j : Nat} {L : List Int} {σ τ : Mem} (h : nmQ p m L σ τ j) (hr : rdC σ b N p i) : rdC τ b N p j := by
  have hp := hr.1.2.2
  have e : ∀ q : Nat, q ≠ 35 → q ≠ p + 4 → τ q = σ q := fun q h1 h2 => h.1 q (by simp; omega)
  refine ⟨⟨hr.1.1, ?_, hp⟩, by rw [h.2.1 1 (by omega)]; exact hr.2.1, h.2.2.1, h.2.2.2.1, by rw [e p (by have := off35 hp; omega) (by omega)]; exact hr.2.2.2.2⟩
  have ht := hr.1.2.1
  unfold tokC at *
  unfold isText at hp
  rw [e 30 (by omega) (by omega), e 32 (by omega) (by omega), e 33 (by omega) (by omega), e 34 (by omega) (by omega)]; exact ht
theorem nmQ.num {p m j : Nat} {L : List Int} {σ τ ρ : Mem} {x sl : Int} (hp : isText p) (h : nmQ p m L σ τ j) (h9 : σ p 9 = (m : Int) + 1) (hs : sl = (L.length : Int)) (hj : j < 301) (e : ρ = mset (mset τ (p + 4) ((τ p 9 - 1) * 4 + sl) x) 35 2 ((j : Int) + 1)) : nmQ p m (L ++ [x]) σ ρ (j + 1) := by
  have o := off4 hp
  have o2 := off35 hp
  have e9 : τ p 9 = (m : Int) + 1 := by rw [h.1 p (by simp; omega)]; exact h9
  rw [e9, hs, show ((m : Int) + 1 - 1) * 4 + (L.length : Int) = 4 * (m : Int) + (L.length : Int) by omega] at e
  refine ⟨by rw [e]; exact (h.1.set (by simp)).set (by simp), fun q q1 => by rw [e, mset_miss q1, mset_off o.1]; exact h.2.1 q q1, by rw [e, mset_hit rfl]; omega, by omega, fun q hq => by rw [e, mset_off (Ne.symm o.1), mset_miss (by omega)]; exact h.2.2.2.2.1 q hq, fun k y hk => ?_⟩
  rw [e, mset_off (Ne.symm o.1)]
  by_cases q : k = L.length
  · subst q
    rw [mset_hit rfl]
    simp at hk; exact hk
  · have hl := (List.getElem?_eq_some_iff.mp hk).1
    simp at hl
    rw [mset_miss (by omega)]
    exact h.2.2.2.2.2 k y (by rw [List.getElem?_append_left (by omega)] at hk; exact hk)
theorem nmQ.kw {p m j : Nat} {L : List Int} {σ τ ρ : Mem} (hp : isText p) (h : nmQ p m L σ τ j) (hj : j < 301) (e : ρ = mset τ 35 2 ((j : Int) + 1)) : nmQ p m L σ ρ (j + 1) := by
  have o := off4 hp
  refine ⟨by rw [e]; exact h.1.set (by simp), fun q q1 => by rw [e, mset_miss q1]; exact h.2.1 q q1, by rw [e, mset_hit rfl]; omega, by omega, fun q hq => by rw [e, mset_off (Ne.symm o.1)]; exact h.2.2.2.2.1 q hq, fun k y hk => by rw [e, mset_off (Ne.symm o.1)]; exact h.2.2.2.2.2 k y hk⟩
theorem nmQ.F {p m j : Nat} {L : List Int} {σ τ : Mem} (h : nmQ p m L σ τ j) : Fr [35, p, p + 1, p + 2, p + 3, p + 4] σ τ := h.1.wk (by intro q hq; simp at hq ⊢; omega)
theorem num_step {b : Int → Int} {N : Int} {p i : Nat} {sl lo hi u : Int} {σ ρ : Mem} (hr : rdC σ b N p i) (h : (kd b N i ≠ 41 ∧ u = 0 ∧ ρ = mset (mset σ 35 4 1) 35 5 (ps b N i)) ∨ (kd b N i = 41 ∧ ¬ (lo ≤ nu b N i ∧ nu b N i ≤ hi) ∧ u = 0 ∧ ρ = mset (mset σ 35 4 2) 35 5 (ps b N i)) ∨ (kd b N i = 41 ∧ (lo ≤ nu b N i ∧ nu b N i ≤ hi) ∧ u = 1 ∧ ρ = mset (mset σ (p + 4) ((σ p 9 - 1) * 4 + sl) (nu b N i)) 35 2 ((i : Int) + 1))) :
    (∃ e, pN (kd b N) (nu b N) lo hi i = .inl e ∧ u = 0 ∧ erT b N p σ ρ e) ∨ (∃ x : Int, pN (kd b N) (nu b N) lo hi i = .inr (x, i + 1) ∧ u = 1 ∧ (lo ≤ x ∧ x ≤ hi) ∧ i < 300 ∧ ρ = mset (mset σ (p + 4) ((σ p 9 - 1) * 4 + sl) x) 35 2 ((i : Int) + 1)) := by
  rcases h with ⟨h1, h2, h3⟩ | ⟨h1, h2, h3, h4⟩ | ⟨h1, h2, h3, h4⟩
  · left; exact ⟨(1, i), by unfold pN; rw [if_neg h1], h2, (erR.fail hr h3).T⟩
  · left; exact ⟨(2, i), by unfold pN; rw [if_pos h1, if_neg h2], h3, (erR.fail hr h4).T⟩
  · right; exact ⟨nu b N i, by unfold pN; rw [if_pos h1, if_pos h2], h3, h2, by have := (kd_lt hr.1.1 (i := i) (by omega)).1; omega, h4⟩
def dAns (b : Int → Int) (N : Int) (p m : Nat) (σ σ' : Mem) (v : Int) (r : QR) : Prop := match r with
  | .inl e => v = 0 ∧ erT b N p σ σ' e
  | .inr q => v = 1 ∧ q.2 ≤ 300 ∧ clOK q.1 ∧ ∃ L, nmQ p m L σ σ' q.2 ∧ (1 ≤ clN q.1.1 → L[0]? = some q.1.2.1) ∧ (2 ≤ clN q.1.1 → L[1]? = some q.1.2.2.1) ∧ (4 ≤ clN q.1.1 → L[2]? = some q.1.2.2.2.1 ∧ L[3]? = some q.1.2.2.2.2)
theorem dAns.E {b : Int → Int} {N : Int} {p m : Nat} {σ σ' : Mem} {v : Int} {r : QR} {e : Int × Nat} (hr : r = .inl e) (hv : v = 0) (h : erT b N p σ σ' e) : dAns b N p m σ σ' v r := by subst hr; exact ⟨hv, h⟩
theorem dAns.O {b : Int → Int} {N : Int} {p m j : Nat} {σ σ' : Mem} {v : Int} {r : QR} {c : Cl} {L : List Int} (hr : r = .inr (c, j)) (hv : v = 1) (hj : j ≤ 300) (hc : clOK c) (h : nmQ p m L σ σ' j) (h1 : 1 ≤ clN c.1 → L[0]? = some c.2.1) (h2 : 2 ≤ clN c.1 → L[1]? = some c.2.2.1) (h4 : 4 ≤ clN c.1 → L[2]? = some c.2.2.2.1 ∧ L[3]? = some c.2.2.2.2) : dAns b N p m σ σ' v r := by subst hr; exact ⟨hv, hj, hc, L, h, h1, h2, h4⟩

def wp_X5_takesDeed (x1 : Int) (σ : Mem) (Q : Int → Mem → Prop) : Prop :=
  (x1 = 11 →
    ∃ g2 : Int → Int, ∃ g3 : Int, ∃ g4 : Nat, ∃ g5 : Nat, (rdC σ g2 g3 g4 g5 ∧ (0 < σ g4 9 ∧ σ g4 9 ≤ 24) ∧ (0 ≤ (0 : Int) ∧ (0 : Int) ≤ 3)) ∧
    ∀ (u10 : Int) (σ9 : Mem), R32 u10 → OKm σ9 → ((kd g2 g3 g5 ≠ 41 ∧ u10 = 0 ∧ σ9 = mset (mset σ 35 4 1) 35 5 (ps g2 g3 g5)) ∨ (kd g2 g3 g5 = 41 ∧ ¬ ((0 : Int) ≤ nu g2 g3 g5 ∧ nu g2 g3 g5 ≤ (7 : Int)) ∧ u10 = 0 ∧ σ9 = mset (mset σ 35 4 2) 35 5 (ps g2 g3 g5)) ∨ (kd g2 g3 g5 = 41 ∧ ((0 : Int) ≤ nu g2 g3 g5 ∧ nu g2 g3 g5 ≤ (7 : Int)) ∧ u10 = 1 ∧ σ9 = mset (mset σ (g4 + 4) ((σ g4 9 - 1) * 4 + (0 : Int)) (nu g2 g3 g5)) 35 2 ((g5 : Int) + 1))) →
    ((u10 = 0) →
     Q 0 σ9) ∧
    ((u10 ≠ 0) →
     ∃ g13 : Int → Int, ∃ g14 : Int, ∃ g15 : Nat, ∃ g16 : Nat, (rdC σ9 g13 g14 g15 g16) ∧
     ∀ (u21 : Int) (σ20 : Mem), R32 u21 → OKm σ20 → ((kd g13 g14 g16 = (12 : Int) ∧ u21 = 1 ∧ σ20 = mset σ9 35 2 ((g16 : Int) + 1)) ∨ (kd g13 g14 g16 ≠ (12 : Int) ∧ u21 = 0 ∧ σ20 = mset (mset σ9 35 4 1) 35 5 (ps g13 g14 g16))) →
     ((u21 = 0) →
      Q 0 σ20) ∧
     ((u21 ≠ 0) →
      ∃ g24 : Int → Int, ∃ g25 : Int, ∃ g26 : Nat, ∃ g27 : Nat, (rdC σ20 g24 g25 g26 g27 ∧ (0 < σ20 g26 9 ∧ σ20 g26 9 ≤ 24) ∧ (0 ≤ (1 : Int) ∧ (1 : Int) ≤ 3)) ∧
      ∀ (u32 : Int) (σ31 : Mem), R32 u32 → OKm σ31 → ((kd g24 g25 g27 ≠ 41 ∧ u32 = 0 ∧ σ31 = mset (mset σ20 35 4 1) 35 5 (ps g24 g25 g27)) ∨ (kd g24 g25 g27 = 41 ∧ ¬ ((0 : Int) ≤ nu g24 g25 g27 ∧ nu g24 g25 g27 ≤ (7 : Int)) ∧ u32 = 0 ∧ σ31 = mset (mset σ20 35 4 2) 35 5 (ps g24 g25 g27)) ∨ (kd g24 g25 g27 = 41 ∧ ((0 : Int) ≤ nu g24 g25 g27 ∧ nu g24 g25 g27 ≤ (7 : Int)) ∧ u32 = 1 ∧ σ31 = mset (mset σ20 (g26 + 4) ((σ20 g26 9 - 1) * 4 + (1 : Int)) (nu g24 g25 g27)) 35 2 ((g27 : Int) + 1))) →
      ((u32 = 0) →
       Q 0 σ31) ∧
      ((u32 ≠ 0) →
       ∃ g35 : Int → Int, ∃ g36 : Int, ∃ g37 : Nat, ∃ g38 : Nat, (rdC σ31 g35 g36 g37 g38) ∧
       ∀ (u43 : Int) (σ42 : Mem), R32 u43 → OKm σ42 → ((kd g35 g36 g38 = (3 : Int) ∧ u43 = 1 ∧ σ42 = mset σ31 35 2 ((g38 : Int) + 1)) ∨ (kd g35 g36 g38 ≠ (3 : Int) ∧ u43 = 0 ∧ σ42 = mset (mset σ31 35 4 1) 35 5 (ps g35 g36 g38))) →
       ((u43 = 0) →
        Q 0 σ42) ∧
       ((u43 ≠ 0) →
        ∃ g46 : Int → Int, ∃ g47 : Int, ∃ g48 : Nat, ∃ g49 : Nat, (rdC σ42 g46 g47 g48 g49 ∧ (0 < σ42 g48 9 ∧ σ42 g48 9 ≤ 24) ∧ (0 ≤ (2 : Int) ∧ (2 : Int) ≤ 3)) ∧
        ∀ (u54 : Int) (σ53 : Mem), R32 u54 → OKm σ53 → ((kd g46 g47 g49 ≠ 41 ∧ u54 = 0 ∧ σ53 = mset (mset σ42 35 4 1) 35 5 (ps g46 g47 g49)) ∨ (kd g46 g47 g49 = 41 ∧ ¬ ((1 : Int) ≤ nu g46 g47 g49 ∧ nu g46 g47 g49 ≤ (9 : Int)) ∧ u54 = 0 ∧ σ53 = mset (mset σ42 35 4 2) 35 5 (ps g46 g47 g49)) ∨ (kd g46 g47 g49 = 41 ∧ ((1 : Int) ≤ nu g46 g47 g49 ∧ nu g46 g47 g49 ≤ (9 : Int)) ∧ u54 = 1 ∧ σ53 = mset (mset σ42 (g48 + 4) ((σ42 g48 9 - 1) * 4 + (2 : Int)) (nu g46 g47 g49)) 35 2 ((g49 : Int) + 1))) →
        ((u54 = 0) →
         Q 0 σ53) ∧
        ((u54 ≠ 0) →
         ∃ g57 : Int → Int, ∃ g58 : Int, ∃ g59 : Nat, ∃ g60 : Nat, (rdC σ53 g57 g58 g59 g60) ∧
         ∀ (u65 : Int) (σ64 : Mem), R32 u65 → OKm σ64 → ((kd g57 g58 g60 = (4 : Int) ∧ u65 = 1 ∧ σ64 = mset σ53 35 2 ((g60 : Int) + 1)) ∨ (kd g57 g58 g60 ≠ (4 : Int) ∧ u65 = 0 ∧ σ64 = mset (mset σ53 35 4 1) 35 5 (ps g57 g58 g60))) →
         ((u65 = 0) →
          Q 0 σ64) ∧
         ((u65 ≠ 0) →
          ∃ g68 : Int → Int, ∃ g69 : Int, ∃ g70 : Nat, ∃ g71 : Nat, (rdC σ64 g68 g69 g70 g71 ∧ (0 < σ64 g70 9 ∧ σ64 g70 9 ≤ 24) ∧ (0 ≤ (3 : Int) ∧ (3 : Int) ≤ 3)) ∧
          ∀ (u76 : Int) (σ75 : Mem), R32 u76 → OKm σ75 → ((kd g68 g69 g71 ≠ 41 ∧ u76 = 0 ∧ σ75 = mset (mset σ64 35 4 1) 35 5 (ps g68 g69 g71)) ∨ (kd g68 g69 g71 = 41 ∧ ¬ ((1 : Int) ≤ nu g68 g69 g71 ∧ nu g68 g69 g71 ≤ (99 : Int)) ∧ u76 = 0 ∧ σ75 = mset (mset σ64 35 4 2) 35 5 (ps g68 g69 g71)) ∨ (kd g68 g69 g71 = 41 ∧ ((1 : Int) ≤ nu g68 g69 g71 ∧ nu g68 g69 g71 ≤ (99 : Int)) ∧ u76 = 1 ∧ σ75 = mset (mset σ64 (g70 + 4) ((σ64 g70 9 - 1) * 4 + (3 : Int)) (nu g68 g69 g71)) 35 2 ((g71 : Int) + 1))) →
          ((u76 = 0) →
           Q 0 σ75) ∧
          ((u76 ≠ 0) →
           Q 1 σ75)))))))) ∧
   (x1 ≠ 11 →
    (x1 = 13 →
     ∃ g80 : Int → Int, ∃ g81 : Int, ∃ g82 : Nat, ∃ g83 : Nat, (rdC σ g80 g81 g82 g83 ∧ (0 < σ g82 9 ∧ σ g82 9 ≤ 24) ∧ (0 ≤ (0 : Int) ∧ (0 : Int) ≤ 3)) ∧
     ∀ (u88 : Int) (σ87 : Mem), R32 u88 → OKm σ87 → ((kd g80 g81 g83 ≠ 41 ∧ u88 = 0 ∧ σ87 = mset (mset σ 35 4 1) 35 5 (ps g80 g81 g83)) ∨ (kd g80 g81 g83 = 41 ∧ ¬ ((0 : Int) ≤ nu g80 g81 g83 ∧ nu g80 g81 g83 ≤ (7 : Int)) ∧ u88 = 0 ∧ σ87 = mset (mset σ 35 4 2) 35 5 (ps g80 g81 g83)) ∨ (kd g80 g81 g83 = 41 ∧ ((0 : Int) ≤ nu g80 g81 g83 ∧ nu g80 g81 g83 ≤ (7 : Int)) ∧ u88 = 1 ∧ σ87 = mset (mset σ (g82 + 4) ((σ g82 9 - 1) * 4 + (0 : Int)) (nu g80 g81 g83)) 35 2 ((g83 : Int) + 1))) →
     ((u88 = 0) →
      Q 0 σ87) ∧
     ((u88 ≠ 0) →
      ∃ g91 : Int → Int, ∃ g92 : Int, ∃ g93 : Nat, ∃ g94 : Nat, (rdC σ87 g91 g92 g93 g94) ∧
      ∀ (u99 : Int) (σ98 : Mem), R32 u99 → OKm σ98 → ((kd g91 g92 g94 = (5 : Int) ∧ u99 = 1 ∧ σ98 = mset σ87 35 2 ((g94 : Int) + 1)) ∨ (kd g91 g92 g94 ≠ (5 : Int) ∧ u99 = 0 ∧ σ98 = mset (mset σ87 35 4 1) 35 5 (ps g91 g92 g94))) →
      ((u99 = 0) →
       Q 0 σ98) ∧
      ((u99 ≠ 0) →
       ∃ g102 : Int → Int, ∃ g103 : Int, ∃ g104 : Nat, ∃ g105 : Nat, (rdC σ98 g102 g103 g104 g105 ∧ (0 < σ98 g104 9 ∧ σ98 g104 9 ≤ 24) ∧ (0 ≤ (1 : Int) ∧ (1 : Int) ≤ 3)) ∧
       ∀ (u110 : Int) (σ109 : Mem), R32 u110 → OKm σ109 → ((kd g102 g103 g105 ≠ 41 ∧ u110 = 0 ∧ σ109 = mset (mset σ98 35 4 1) 35 5 (ps g102 g103 g105)) ∨ (kd g102 g103 g105 = 41 ∧ ¬ ((1 : Int) ≤ nu g102 g103 g105 ∧ nu g102 g103 g105 ≤ (9 : Int)) ∧ u110 = 0 ∧ σ109 = mset (mset σ98 35 4 2) 35 5 (ps g102 g103 g105)) ∨ (kd g102 g103 g105 = 41 ∧ ((1 : Int) ≤ nu g102 g103 g105 ∧ nu g102 g103 g105 ≤ (9 : Int)) ∧ u110 = 1 ∧ σ109 = mset (mset σ98 (g104 + 4) ((σ98 g104 9 - 1) * 4 + (1 : Int)) (nu g102 g103 g105)) 35 2 ((g105 : Int) + 1))) →
       ((u110 = 0) →
        Q 0 σ109) ∧
       ((u110 ≠ 0) →
        Q 1 σ109)))) ∧
    (x1 ≠ 13 →
     (x1 = 14 →
      ∃ g114 : Int → Int, ∃ g115 : Int, ∃ g116 : Nat, ∃ g117 : Nat, (rdC σ g114 g115 g116 g117 ∧ (0 < σ g116 9 ∧ σ g116 9 ≤ 24) ∧ (0 ≤ (0 : Int) ∧ (0 : Int) ≤ 3)) ∧
      ∀ (u122 : Int) (σ121 : Mem), R32 u122 → OKm σ121 → ((kd g114 g115 g117 ≠ 41 ∧ u122 = 0 ∧ σ121 = mset (mset σ 35 4 1) 35 5 (ps g114 g115 g117)) ∨ (kd g114 g115 g117 = 41 ∧ ¬ ((0 : Int) ≤ nu g114 g115 g117 ∧ nu g114 g115 g117 ≤ (15 : Int)) ∧ u122 = 0 ∧ σ121 = mset (mset σ 35 4 2) 35 5 (ps g114 g115 g117)) ∨ (kd g114 g115 g117 = 41 ∧ ((0 : Int) ≤ nu g114 g115 g117 ∧ nu g114 g115 g117 ≤ (15 : Int)) ∧ u122 = 1 ∧ σ121 = mset (mset σ (g116 + 4) ((σ g116 9 - 1) * 4 + (0 : Int)) (nu g114 g115 g117)) 35 2 ((g117 : Int) + 1))) →
      ((u122 = 0) →
       Q 0 σ121) ∧
      ((u122 ≠ 0) →
       ∃ g125 : Int → Int, ∃ g126 : Int, ∃ g127 : Nat, ∃ g128 : Nat, (rdC σ121 g125 g126 g127 g128) ∧
       ∀ (u133 : Int) (σ132 : Mem), R32 u133 → OKm σ132 → ((kd g125 g126 g128 = (15 : Int) ∧ u133 = 1 ∧ σ132 = mset σ121 35 2 ((g128 : Int) + 1)) ∨ (kd g125 g126 g128 ≠ (15 : Int) ∧ u133 = 0 ∧ σ132 = mset (mset σ121 35 4 1) 35 5 (ps g125 g126 g128))) →
       ((u133 = 0) →
        Q 0 σ132) ∧
       ((u133 ≠ 0) →
        ∃ g136 : Int → Int, ∃ g137 : Int, ∃ g138 : Nat, ∃ g139 : Nat, (rdC σ132 g136 g137 g138 g139 ∧ (0 < σ132 g138 9 ∧ σ132 g138 9 ≤ 24) ∧ (0 ≤ (1 : Int) ∧ (1 : Int) ≤ 3)) ∧
        ∀ (u144 : Int) (σ143 : Mem), R32 u144 → OKm σ143 → ((kd g136 g137 g139 ≠ 41 ∧ u144 = 0 ∧ σ143 = mset (mset σ132 35 4 1) 35 5 (ps g136 g137 g139)) ∨ (kd g136 g137 g139 = 41 ∧ ¬ ((0 : Int) ≤ nu g136 g137 g139 ∧ nu g136 g137 g139 ≤ (5 : Int)) ∧ u144 = 0 ∧ σ143 = mset (mset σ132 35 4 2) 35 5 (ps g136 g137 g139)) ∨ (kd g136 g137 g139 = 41 ∧ ((0 : Int) ≤ nu g136 g137 g139 ∧ nu g136 g137 g139 ≤ (5 : Int)) ∧ u144 = 1 ∧ σ143 = mset (mset σ132 (g138 + 4) ((σ132 g138 9 - 1) * 4 + (1 : Int)) (nu g136 g137 g139)) 35 2 ((g139 : Int) + 1))) →
        ((u144 = 0) →
         Q 0 σ143) ∧
        ((u144 ≠ 0) →
         Q 1 σ143)))) ∧
     (x1 ≠ 14 →
      (x1 = 16 →
       ∃ g148 : Int → Int, ∃ g149 : Int, ∃ g150 : Nat, ∃ g151 : Nat, (rdC σ g148 g149 g150 g151 ∧ (0 < σ g150 9 ∧ σ g150 9 ≤ 24) ∧ (0 ≤ (0 : Int) ∧ (0 : Int) ≤ 3)) ∧
       ∀ (u156 : Int) (σ155 : Mem), R32 u156 → OKm σ155 → ((kd g148 g149 g151 ≠ 41 ∧ u156 = 0 ∧ σ155 = mset (mset σ 35 4 1) 35 5 (ps g148 g149 g151)) ∨ (kd g148 g149 g151 = 41 ∧ ¬ ((0 : Int) ≤ nu g148 g149 g151 ∧ nu g148 g149 g151 ≤ (15 : Int)) ∧ u156 = 0 ∧ σ155 = mset (mset σ 35 4 2) 35 5 (ps g148 g149 g151)) ∨ (kd g148 g149 g151 = 41 ∧ ((0 : Int) ≤ nu g148 g149 g151 ∧ nu g148 g149 g151 ≤ (15 : Int)) ∧ u156 = 1 ∧ σ155 = mset (mset σ (g150 + 4) ((σ g150 9 - 1) * 4 + (0 : Int)) (nu g148 g149 g151)) 35 2 ((g151 : Int) + 1))) →
       (u156 = 0 ∨ u156 = 1) ∧
       Q u156 σ155) ∧
      (x1 ≠ 16 →
       (x1 = 17 →
        ∃ g160 : Int → Int, ∃ g161 : Int, ∃ g162 : Nat, ∃ g163 : Nat, (rdC σ g160 g161 g162 g163 ∧ (0 < σ g162 9 ∧ σ g162 9 ≤ 24) ∧ (0 ≤ (0 : Int) ∧ (0 : Int) ≤ 3)) ∧
        ∀ (u168 : Int) (σ167 : Mem), R32 u168 → OKm σ167 → ((kd g160 g161 g163 ≠ 41 ∧ u168 = 0 ∧ σ167 = mset (mset σ 35 4 1) 35 5 (ps g160 g161 g163)) ∨ (kd g160 g161 g163 = 41 ∧ ¬ ((1 : Int) ≤ nu g160 g161 g163 ∧ nu g160 g161 g163 ≤ (99 : Int)) ∧ u168 = 0 ∧ σ167 = mset (mset σ 35 4 2) 35 5 (ps g160 g161 g163)) ∨ (kd g160 g161 g163 = 41 ∧ ((1 : Int) ≤ nu g160 g161 g163 ∧ nu g160 g161 g163 ≤ (99 : Int)) ∧ u168 = 1 ∧ σ167 = mset (mset σ (g162 + 4) ((σ g162 9 - 1) * 4 + (0 : Int)) (nu g160 g161 g163)) 35 2 ((g163 : Int) + 1))) →
        (u168 = 0 ∨ u168 = 1) ∧
        Q u168 σ167) ∧
       (x1 ≠ 17 →
        ∃ g171 : Int → Int, ∃ g172 : Int, ∃ g173 : Nat, ∃ g174 : Nat, (rdC σ g171 g172 g173 g174 ∧ (0 < σ g173 9 ∧ σ g173 9 ≤ 24) ∧ (0 ≤ (0 : Int) ∧ (0 : Int) ≤ 3)) ∧
        ∀ (u179 : Int) (σ178 : Mem), R32 u179 → OKm σ178 → ((kd g171 g172 g174 ≠ 41 ∧ u179 = 0 ∧ σ178 = mset (mset σ 35 4 1) 35 5 (ps g171 g172 g174)) ∨ (kd g171 g172 g174 = 41 ∧ ¬ ((1 : Int) ≤ nu g171 g172 g174 ∧ nu g171 g172 g174 ≤ (60 : Int)) ∧ u179 = 0 ∧ σ178 = mset (mset σ 35 4 2) 35 5 (ps g171 g172 g174)) ∨ (kd g171 g172 g174 = 41 ∧ ((1 : Int) ≤ nu g171 g172 g174 ∧ nu g171 g172 g174 ≤ (60 : Int)) ∧ u179 = 1 ∧ σ178 = mset (mset σ (g173 + 4) ((σ g173 9 - 1) * 4 + (0 : Int)) (nu g171 g172 g174)) 35 2 ((g174 : Int) + 1))) →
        (u179 = 0 ∨ u179 = 1) ∧
        Q u179 σ178)))))
theorem mt_X5_takesDeed {d : Nat} (hd : 3 ≤ d) {x1 : Int} {σ : Mem} {Q : Int → Mem → Prop} (hx1 : R32 x1) (hO : OKm σ) (h : wp_X5_takesDeed x1 σ Q) : Mt yX5_takesDeed cX5_takesDeed 2 (some .boolean) d [aR (35), aI (x1)] σ (QI Q) := by
  refine Mt.intro (by decide +kernel) (Nat.le_of_ble_eq_true rfl) [(0, aR (35)), (1, aI (x1))] rfl ?_
  unfold wp_X5_takesDeed at h
  refine G_iload_n 1 rfl rfl dX5_takesDeed_0 ?_
  refine G_tsw (tgt := 44) 0 11 (by decide) (rL _ rfl) (by decide) rfl (by decide) hx1 dX5_takesDeed_1 (fun n182 => ?_) (fun n182 => ?_)
  · have h := h.1 n182
    refine G_aload_n 0 rfl rfl dX5_takesDeed_44 ?_
    refine G_iconst dX5_takesDeed_45 ?_
    refine G_iconst dX5_takesDeed_46 ?_
    refine G_bipush (by decide) dX5_takesDeed_47 ?_
    obtain ⟨g2, g3, g4, g5, c6, h⟩ := h
    refine G_callV (as := [_, _, _]) cf_X5_96 rfl rfl rfl (sp_X5_takesNumber (d - 1) (by omega) _ hO _ (rL 0 rfl) _ (rL 0 rfl) _ (rL 7 rfl) g2 g3 g4 g5 c6) (by omega) rfl rfl (Nat.le_of_ble_eq_true rfl) dX5_takesDeed_49 ?_
    rintro _ σ9 ⟨u10, rfl, z11⟩ o8 r7
    have h := h _ _ (r7 _ rfl) o8 z11
    refine G_if_eq (r7 _ rfl) dX5_takesDeed_52 (tgt := 117) (by decide) (fun c12 => ?_) (fun c12 => ?_)
    · have h := h.1 c12
      refine G_iconst dX5_takesDeed_117 ?_
      exact G_zret rfl (by decide) dX5_takesDeed_118 ⟨_, rfl, h⟩ o8
    · have h := h.2 c12
      refine G_aload_n 0 rfl rfl dX5_takesDeed_55 ?_
      refine G_bipush (by decide) dX5_takesDeed_56 ?_
      obtain ⟨g13, g14, g15, g16, c17, h⟩ := h
      refine G_callV (as := [_]) cf_X5_93 rfl rfl rfl (sp_X5_takesKind (d - 1) (by omega) _ o8 _ (rL 12 rfl) g13 g14 g15 g16 c17) (by omega) rfl rfl (Nat.le_of_ble_eq_true rfl) dX5_takesDeed_58 ?_
      rintro _ σ20 ⟨u21, rfl, z22⟩ o19 r18
      have h := h _ _ (r18 _ rfl) o19 z22
      refine G_if_eq (r18 _ rfl) dX5_takesDeed_61 (tgt := 117) (by decide) (fun c23 => ?_) (fun c23 => ?_)
      · have h := h.1 c23
        refine G_iconst dX5_takesDeed_117 ?_
        exact G_zret rfl (by decide) dX5_takesDeed_118 ⟨_, rfl, h⟩ o19
      · have h := h.2 c23
        refine G_aload_n 0 rfl rfl dX5_takesDeed_64 ?_
        refine G_iconst dX5_takesDeed_65 ?_
        refine G_iconst dX5_takesDeed_66 ?_
        refine G_bipush (by decide) dX5_takesDeed_67 ?_
        obtain ⟨g24, g25, g26, g27, c28, h⟩ := h
        refine G_callV (as := [_, _, _]) cf_X5_96 rfl rfl rfl (sp_X5_takesNumber (d - 1) (by omega) _ o19 _ (rL 1 rfl) _ (rL 0 rfl) _ (rL 7 rfl) g24 g25 g26 g27 c28) (by omega) rfl rfl (Nat.le_of_ble_eq_true rfl) dX5_takesDeed_69 ?_
        rintro _ σ31 ⟨u32, rfl, z33⟩ o30 r29
        have h := h _ _ (r29 _ rfl) o30 z33
        refine G_if_eq (r29 _ rfl) dX5_takesDeed_72 (tgt := 117) (by decide) (fun c34 => ?_) (fun c34 => ?_)
        · have h := h.1 c34
          refine G_iconst dX5_takesDeed_117 ?_
          exact G_zret rfl (by decide) dX5_takesDeed_118 ⟨_, rfl, h⟩ o30
        · have h := h.2 c34
          refine G_aload_n 0 rfl rfl dX5_takesDeed_75 ?_
          refine G_iconst dX5_takesDeed_76 ?_
          obtain ⟨g35, g36, g37, g38, c39, h⟩ := h
          refine G_callV (as := [_]) cf_X5_93 rfl rfl rfl (sp_X5_takesKind (d - 1) (by omega) _ o30 _ (rL 3 rfl) g35 g36 g37 g38 c39) (by omega) rfl rfl (Nat.le_of_ble_eq_true rfl) dX5_takesDeed_77 ?_
          rintro _ σ42 ⟨u43, rfl, z44⟩ o41 r40
          have h := h _ _ (r40 _ rfl) o41 z44
          refine G_if_eq (r40 _ rfl) dX5_takesDeed_80 (tgt := 117) (by decide) (fun c45 => ?_) (fun c45 => ?_)
          · have h := h.1 c45
            refine G_iconst dX5_takesDeed_117 ?_
            exact G_zret rfl (by decide) dX5_takesDeed_118 ⟨_, rfl, h⟩ o41
          · have h := h.2 c45
            refine G_aload_n 0 rfl rfl dX5_takesDeed_83 ?_
            refine G_iconst dX5_takesDeed_84 ?_
            refine G_iconst dX5_takesDeed_85 ?_
            refine G_bipush (by decide) dX5_takesDeed_86 ?_
            obtain ⟨g46, g47, g48, g49, c50, h⟩ := h
            refine G_callV (as := [_, _, _]) cf_X5_96 rfl rfl rfl (sp_X5_takesNumber (d - 1) (by omega) _ o41 _ (rL 2 rfl) _ (rL 1 rfl) _ (rL 9 rfl) g46 g47 g48 g49 c50) (by omega) rfl rfl (Nat.le_of_ble_eq_true rfl) dX5_takesDeed_88 ?_
            rintro _ σ53 ⟨u54, rfl, z55⟩ o52 r51
            have h := h _ _ (r51 _ rfl) o52 z55
            refine G_if_eq (r51 _ rfl) dX5_takesDeed_91 (tgt := 117) (by decide) (fun c56 => ?_) (fun c56 => ?_)
            · have h := h.1 c56
              refine G_iconst dX5_takesDeed_117 ?_
              exact G_zret rfl (by decide) dX5_takesDeed_118 ⟨_, rfl, h⟩ o52
            · have h := h.2 c56
              refine G_aload_n 0 rfl rfl dX5_takesDeed_94 ?_
              refine G_iconst dX5_takesDeed_95 ?_
              obtain ⟨g57, g58, g59, g60, c61, h⟩ := h
              refine G_callV (as := [_]) cf_X5_93 rfl rfl rfl (sp_X5_takesKind (d - 1) (by omega) _ o52 _ (rL 4 rfl) g57 g58 g59 g60 c61) (by omega) rfl rfl (Nat.le_of_ble_eq_true rfl) dX5_takesDeed_96 ?_
              rintro _ σ64 ⟨u65, rfl, z66⟩ o63 r62
              have h := h _ _ (r62 _ rfl) o63 z66
              refine G_if_eq (r62 _ rfl) dX5_takesDeed_99 (tgt := 117) (by decide) (fun c67 => ?_) (fun c67 => ?_)
              · have h := h.1 c67
                refine G_iconst dX5_takesDeed_117 ?_
                exact G_zret rfl (by decide) dX5_takesDeed_118 ⟨_, rfl, h⟩ o63
              · have h := h.2 c67
                refine G_aload_n 0 rfl rfl dX5_takesDeed_102 ?_
                refine G_iconst dX5_takesDeed_103 ?_
                refine G_iconst dX5_takesDeed_104 ?_
                refine G_bipush (by decide) dX5_takesDeed_105 ?_
                obtain ⟨g68, g69, g70, g71, c72, h⟩ := h
                refine G_callV (as := [_, _, _]) cf_X5_96 rfl rfl rfl (sp_X5_takesNumber (d - 1) (by omega) _ o63 _ (rL 3 rfl) _ (rL 1 rfl) _ (rL 99 rfl) g68 g69 g70 g71 c72) (by omega) rfl rfl (Nat.le_of_ble_eq_true rfl) dX5_takesDeed_107 ?_
                rintro _ σ75 ⟨u76, rfl, z77⟩ o74 r73
                have h := h _ _ (r73 _ rfl) o74 z77
                refine G_if_eq (r73 _ rfl) dX5_takesDeed_110 (tgt := 117) (by decide) (fun c78 => ?_) (fun c78 => ?_)
                · have h := h.1 c78
                  refine G_iconst dX5_takesDeed_117 ?_
                  exact G_zret rfl (by decide) dX5_takesDeed_118 ⟨_, rfl, h⟩ o74
                · have h := h.2 c78
                  refine G_iconst dX5_takesDeed_113 ?_
                  refine G_goto (tgt := 118) dX5_takesDeed_114 (by decide) ?_
                  exact G_zret rfl (by decide) dX5_takesDeed_118 ⟨_, rfl, h⟩ o74
  · have h := h.2 n182
    have n183 : (12 : Int) ≤ x1 ∨ x1 < 11 := tsw_next (by decide) (tsw_0 _ _) n182
    refine G_tsw (tgt := 209) 1 12 (by decide) (rL _ rfl) (by decide) rfl (by decide) hx1 dX5_takesDeed_1 (fun n184 => ?_) (fun n184 => ?_)
    · have h := ((((h).2 (tsw_ne n184 (by decide))).2 (tsw_ne n184 (by decide))).2 (tsw_ne n184 (by decide))).2 (tsw_ne n184 (by decide))
      refine G_aload_n 0 rfl rfl dX5_takesDeed_209 ?_
      refine G_iconst dX5_takesDeed_210 ?_
      refine G_iconst dX5_takesDeed_211 ?_
      refine G_bipush (by decide) dX5_takesDeed_212 ?_
      obtain ⟨g171, g172, g173, g174, c175, h⟩ := h
      refine G_callV (as := [_, _, _]) cf_X5_96 rfl rfl rfl (sp_X5_takesNumber (d - 1) (by omega) _ hO _ (rL 0 rfl) _ (rL 1 rfl) _ (rL 60 rfl) g171 g172 g173 g174 c175) (by omega) rfl rfl (Nat.le_of_ble_eq_true rfl) dX5_takesDeed_214 ?_
      rintro _ σ178 ⟨u179, rfl, z180⟩ o177 r176
      have h := h _ _ (r176 _ rfl) o177 z180
      obtain ⟨c181, h⟩ := h
      exact G_zret rfl c181 dX5_takesDeed_217 ⟨_, rfl, h⟩ o177
    · have n185 : (13 : Int) ≤ x1 ∨ x1 < 11 := tsw_next (by decide) n183 n184
      refine G_tsw (tgt := 119) 2 13 (by decide) (rL _ rfl) (by decide) rfl (by decide) hx1 dX5_takesDeed_1 (fun n186 => ?_) (fun n186 => ?_)
      · have h := h.1 n186
        refine G_aload_n 0 rfl rfl dX5_takesDeed_119 ?_
        refine G_iconst dX5_takesDeed_120 ?_
        refine G_iconst dX5_takesDeed_121 ?_
        refine G_bipush (by decide) dX5_takesDeed_122 ?_
        obtain ⟨g80, g81, g82, g83, c84, h⟩ := h
        refine G_callV (as := [_, _, _]) cf_X5_96 rfl rfl rfl (sp_X5_takesNumber (d - 1) (by omega) _ hO _ (rL 0 rfl) _ (rL 0 rfl) _ (rL 7 rfl) g80 g81 g82 g83 c84) (by omega) rfl rfl (Nat.le_of_ble_eq_true rfl) dX5_takesDeed_124 ?_
        rintro _ σ87 ⟨u88, rfl, z89⟩ o86 r85
        have h := h _ _ (r85 _ rfl) o86 z89
        refine G_if_eq (r85 _ rfl) dX5_takesDeed_127 (tgt := 153) (by decide) (fun c90 => ?_) (fun c90 => ?_)
        · have h := h.1 c90
          refine G_iconst dX5_takesDeed_153 ?_
          exact G_zret rfl (by decide) dX5_takesDeed_154 ⟨_, rfl, h⟩ o86
        · have h := h.2 c90
          refine G_aload_n 0 rfl rfl dX5_takesDeed_130 ?_
          refine G_iconst dX5_takesDeed_131 ?_
          obtain ⟨g91, g92, g93, g94, c95, h⟩ := h
          refine G_callV (as := [_]) cf_X5_93 rfl rfl rfl (sp_X5_takesKind (d - 1) (by omega) _ o86 _ (rL 5 rfl) g91 g92 g93 g94 c95) (by omega) rfl rfl (Nat.le_of_ble_eq_true rfl) dX5_takesDeed_132 ?_
          rintro _ σ98 ⟨u99, rfl, z100⟩ o97 r96
          have h := h _ _ (r96 _ rfl) o97 z100
          refine G_if_eq (r96 _ rfl) dX5_takesDeed_135 (tgt := 153) (by decide) (fun c101 => ?_) (fun c101 => ?_)
          · have h := h.1 c101
            refine G_iconst dX5_takesDeed_153 ?_
            exact G_zret rfl (by decide) dX5_takesDeed_154 ⟨_, rfl, h⟩ o97
          · have h := h.2 c101
            refine G_aload_n 0 rfl rfl dX5_takesDeed_138 ?_
            refine G_iconst dX5_takesDeed_139 ?_
            refine G_iconst dX5_takesDeed_140 ?_
            refine G_bipush (by decide) dX5_takesDeed_141 ?_
            obtain ⟨g102, g103, g104, g105, c106, h⟩ := h
            refine G_callV (as := [_, _, _]) cf_X5_96 rfl rfl rfl (sp_X5_takesNumber (d - 1) (by omega) _ o97 _ (rL 1 rfl) _ (rL 1 rfl) _ (rL 9 rfl) g102 g103 g104 g105 c106) (by omega) rfl rfl (Nat.le_of_ble_eq_true rfl) dX5_takesDeed_143 ?_
            rintro _ σ109 ⟨u110, rfl, z111⟩ o108 r107
            have h := h _ _ (r107 _ rfl) o108 z111
            refine G_if_eq (r107 _ rfl) dX5_takesDeed_146 (tgt := 153) (by decide) (fun c112 => ?_) (fun c112 => ?_)
            · have h := h.1 c112
              refine G_iconst dX5_takesDeed_153 ?_
              exact G_zret rfl (by decide) dX5_takesDeed_154 ⟨_, rfl, h⟩ o108
            · have h := h.2 c112
              refine G_iconst dX5_takesDeed_149 ?_
              refine G_goto (tgt := 154) dX5_takesDeed_150 (by decide) ?_
              exact G_zret rfl (by decide) dX5_takesDeed_154 ⟨_, rfl, h⟩ o108
      · have h := h.2 n186
        have n187 : (14 : Int) ≤ x1 ∨ x1 < 11 := tsw_next (by decide) n185 n186
        refine G_tsw (tgt := 155) 3 14 (by decide) (rL _ rfl) (by decide) rfl (by decide) hx1 dX5_takesDeed_1 (fun n188 => ?_) (fun n188 => ?_)
        · have h := h.1 n188
          refine G_aload_n 0 rfl rfl dX5_takesDeed_155 ?_
          refine G_iconst dX5_takesDeed_156 ?_
          refine G_iconst dX5_takesDeed_157 ?_
          refine G_bipush (by decide) dX5_takesDeed_158 ?_
          obtain ⟨g114, g115, g116, g117, c118, h⟩ := h
          refine G_callV (as := [_, _, _]) cf_X5_96 rfl rfl rfl (sp_X5_takesNumber (d - 1) (by omega) _ hO _ (rL 0 rfl) _ (rL 0 rfl) _ (rL 15 rfl) g114 g115 g116 g117 c118) (by omega) rfl rfl (Nat.le_of_ble_eq_true rfl) dX5_takesDeed_160 ?_
          rintro _ σ121 ⟨u122, rfl, z123⟩ o120 r119
          have h := h _ _ (r119 _ rfl) o120 z123
          refine G_if_eq (r119 _ rfl) dX5_takesDeed_163 (tgt := 189) (by decide) (fun c124 => ?_) (fun c124 => ?_)
          · have h := h.1 c124
            refine G_iconst dX5_takesDeed_189 ?_
            exact G_zret rfl (by decide) dX5_takesDeed_190 ⟨_, rfl, h⟩ o120
          · have h := h.2 c124
            refine G_aload_n 0 rfl rfl dX5_takesDeed_166 ?_
            refine G_bipush (by decide) dX5_takesDeed_167 ?_
            obtain ⟨g125, g126, g127, g128, c129, h⟩ := h
            refine G_callV (as := [_]) cf_X5_93 rfl rfl rfl (sp_X5_takesKind (d - 1) (by omega) _ o120 _ (rL 15 rfl) g125 g126 g127 g128 c129) (by omega) rfl rfl (Nat.le_of_ble_eq_true rfl) dX5_takesDeed_169 ?_
            rintro _ σ132 ⟨u133, rfl, z134⟩ o131 r130
            have h := h _ _ (r130 _ rfl) o131 z134
            refine G_if_eq (r130 _ rfl) dX5_takesDeed_172 (tgt := 189) (by decide) (fun c135 => ?_) (fun c135 => ?_)
            · have h := h.1 c135
              refine G_iconst dX5_takesDeed_189 ?_
              exact G_zret rfl (by decide) dX5_takesDeed_190 ⟨_, rfl, h⟩ o131
            · have h := h.2 c135
              refine G_aload_n 0 rfl rfl dX5_takesDeed_175 ?_
              refine G_iconst dX5_takesDeed_176 ?_
              refine G_iconst dX5_takesDeed_177 ?_
              refine G_iconst dX5_takesDeed_178 ?_
              obtain ⟨g136, g137, g138, g139, c140, h⟩ := h
              refine G_callV (as := [_, _, _]) cf_X5_96 rfl rfl rfl (sp_X5_takesNumber (d - 1) (by omega) _ o131 _ (rL 1 rfl) _ (rL 0 rfl) _ (rL 5 rfl) g136 g137 g138 g139 c140) (by omega) rfl rfl (Nat.le_of_ble_eq_true rfl) dX5_takesDeed_179 ?_
              rintro _ σ143 ⟨u144, rfl, z145⟩ o142 r141
              have h := h _ _ (r141 _ rfl) o142 z145
              refine G_if_eq (r141 _ rfl) dX5_takesDeed_182 (tgt := 189) (by decide) (fun c146 => ?_) (fun c146 => ?_)
              · have h := h.1 c146
                refine G_iconst dX5_takesDeed_189 ?_
                exact G_zret rfl (by decide) dX5_takesDeed_190 ⟨_, rfl, h⟩ o142
              · have h := h.2 c146
                refine G_iconst dX5_takesDeed_185 ?_
                refine G_goto (tgt := 190) dX5_takesDeed_186 (by decide) ?_
                exact G_zret rfl (by decide) dX5_takesDeed_190 ⟨_, rfl, h⟩ o142
        · have h := h.2 n188
          have n189 : (15 : Int) ≤ x1 ∨ x1 < 11 := tsw_next (by decide) n187 n188
          refine G_tsw (tgt := 209) 4 15 (by decide) (rL _ rfl) (by decide) rfl (by decide) hx1 dX5_takesDeed_1 (fun n190 => ?_) (fun n190 => ?_)
          · have h := ((h).2 (tsw_ne n190 (by decide))).2 (tsw_ne n190 (by decide))
            refine G_aload_n 0 rfl rfl dX5_takesDeed_209 ?_
            refine G_iconst dX5_takesDeed_210 ?_
            refine G_iconst dX5_takesDeed_211 ?_
            refine G_bipush (by decide) dX5_takesDeed_212 ?_
            obtain ⟨g171, g172, g173, g174, c175, h⟩ := h
            refine G_callV (as := [_, _, _]) cf_X5_96 rfl rfl rfl (sp_X5_takesNumber (d - 1) (by omega) _ hO _ (rL 0 rfl) _ (rL 1 rfl) _ (rL 60 rfl) g171 g172 g173 g174 c175) (by omega) rfl rfl (Nat.le_of_ble_eq_true rfl) dX5_takesDeed_214 ?_
            rintro _ σ178 ⟨u179, rfl, z180⟩ o177 r176
            have h := h _ _ (r176 _ rfl) o177 z180
            obtain ⟨c181, h⟩ := h
            exact G_zret rfl c181 dX5_takesDeed_217 ⟨_, rfl, h⟩ o177
          · have n191 : (16 : Int) ≤ x1 ∨ x1 < 11 := tsw_next (by decide) n189 n190
            refine G_tsw (tgt := 191) 5 16 (by decide) (rL _ rfl) (by decide) rfl (by decide) hx1 dX5_takesDeed_1 (fun n192 => ?_) (fun n192 => ?_)
            · have h := h.1 n192
              refine G_aload_n 0 rfl rfl dX5_takesDeed_191 ?_
              refine G_iconst dX5_takesDeed_192 ?_
              refine G_iconst dX5_takesDeed_193 ?_
              refine G_bipush (by decide) dX5_takesDeed_194 ?_
              obtain ⟨g148, g149, g150, g151, c152, h⟩ := h
              refine G_callV (as := [_, _, _]) cf_X5_96 rfl rfl rfl (sp_X5_takesNumber (d - 1) (by omega) _ hO _ (rL 0 rfl) _ (rL 0 rfl) _ (rL 15 rfl) g148 g149 g150 g151 c152) (by omega) rfl rfl (Nat.le_of_ble_eq_true rfl) dX5_takesDeed_196 ?_
              rintro _ σ155 ⟨u156, rfl, z157⟩ o154 r153
              have h := h _ _ (r153 _ rfl) o154 z157
              obtain ⟨c158, h⟩ := h
              exact G_zret rfl c158 dX5_takesDeed_199 ⟨_, rfl, h⟩ o154
            · have h := h.2 n192
              have n193 : (17 : Int) ≤ x1 ∨ x1 < 11 := tsw_next (by decide) n191 n192
              refine G_tsw (tgt := 200) 6 17 (by decide) (rL _ rfl) (by decide) rfl (by decide) hx1 dX5_takesDeed_1 (fun n194 => ?_) (fun n194 => ?_)
              · have h := h.1 n194
                refine G_aload_n 0 rfl rfl dX5_takesDeed_200 ?_
                refine G_iconst dX5_takesDeed_201 ?_
                refine G_iconst dX5_takesDeed_202 ?_
                refine G_bipush (by decide) dX5_takesDeed_203 ?_
                obtain ⟨g160, g161, g162, g163, c164, h⟩ := h
                refine G_callV (as := [_, _, _]) cf_X5_96 rfl rfl rfl (sp_X5_takesNumber (d - 1) (by omega) _ hO _ (rL 0 rfl) _ (rL 1 rfl) _ (rL 99 rfl) g160 g161 g162 g163 c164) (by omega) rfl rfl (Nat.le_of_ble_eq_true rfl) dX5_takesDeed_205 ?_
                rintro _ σ167 ⟨u168, rfl, z169⟩ o166 r165
                have h := h _ _ (r165 _ rfl) o166 z169
                obtain ⟨c170, h⟩ := h
                exact G_zret rfl c170 dX5_takesDeed_208 ⟨_, rfl, h⟩ o166
              · have h := h.2 n194
                have n195 : (18 : Int) ≤ x1 ∨ x1 < 11 := tsw_next (by decide) n193 n194
                refine G_tswd (tgt := 209) hx1 (tsw_out n195) (by decide) dX5_takesDeed_1 ?_
                refine G_aload_n 0 rfl rfl dX5_takesDeed_209 ?_
                refine G_iconst dX5_takesDeed_210 ?_
                refine G_iconst dX5_takesDeed_211 ?_
                refine G_bipush (by decide) dX5_takesDeed_212 ?_
                obtain ⟨g171, g172, g173, g174, c175, h⟩ := h
                refine G_callV (as := [_, _, _]) cf_X5_96 rfl rfl rfl (sp_X5_takesNumber (d - 1) (by omega) _ hO _ (rL 0 rfl) _ (rL 1 rfl) _ (rL 60 rfl) g171 g172 g173 g174 c175) (by omega) rfl rfl (Nat.le_of_ble_eq_true rfl) dX5_takesDeed_214 ?_
                rintro _ σ178 ⟨u179, rfl, z180⟩ o177 r176
                have h := h _ _ (r176 _ rfl) o177 z180
                obtain ⟨c181, h⟩ := h
                exact G_zret rfl c181 dX5_takesDeed_217 ⟨_, rfl, h⟩ o177

theorem sp_X5_takesDeed (d : Nat) (hd : 3 ≤ d) (σ : Mem) (hO : OKm σ) (x1 : Int) (hx1 : R32 x1) (b : Int → Int) (N : Int) (p : Nat) (i : Nat) (m : Nat) (c : Int) (hpre : rdC σ b N p i ∧ σ p 9 = (m : Int) + 1 ∧ m < 24 ∧ (2 ≤ c ∧ c ≤ 7) ∧ x1 = kcC c) : Mt yX5_takesDeed cX5_takesDeed 2 (some .boolean) d [aR (35), aI (x1)] σ (QI (fun v σ' => dAns b N p m σ σ' v (pDeed (kd b N) (nu b N) c i))) := mt_X5_takesDeed hd hx1 hO (by
  unfold wp_X5_takesDeed
  obtain ⟨hr, h9, hm, hc, hx⟩ := hpre
  have hp := hr.1.2.2
  have e35 := hr.2.2.1
  have hi := hr.2.2.2.1
  refine ⟨fun hk => ?_, fun hk11 => ?_⟩
  · have hcc : c = 2 := by rw [hx] at hk; unfold kcC at hk; grind
    subst hcc
    have ep := pD2 (K := kd b N) (M := nu b N) (i := i)
    refine ⟨b, N, p, i, ⟨hr, by have e9 := (nmQ.rf (p := p) (m := m) e35 (by have := hr.2.2.2.1; omega)).1 p (by simp; have := off35 hp; omega); rw [e9, h9]; omega, by omega⟩, fun u0 ρ0 _ _ h0 => ?_⟩
    rcases num_step hr h0 with ⟨e, hq0, hu0, he0⟩ | ⟨x0, hq0, hu0, hx0, hj0, he0⟩
    · have ep := ep
      have ep := ep.trans (qB_er hq0)
      exact ⟨fun _ => dAns.E ep rfl (he0.pre (nmQ.rf (p := p) (m := m) e35 (by have := hr.2.2.2.1; omega)).F), fun q => absurd hu0 q⟩
    · have hQ0 := nmQ.num hp (nmQ.rf (p := p) (m := m) e35 (by have := hr.2.2.2.1; omega)) h9 (by simp) (by omega) he0
      have ep := ep.trans (qB_ok hq0)
      refine ⟨fun q => absurd q (by omega), fun _ => ?_⟩
      refine ⟨b, N, p, (i + 1), (hQ0.rd hr), fun u1 ρ1 _ _ h1 => ?_⟩
      rcases h1 with ⟨kk1, hu1, he1⟩ | ⟨kk1, hu1, he1⟩
      rotate_left
      · rw [show pW (kd b N) (nu b N) 12 0 7 (i + 1) = .inl (1, (i + 1)) by unfold pW; rw [if_neg kk1]] at ep
        have ep := ep.trans (qB_er rfl)
        exact ⟨fun _ => dAns.E ep rfl ((erR.fail (hQ0.rd hr) he1).T.pre hQ0.F), fun q => absurd hu1 q⟩
      have hK1 := nmQ.kw hp hQ0 (by omega) he1
      refine ⟨fun q => absurd q (by omega), fun _ => ?_⟩
      refine ⟨b, N, p, ((i + 1) + 1), ⟨(hK1.rd hr), by have e9 := hK1.1 p (by simp; have := off35 hp; omega); rw [e9, h9]; omega, by omega⟩, fun u2 ρ2 _ _ h2 => ?_⟩
      rcases num_step (hK1.rd hr) h2 with ⟨e, hq2, hu2, he2⟩ | ⟨x2, hq2, hu2, hx2, hj2, he2⟩
      · have ep := ep
        rw [show pW (kd b N) (nu b N) 12 0 7 (i + 1) = .inl e by unfold pW; rw [if_pos kk1]; exact hq2] at ep
        have ep := ep.trans (qB_er rfl)
        exact ⟨fun _ => dAns.E ep rfl (he2.pre hK1.F), fun q => absurd hu2 q⟩
      · have hQ2 := nmQ.num hp hK1 h9 (by simp) (by omega) he2
        rw [show pW (kd b N) (nu b N) 12 0 7 (i + 1) = .inr (x2, ((i + 1) + 1) + 1) by unfold pW; rw [if_pos kk1]; exact hq2] at ep
        have ep := ep.trans (qB_ok rfl)
        refine ⟨fun q => absurd q (by omega), fun _ => ?_⟩
        refine ⟨b, N, p, (((i + 1) + 1) + 1), (hQ2.rd hr), fun u3 ρ3 _ _ h3 => ?_⟩
        rcases h3 with ⟨kk3, hu3, he3⟩ | ⟨kk3, hu3, he3⟩
        rotate_left
        · rw [show pW (kd b N) (nu b N) 3 1 9 (((i + 1) + 1) + 1) = .inl (1, (((i + 1) + 1) + 1)) by unfold pW; rw [if_neg kk3]] at ep
          have ep := ep.trans (qB_er rfl)
          exact ⟨fun _ => dAns.E ep rfl ((erR.fail (hQ2.rd hr) he3).T.pre hQ2.F), fun q => absurd hu3 q⟩
        have hK3 := nmQ.kw hp hQ2 (by omega) he3
        refine ⟨fun q => absurd q (by omega), fun _ => ?_⟩
        refine ⟨b, N, p, ((((i + 1) + 1) + 1) + 1), ⟨(hK3.rd hr), by have e9 := hK3.1 p (by simp; have := off35 hp; omega); rw [e9, h9]; omega, by omega⟩, fun u4 ρ4 _ _ h4 => ?_⟩
        rcases num_step (hK3.rd hr) h4 with ⟨e, hq4, hu4, he4⟩ | ⟨x4, hq4, hu4, hx4, hj4, he4⟩
        · have ep := ep
          rw [show pW (kd b N) (nu b N) 3 1 9 (((i + 1) + 1) + 1) = .inl e by unfold pW; rw [if_pos kk3]; exact hq4] at ep
          have ep := ep.trans (qB_er rfl)
          exact ⟨fun _ => dAns.E ep rfl (he4.pre hK3.F), fun q => absurd hu4 q⟩
        · have hQ4 := nmQ.num hp hK3 h9 (by simp) (by omega) he4
          rw [show pW (kd b N) (nu b N) 3 1 9 (((i + 1) + 1) + 1) = .inr (x4, ((((i + 1) + 1) + 1) + 1) + 1) by unfold pW; rw [if_pos kk3]; exact hq4] at ep
          have ep := ep.trans (qB_ok rfl)
          refine ⟨fun q => absurd q (by omega), fun _ => ?_⟩
          refine ⟨b, N, p, (((((i + 1) + 1) + 1) + 1) + 1), (hQ4.rd hr), fun u5 ρ5 _ _ h5 => ?_⟩
          rcases h5 with ⟨kk5, hu5, he5⟩ | ⟨kk5, hu5, he5⟩
          rotate_left
          · rw [show pW (kd b N) (nu b N) 4 1 99 (((((i + 1) + 1) + 1) + 1) + 1) = .inl (1, (((((i + 1) + 1) + 1) + 1) + 1)) by unfold pW; rw [if_neg kk5]] at ep
            have ep := ep.trans (qB_er rfl)
            exact ⟨fun _ => dAns.E ep rfl ((erR.fail (hQ4.rd hr) he5).T.pre hQ4.F), fun q => absurd hu5 q⟩
          have hK5 := nmQ.kw hp hQ4 (by omega) he5
          refine ⟨fun q => absurd q (by omega), fun _ => ?_⟩
          refine ⟨b, N, p, ((((((i + 1) + 1) + 1) + 1) + 1) + 1), ⟨(hK5.rd hr), by have e9 := hK5.1 p (by simp; have := off35 hp; omega); rw [e9, h9]; omega, by omega⟩, fun u6 ρ6 _ _ h6 => ?_⟩
          rcases num_step (hK5.rd hr) h6 with ⟨e, hq6, hu6, he6⟩ | ⟨x6, hq6, hu6, hx6, hj6, he6⟩
          · have ep := ep
            rw [show pW (kd b N) (nu b N) 4 1 99 (((((i + 1) + 1) + 1) + 1) + 1) = .inl e by unfold pW; rw [if_pos kk5]; exact hq6] at ep
            have ep := ep.trans (qB_er rfl)
            exact ⟨fun _ => dAns.E ep rfl (he6.pre hK5.F), fun q => absurd hu6 q⟩
          · have hQ6 := nmQ.num hp hK5 h9 (by simp) (by omega) he6
            rw [show pW (kd b N) (nu b N) 4 1 99 (((((i + 1) + 1) + 1) + 1) + 1) = .inr (x6, ((((((i + 1) + 1) + 1) + 1) + 1) + 1) + 1) by unfold pW; rw [if_pos kk5]; exact hq6] at ep
            have ep := ep.trans (qB_ok rfl)
            exact ⟨fun q => absurd q (by omega), fun _ => dAns.O ep rfl (by omega) (.inr (.inl (⟨rfl, hx0, hx2, hx4, hx6⟩))) hQ6 (fun _ => rfl) (fun h => rfl) (fun h => ⟨rfl, rfl⟩)⟩
  refine ⟨fun hk => ?_, fun hk13 => ?_⟩
  · have hcc : c = 3 := by rw [hx] at hk; unfold kcC at hk; grind
    subst hcc
    have ep := pD3 (K := kd b N) (M := nu b N) (i := i)
    refine ⟨b, N, p, i, ⟨hr, by have e9 := (nmQ.rf (p := p) (m := m) e35 (by have := hr.2.2.2.1; omega)).1 p (by simp; have := off35 hp; omega); rw [e9, h9]; omega, by omega⟩, fun u0 ρ0 _ _ h0 => ?_⟩
    rcases num_step hr h0 with ⟨e, hq0, hu0, he0⟩ | ⟨x0, hq0, hu0, hx0, hj0, he0⟩
    · have ep := ep
      have ep := ep.trans (qB_er hq0)
      exact ⟨fun _ => dAns.E ep rfl (he0.pre (nmQ.rf (p := p) (m := m) e35 (by have := hr.2.2.2.1; omega)).F), fun q => absurd hu0 q⟩
    · have hQ0 := nmQ.num hp (nmQ.rf (p := p) (m := m) e35 (by have := hr.2.2.2.1; omega)) h9 (by simp) (by omega) he0
      have ep := ep.trans (qB_ok hq0)
      refine ⟨fun q => absurd q (by omega), fun _ => ?_⟩
      refine ⟨b, N, p, (i + 1), (hQ0.rd hr), fun u1 ρ1 _ _ h1 => ?_⟩
      rcases h1 with ⟨kk1, hu1, he1⟩ | ⟨kk1, hu1, he1⟩
      rotate_left
      · rw [show pW (kd b N) (nu b N) 5 1 9 (i + 1) = .inl (1, (i + 1)) by unfold pW; rw [if_neg kk1]] at ep
        have ep := ep.trans (qB_er rfl)
        exact ⟨fun _ => dAns.E ep rfl ((erR.fail (hQ0.rd hr) he1).T.pre hQ0.F), fun q => absurd hu1 q⟩
      have hK1 := nmQ.kw hp hQ0 (by omega) he1
      refine ⟨fun q => absurd q (by omega), fun _ => ?_⟩
      refine ⟨b, N, p, ((i + 1) + 1), ⟨(hK1.rd hr), by have e9 := hK1.1 p (by simp; have := off35 hp; omega); rw [e9, h9]; omega, by omega⟩, fun u2 ρ2 _ _ h2 => ?_⟩
      rcases num_step (hK1.rd hr) h2 with ⟨e, hq2, hu2, he2⟩ | ⟨x2, hq2, hu2, hx2, hj2, he2⟩
      · have ep := ep
        rw [show pW (kd b N) (nu b N) 5 1 9 (i + 1) = .inl e by unfold pW; rw [if_pos kk1]; exact hq2] at ep
        have ep := ep.trans (qB_er rfl)
        exact ⟨fun _ => dAns.E ep rfl (he2.pre hK1.F), fun q => absurd hu2 q⟩
      · have hQ2 := nmQ.num hp hK1 h9 (by simp) (by omega) he2
        rw [show pW (kd b N) (nu b N) 5 1 9 (i + 1) = .inr (x2, ((i + 1) + 1) + 1) by unfold pW; rw [if_pos kk1]; exact hq2] at ep
        have ep := ep.trans (qB_ok rfl)
        exact ⟨fun q => absurd q (by omega), fun _ => dAns.O ep rfl (by omega) (.inr (.inr (.inl (⟨rfl, hx0, hx2⟩)))) hQ2 (fun _ => rfl) (fun h => rfl) (fun h => absurd (show (4 : Int) ≤ clN 3 from h) (by decide))⟩
  refine ⟨fun hk => ?_, fun hk14 => ?_⟩
  · have hcc : c = 4 := by rw [hx] at hk; unfold kcC at hk; grind
    subst hcc
    have ep := pD4 (K := kd b N) (M := nu b N) (i := i)
    refine ⟨b, N, p, i, ⟨hr, by have e9 := (nmQ.rf (p := p) (m := m) e35 (by have := hr.2.2.2.1; omega)).1 p (by simp; have := off35 hp; omega); rw [e9, h9]; omega, by omega⟩, fun u0 ρ0 _ _ h0 => ?_⟩
    rcases num_step hr h0 with ⟨e, hq0, hu0, he0⟩ | ⟨x0, hq0, hu0, hx0, hj0, he0⟩
    · have ep := ep
      have ep := ep.trans (qB_er hq0)
      exact ⟨fun _ => dAns.E ep rfl (he0.pre (nmQ.rf (p := p) (m := m) e35 (by have := hr.2.2.2.1; omega)).F), fun q => absurd hu0 q⟩
    · have hQ0 := nmQ.num hp (nmQ.rf (p := p) (m := m) e35 (by have := hr.2.2.2.1; omega)) h9 (by simp) (by omega) he0
      have ep := ep.trans (qB_ok hq0)
      refine ⟨fun q => absurd q (by omega), fun _ => ?_⟩
      refine ⟨b, N, p, (i + 1), (hQ0.rd hr), fun u1 ρ1 _ _ h1 => ?_⟩
      rcases h1 with ⟨kk1, hu1, he1⟩ | ⟨kk1, hu1, he1⟩
      rotate_left
      · rw [show pW (kd b N) (nu b N) 15 0 5 (i + 1) = .inl (1, (i + 1)) by unfold pW; rw [if_neg kk1]] at ep
        have ep := ep.trans (qB_er rfl)
        exact ⟨fun _ => dAns.E ep rfl ((erR.fail (hQ0.rd hr) he1).T.pre hQ0.F), fun q => absurd hu1 q⟩
      have hK1 := nmQ.kw hp hQ0 (by omega) he1
      refine ⟨fun q => absurd q (by omega), fun _ => ?_⟩
      refine ⟨b, N, p, ((i + 1) + 1), ⟨(hK1.rd hr), by have e9 := hK1.1 p (by simp; have := off35 hp; omega); rw [e9, h9]; omega, by omega⟩, fun u2 ρ2 _ _ h2 => ?_⟩
      rcases num_step (hK1.rd hr) h2 with ⟨e, hq2, hu2, he2⟩ | ⟨x2, hq2, hu2, hx2, hj2, he2⟩
      · have ep := ep
        rw [show pW (kd b N) (nu b N) 15 0 5 (i + 1) = .inl e by unfold pW; rw [if_pos kk1]; exact hq2] at ep
        have ep := ep.trans (qB_er rfl)
        exact ⟨fun _ => dAns.E ep rfl (he2.pre hK1.F), fun q => absurd hu2 q⟩
      · have hQ2 := nmQ.num hp hK1 h9 (by simp) (by omega) he2
        rw [show pW (kd b N) (nu b N) 15 0 5 (i + 1) = .inr (x2, ((i + 1) + 1) + 1) by unfold pW; rw [if_pos kk1]; exact hq2] at ep
        have ep := ep.trans (qB_ok rfl)
        exact ⟨fun q => absurd q (by omega), fun _ => dAns.O ep rfl (by omega) (.inr (.inr (.inr (.inl (⟨rfl, hx0, hx2⟩))))) hQ2 (fun _ => rfl) (fun h => rfl) (fun h => absurd (show (4 : Int) ≤ clN 4 from h) (by decide))⟩
  refine ⟨fun hk => ?_, fun hk16 => ?_⟩
  · have hcc : c = 5 := by rw [hx] at hk; unfold kcC at hk; grind
    subst hcc
    have ep := pD5 (K := kd b N) (M := nu b N) (i := i)
    refine ⟨b, N, p, i, ⟨hr, by have e9 := (nmQ.rf (p := p) (m := m) e35 (by have := hr.2.2.2.1; omega)).1 p (by simp; have := off35 hp; omega); rw [e9, h9]; omega, by omega⟩, fun u0 ρ0 _ _ h0 => ?_⟩
    rcases num_step hr h0 with ⟨e, hq0, hu0, he0⟩ | ⟨x0, hq0, hu0, hx0, hj0, he0⟩
    · have ep := ep
      have ep := ep.trans (qB_er hq0)
      exact ⟨.inl hu0, dAns.E ep hu0 (he0.pre (nmQ.rf (p := p) (m := m) e35 (by have := hr.2.2.2.1; omega)).F)⟩
    · have hQ0 := nmQ.num hp (nmQ.rf (p := p) (m := m) e35 (by have := hr.2.2.2.1; omega)) h9 (by simp) (by omega) he0
      have ep := ep.trans (qB_ok hq0)
      exact ⟨.inr hu0, dAns.O ep hu0 (by omega) (.inr (.inr (.inr (.inr (.inl (⟨rfl, hx0⟩)))))) hQ0 (fun _ => rfl) (fun h => absurd (show (2 : Int) ≤ clN 5 from h) (by decide)) (fun h => absurd (show (4 : Int) ≤ clN 5 from h) (by decide))⟩
  refine ⟨fun hk => ?_, fun hk17 => ?_⟩
  · have hcc : c = 6 := by rw [hx] at hk; unfold kcC at hk; grind
    subst hcc
    have ep := pD6 (K := kd b N) (M := nu b N) (i := i)
    refine ⟨b, N, p, i, ⟨hr, by have e9 := (nmQ.rf (p := p) (m := m) e35 (by have := hr.2.2.2.1; omega)).1 p (by simp; have := off35 hp; omega); rw [e9, h9]; omega, by omega⟩, fun u0 ρ0 _ _ h0 => ?_⟩
    rcases num_step hr h0 with ⟨e, hq0, hu0, he0⟩ | ⟨x0, hq0, hu0, hx0, hj0, he0⟩
    · have ep := ep
      have ep := ep.trans (qB_er hq0)
      exact ⟨.inl hu0, dAns.E ep hu0 (he0.pre (nmQ.rf (p := p) (m := m) e35 (by have := hr.2.2.2.1; omega)).F)⟩
    · have hQ0 := nmQ.num hp (nmQ.rf (p := p) (m := m) e35 (by have := hr.2.2.2.1; omega)) h9 (by simp) (by omega) he0
      have ep := ep.trans (qB_ok hq0)
      exact ⟨.inr hu0, dAns.O ep hu0 (by omega) (.inr (.inr (.inr (.inr (.inr (.inl (⟨rfl, hx0⟩))))))) hQ0 (fun _ => rfl) (fun h => absurd (show (2 : Int) ≤ clN 6 from h) (by decide)) (fun h => absurd (show (4 : Int) ≤ clN 6 from h) (by decide))⟩
  have hcc : c = 7 := by unfold kcC at hx; grind
  subst hcc
  have ep := pD7 (K := kd b N) (M := nu b N) (i := i)
  refine ⟨b, N, p, i, ⟨hr, by have e9 := (nmQ.rf (p := p) (m := m) e35 (by have := hr.2.2.2.1; omega)).1 p (by simp; have := off35 hp; omega); rw [e9, h9]; omega, by omega⟩, fun u0 ρ0 _ _ h0 => ?_⟩
  rcases num_step hr h0 with ⟨e, hq0, hu0, he0⟩ | ⟨x0, hq0, hu0, hx0, hj0, he0⟩
  · have ep := ep
    have ep := ep.trans (qB_er hq0)
    exact ⟨.inl hu0, dAns.E ep hu0 (he0.pre (nmQ.rf (p := p) (m := m) e35 (by have := hr.2.2.2.1; omega)).F)⟩
  · have hQ0 := nmQ.num hp (nmQ.rf (p := p) (m := m) e35 (by have := hr.2.2.2.1; omega)) h9 (by simp) (by omega) he0
    have ep := ep.trans (qB_ok hq0)
    exact ⟨.inr hu0, dAns.O ep hu0 (by omega) (.inr (.inr (.inr (.inr (.inr (.inr (⟨rfl, hx0⟩))))))) hQ0 (fun _ => rfl) (fun h => absurd (show (2 : Int) ≤ clN 7 from h) (by decide)) (fun h => absurd (show (4 : Int) ≤ clN 7 from h) (by decide))⟩)
