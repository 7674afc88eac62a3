/-! the grammar, case by case -/
theorem pO_num {K M : Nat → Int} {lw : Int} {n i : Nat} (h : K i = 41) : pO K M lw n i = if 9999 < M i then .inl (2, i) else .inr (fun _ => M i, i + 1) := by
  rw [pO_eq]; unfold pOn; rw [if_pos h]
theorem pO_name {K M : Nat → Int} {lw : Int} {n i : Nat} (h : 0 ≤ K i ∧ K i ≤ 8) : pO K M lw n i = if (0 ≤ K i ∧ K i ≤ 4) ∨ (lw = 9 ∧ 5 ≤ K i ∧ K i ≤ 7) ∨ (lw ≠ 9 ∧ K i = 8) then .inr (fun e => e.1 (K i), i + 1) else .inl (5, i) := by
  rw [pO_eq]; unfold pOn; rw [if_neg (by omega), if_pos h]
theorem pO_cant {K M : Nat → Int} {lw : Int} {n i : Nat} (h1 : K i ≠ 41) (h2 : ¬ (0 ≤ K i ∧ K i ≤ 8)) (h : ¬ (K i = 36 ∨ K i = 33 ∨ K i = 18 ∨ K i = 20 ∨ K i = 21)) : pO K M lw n i = .inl (1, i) := by
  rw [pO_eq]; unfold pOn; rw [if_neg h1, if_neg h2, if_pos h]
theorem pO_deep {K M : Nat → Int} {lw : Int} {i : Nat} (h : K i = 36 ∨ K i = 33 ∨ K i = 18 ∨ K i = 20 ∨ K i = 21) : pO K M lw 0 i = .inl (3, i) := by
  rw [pO_eq]; unfold pOn; rw [if_neg (by omega), if_neg (by omega), if_neg (fun q => q h)]; rfl
theorem pO_s {K M : Nat → Int} {lw : Int} {n i : Nat} (h : K i = 36 ∨ K i = 33 ∨ K i = 18 ∨ K i = 20 ∨ K i = 21) : pO K M lw (n + 1) i =
      if K i = 36 then pB (pS K M lw n (i + 1)) (fun f j => if K j = 37 then .inr (f, j + 1) else .inl (1, j))
      else if K i = 33 then pB (pO K M lw n (i + 1)) (fun f j => .inr (fun e => aln e.2 44 (f e), j))
      else if K i = 18 then pB (pO K M lw n (i + 1)) (fun f j => if K j = 19 then pB (pO K M lw n (j + 1)) (fun g j' => .inr (fun e => jn 18 (f e) (g e), j')) else .inl (1, j))
      else if K i = 20 then pB (pO K M lw n (i + 1)) (fun f j => .inr (fun e => aln e.2 20 (f e), j))
      else pC K M lw n (i + 1) := by
  rw [pO_eq, pLo_s]; unfold pOn; rw [if_neg (by omega), if_neg (by omega), if_neg (fun q => q h)]
theorem pO_par {K M : Nat → Int} {lw : Int} {n i : Nat} (h : K i = 36) : pO K M lw (n + 1) i = pB (pS K M lw n (i + 1)) (fun f j => if K j = 37 then .inr (f, j + 1) else .inl (1, j)) := by
  rw [pO_s (by omega), if_pos h]
theorem pO_neg {K M : Nat → Int} {lw : Int} {n i : Nat} (h : K i = 33) : pO K M lw (n + 1) i = pB (pO K M lw n (i + 1)) (fun f j => .inr (fun e => aln e.2 44 (f e), j)) := by
  rw [pO_s (by omega), if_neg (by omega), if_pos h]
theorem pO_com {K M : Nat → Int} {lw : Int} {n i : Nat} (h : K i = 18) : pO K M lw (n + 1) i = pB (pO K M lw n (i + 1)) (fun f j => if K j = 19 then pB (pO K M lw n (j + 1)) (fun g j' => .inr (fun e => jn 18 (f e) (g e), j')) else .inl (1, j)) := by
  rw [pO_s (by omega), if_neg (by omega), if_neg (by omega), if_pos h]
theorem pO_rds {K M : Nat → Int} {lw : Int} {n i : Nat} (h : K i = 20) : pO K M lw (n + 1) i = pB (pO K M lw n (i + 1)) (fun f j => .inr (fun e => aln e.2 20 (f e), j)) := by
  rw [pO_s (by omega), if_neg (by omega), if_neg (by omega), if_neg (by omega), if_pos h]
theorem pO_if {K M : Nat → Int} {lw : Int} {n i : Nat} (h : K i = 21) : pO K M lw (n + 1) i = pC K M lw n (i + 1) := by
  rw [pO_s (by omega), if_neg (by omega), if_neg (by omega), if_neg (by omega), if_neg (by omega)]
theorem pA_not {K M : Nat → Int} {lw : Int} {n i : Nat} (h : K i = 27) : pA K M lw (n + 1) i = pB (pA K M lw n (i + 1)) (fun f j => .inr (fun e => aln e.2 27 (f e), j)) := by
  rw [pA_eq, pLo_s]; unfold pAs; rw [if_pos h]
theorem pA_deep {K M : Nat → Int} {lw : Int} {i : Nat} (h : K i = 27) : pA K M lw 0 i = .inl (3, i) := by
  rw [pA_eq]; unfold pAs; rw [if_pos h]; rfl
theorem pA_cmp {K M : Nat → Int} {lw : Int} {n i : Nat} (h : K i ≠ 27) : pA K M lw n i = pB (pS K M lw n i) (fun f j => if (28 ≤ K j ∧ K j ≤ 31) ∨ (39 ≤ K j ∧ K j ≤ 40) then pB (pS K M lw n (j + 1)) (fun g j' => .inr (fun e => jn (K j) (f e) (g e), j')) else .inl (1, j)) := by
  rw [pA_eq]; unfold pAs; rw [if_neg h]
theorem nu_nn {b : Int → Int} {N : Int} (hB : isTp b N) : ∀ i, kd b N i = 41 → 0 ≤ nu b N i := fun i h => by
  have := tok_rel hB i
  have h1 := this.1.2.1.mpr h
  have h2 := this.1.2.2.1 h1
  omega
/-! steps of the reader -/
def okQ (p i j : Nat) (nd : Int) (σ σ' : Mem) (f : Env → Int) : Prop := frR p σ σ' ∧ (σ' 35 2 = (j : Int) ∧ σ' p 2 + (i : Int) ≤ σ p 2 + (j : Int) ∧ j ≤ 300 ∧ kpC p (σ p 2) σ σ') ∧ ∃ n : Int, n ≤ nd ∧ Fg (σ' (p + 1)) (σ' (p + 2)) (σ p 2) (σ' p 2) n f
def erR (b : Int → Int) (N : Int) (p : Nat) (σ σ' : Mem) (e : Int × Nat) : Prop := frR p σ σ' ∧ σ' 35 4 = e.1 ∧ σ' 35 5 = ps b N e.2
theorem ansR.O {b : Int → Int} {N : Int} {p i : Nat} {nd : Int} {σ σ' : Mem} {v : Int} {r : PR} {f : Env → Int} {j : Nat} (h : ansR b N p i nd σ σ' v r) (hr : r = .inr (f, j)) : v = 1 ∧ okQ p i j nd σ σ' f := by
  have := h.ok hr
  exact ⟨this.2.1, this.1, this.2.2⟩
theorem ansR.E {b : Int → Int} {N : Int} {p i : Nat} {nd : Int} {σ σ' : Mem} {v : Int} {r : PR} {e : Int × Nat} (h : ansR b N p i nd σ σ' v r) (hr : r = .inl e) : v = 0 ∧ erR b N p σ σ' e := by
  have := h.er hr
  exact ⟨this.2.1, this.1, this.2.2⟩
theorem okQ.ans {b : Int → Int} {N : Int} {p i j : Nat} {nd : Int} {σ σ' : Mem} {v : Int} {r : PR} {f : Env → Int} (h : okQ p i j nd σ σ' f) (hr : r = .inr (f, j)) (hv : v = 1) : ansR b N p i nd σ σ' v r := by
  subst hr; exact ⟨h.1, hv, h.2⟩
theorem erR.ans {b : Int → Int} {N : Int} {p i : Nat} {nd : Int} {σ σ' : Mem} {v : Int} {r : PR} {e : Int × Nat} (h : erR b N p σ σ' e) (hr : r = .inl e) (hv : v = 0) : ansR b N p i nd σ σ' v r := by
  subst hr; exact ⟨h.1, hv, h.2⟩
theorem erR.fail {b : Int → Int} {N : Int} {p i : Nat} {σ σ' : Mem} {c : Int} (hr : rdC σ b N p i) (e : σ' = mset (mset σ 35 4 c) 35 5 (ps b N i)) : erR b N p σ σ' (c, i) :=
  ⟨frR.fail hr.1.2.2 hr.2.2.2.2 e, by rw [e, mset_miss (by omega), mset_hit rfl], by rw [e, mset_hit rfl]⟩
theorem erR.pre {b : Int → Int} {N : Int} {p : Nat} {σ τ σ' : Mem} {e : Int × Nat} (h : erR b N p τ σ' e) (hf : frR p σ τ) : erR b N p σ σ' e := ⟨hf.tr h.1, h.2⟩
theorem off35 {p : Nat} (hp : isText p) : 35 ≠ p ∧ 35 ≠ p + 1 ∧ 35 ≠ p + 2 := by unfold isText at hp; omega
theorem emS35 {p : Nat} {σ : Mem} {c o j : Int} (hp : isText p) : emS σ p c o 35 j = σ 35 j := by
  have := off35 hp
  unfold emS; rw [mset_off this.1, mset_off this.2.2, mset_off this.2.1]
theorem erR.emq {b : Int → Int} {N : Int} {p : Nat} {σ ρ τ : Mem} {e : Int × Nat} {c o : Int} (hp : isText p) (h : erR b N p σ ρ e) (et : τ = (if ρ p 2 < 300 then mset (mset (mset ρ (p + 1) (ρ p 2) c) (p + 2) (ρ p 2) o) p 2 (ρ p 2 + 1) else ρ)) : erR b N p σ τ e := by
  refine ⟨h.1.tr (frR.emq hp h.1.2.2.2 et), ?_⟩
  by_cases q : ρ p 2 < 300
  · rw [if_pos q] at et
    have : ∀ j, τ 35 j = ρ 35 j := fun j => by rw [et]; exact emS35 hp
    rw [this, this]; exact h.2
  · rw [if_neg q] at et; rw [et]; exact h.2
/-- one token on -/
def adv (p i : Nat) (σ τ : Mem) : Prop := frR p σ τ ∧ τ 35 2 = ((i + 1 : Nat) : Int) ∧ τ p 2 = σ p 2 ∧ (∀ z, kpC p z σ τ) ∧ τ (p + 1) = σ (p + 1) ∧ τ (p + 2) = σ (p + 2)
theorem adv.mk {p i : Nat} {σ τ : Mem} (hp : isText p) (h : 0 ≤ σ p 2 ∧ σ p 2 ≤ 300) (e : τ = mset σ 35 2 ((i : Int) + 1)) : adv p i σ τ := by
  have := off35 hp
  refine ⟨frR.at hp h e, by rw [e, mset_hit rfl]; omega, by rw [e, mset_off (Ne.symm this.1)], fun z => kpC.fr e hp, by rw [e, mset_ne (Ne.symm this.2.1)], by rw [e, mset_ne (Ne.symm this.2.2)]⟩
theorem adv.rd {b : Int → Int} {N : Int} {p i : Nat} {σ τ : Mem} (h : adv p i σ τ) (hr : rdC σ b N p i) (hi : i < 301) : rdC τ b N p (i + 1) := h.1.rd hr h.2.1 (by omega)
theorem adv.lw {p i : Nat} {σ τ : Mem} (h : adv p i σ τ) : τ 35 3 = σ 35 3 := h.1.2.1 3 (by omega) (by omega) (by omega)
theorem okQ.rd {b : Int → Int} {N : Int} {p i j : Nat} {nd : Int} {σ σ' : Mem} {f : Env → Int} (h : okQ p i j nd σ σ' f) (hr : rdC σ b N p i) : rdC σ' b N p j := h.1.rd hr h.2.1.1 (by have := h.2.1.2.2.1; omega)
theorem okQ.lw {p i j : Nat} {nd : Int} {σ σ' : Mem} {f : Env → Int} (h : okQ p i j nd σ σ' f) : σ' 35 3 = σ 35 3 := h.1.2.1 3 (by omega) (by omega) (by omega)
theorem okQ.lt {p i j : Nat} {nd : Int} {σ σ' : Mem} {f : Env → Int} (h : okQ p i j nd σ σ' f) : σ p 2 < σ' p 2 := by
  obtain ⟨_, _, n, _, h2⟩ := h
  exact h2.1
theorem okQ.le {p i j : Nat} {nd nd' : Int} {σ σ' : Mem} {f : Env → Int} (h : okQ p i j nd σ σ' f) (hn : nd ≤ nd') : okQ p i j nd' σ σ' f := by
  obtain ⟨h1, h2, n, h3, h4⟩ := h
  exact ⟨h1, h2, n, by omega, h4⟩
/-- a token ahead, one behind -/
theorem okQ.pre {p i j : Nat} {nd : Int} {σ τ σ' : Mem} {f : Env → Int} (ha : adv p i σ τ) (h : okQ p (i + 1) j nd τ σ' f) : okQ p i j nd σ σ' f := by
  obtain ⟨h1, h2, n, h3, h4⟩ := h
  rw [ha.2.2.1] at h2 h4
  exact ⟨ha.1.tr h1, ⟨h2.1, by omega, h2.2.2.1, (ha.2.2.2.1 _).tr h2.2.2.2 (Int.le_refl _)⟩, n, h3, h4⟩
theorem okQ.post {p i j : Nat} {nd : Int} {σ ρ τ : Mem} {f : Env → Int} (h : okQ p i j nd σ ρ f) (ha : adv p j ρ τ) (hj : j < 300) : okQ p i (j + 1) nd σ τ f := by
  have hl := h.lt
  obtain ⟨h1, h2, n, h3, h4⟩ := h
  refine ⟨h1.tr ha.1, ⟨ha.2.1, by rw [ha.2.2.1]; omega, by omega, h2.2.2.2.tr (ha.2.2.2.1 (σ p 2)) (Int.le_refl _)⟩, n, h3, ?_⟩
  rw [ha.2.2.1, ha.2.2.2.2.1, ha.2.2.2.2.2]; exact h4
theorem okQ.alone {p i j : Nat} {nd : Int} {σ τ ρ ω : Mem} {f : Env → Int} {c : Int} (hp : isText p) (ha : adv p i σ τ) (h : okQ p (i + 1) j nd τ ρ f) (hz : σ p 2 ≤ (i : Int)) (e : ω = emS ρ p c 0) (hc : c = 44 ∨ c = 27 ∨ c = 20) (hb : ∀ e : Env, okE e → Mil (aln e.2 c (f e))) : okQ p i j nd σ ω (fun e => aln e.2 c (f e)) := by
  have hl := h.lt
  obtain ⟨h1, h2, n, h3, h4⟩ := h
  rw [ha.2.2.1] at h2 h4 hl
  have hc' := emS_c (σ := ρ) (p := p) (c := c) (o := 0)
  have hk : kpC p (ρ p 2) ρ ω := by rw [e]; exact kpC.em hp
  rw [← e] at hc'
  refine ⟨(ha.1.tr h1).tr (frR.em hp ⟨h1.2.2.2.1, by omega⟩ e), ⟨by rw [e, emS35 hp]; exact h2.1, by rw [hc'.2.2]; omega, h2.2.2.1, ((ha.2.2.2.1 _).tr h2.2.2.2 (Int.le_refl _)).tr hk (by omega)⟩, n, h3, ?_⟩
  rw [hc'.2.2]
  have h5 := h4.congr (cd' := ω (p + 1)) (op' := ω (p + 2)) (fun q _ q2 => hk.1 q q2)
  have := h5.alone (by rw [hc'.1]; exact hc) (by rw [hc'.1]; exact hb)
  rw [hc'.1] at this; exact this
theorem okQ.join {p i j k : Nat} {nd1 nd2 nd : Int} {σ ρ1 ρ2 ρ3 ω : Mem} {f g : Env → Int} {c : Int} (hp : isText p) (h : okQ p i j nd1 σ ρ1 f) (ha : adv p j ρ1 ρ2) (h' : okQ p (j + 1) k nd2 ρ2 ρ3 g) (hz : σ p 2 ≤ (i : Int)) (e : ω = emS ρ3 p c 0) (hc : c = 18 ∨ 25 ≤ c ∧ c ≤ 26 ∨ 28 ≤ c ∧ c ≤ 40) (hb : ∀ e : Env, okE e → Mil (jn c (f e) (g e))) (hn1 : nd1 ≤ nd) (hn2 : nd2 + 1 ≤ nd) : okQ p i k nd σ ω (fun e => jn c (f e) (g e)) := by
  have hl := h.lt
  have hl' := h'.lt
  obtain ⟨h1, h2, n, h3, h4⟩ := h
  obtain ⟨h1', h2', n', h3', h4'⟩ := h'
  rw [ha.2.2.1] at h2' h4' hl'
  have hc' := emS_c (σ := ρ3) (p := p) (c := c) (o := 0)
  have hk : kpC p (ρ3 p 2) ρ3 ω := by rw [e]; exact kpC.em hp
  have hk2 : kpC p (ρ1 p 2) ρ1 ρ3 := (ha.2.2.2.1 _).tr h2'.2.2.2 (Int.le_refl _)
  rw [← e] at hc'
  refine ⟨((h1.tr ha.1).tr h1').tr (frR.em hp ⟨h1'.2.2.2.1, by omega⟩ e), ⟨by rw [e, emS35 hp]; exact h2'.1, by rw [hc'.2.2]; omega, h2'.2.2.1, (h2.2.2.2.tr hk2 (by omega)).tr hk (by omega)⟩, max n (n' + 1), by omega, ?_⟩
  rw [hc'.2.2]
  have h5 := (h4.congr (cd' := ρ3 (p + 1)) (op' := ρ3 (p + 2)) (fun q _ q2 => hk2.1 q q2)).congr (cd' := ω (p + 1)) (op' := ω (p + 2)) (fun q _ q2 => hk.1 q (by omega))
  have h6 := h4'.congr (cd' := ω (p + 1)) (op' := ω (p + 2)) (fun q _ q2 => hk.1 q q2)
  have := h5.join h6 (by rw [hc'.1]; exact hc) (by rw [hc'.1]; exact hb)
  rw [hc'.1] at this; exact this
theorem okQ.full {p i j : Nat} {nd : Int} {σ τ ρ : Mem} {f : Env → Int} (ha : adv p i σ τ) (h : okQ p (i + 1) j nd τ ρ f) (hz : σ p 2 ≤ (i : Int)) : ρ p 2 < 300 := by
  have := h.2.1
  rw [ha.2.2.1] at this
  omega
theorem okQ.full2 {p i j k : Nat} {nd1 nd2 : Int} {σ ρ1 ρ2 ρ3 : Mem} {f g : Env → Int} (h : okQ p i j nd1 σ ρ1 f) (ha : adv p j ρ1 ρ2) (h' : okQ p (j + 1) k nd2 ρ2 ρ3 g) (hz : σ p 2 ≤ (i : Int)) : ρ3 p 2 < 300 ∧ ρ2 p 2 ≤ ((j + 1 : Nat) : Int) := by
  have h1 := h.2.1
  have h2 := h'.2.1
  rw [ha.2.2.1] at h2 ⊢
  omega
theorem okQ.le2 {p i j : Nat} {nd : Int} {σ ρ1 ρ2 : Mem} {f : Env → Int} (h : okQ p i j nd σ ρ1 f) (ha : adv p j ρ1 ρ2) (hz : σ p 2 ≤ (i : Int)) : ρ2 p 2 ≤ ((j + 1 : Nat) : Int) := by
  have h1 := h.2.1
  rw [ha.2.2.1]
  omega
