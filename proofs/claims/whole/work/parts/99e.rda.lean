abbrev TR : Type := (Int × Nat) ⊕ (Txt × Nat)
def addL (T : Txt) (c : Int) (f : Env → Int) : Txt := if c = 0 then (some f, T.2.1, T.2.2 ++ [(0, 0, 0, 0, 0)]) else (T.1, some f, T.2.2 ++ [(1, 0, 0, 0, 0)])
def addD (T : Txt) (c : Cl) : Txt := (T.1, T.2.1, T.2.2 ++ [c])
def tL (K : Nat → Int) (T : Txt) (c : Int) (r : PR) : TR := match r with
  | .inl e => .inl e
  | .inr q => if K q.2 = 38 then .inr (addL T c q.1, q.2 + 1) else .inl (1, q.2)
def tD (K : Nat → Int) (T : Txt) (r : QR) : TR := match r with
  | .inl e => .inl e
  | .inr q => if K q.2 = 38 then .inr (addD T q.1, q.2 + 1) else .inl (1, q.2)
noncomputable def pCl (K M : Nat → Int) (T : Txt) (i : Nat) : TR :=
  if clS (K i) < 0 then .inl (1, i)
  else if (clS (K i) = 0 ∧ T.1.isSome = true) ∨ (clS (K i) = 1 ∧ T.2.1.isSome = true) then .inl (4, i)
  else if 24 ≤ T.2.2.length then .inl (6, i)
  else if clS (K i) ≤ 1 then tL K T (clS (K i)) (pS K M (K i) 8 (i + 1))
  else tD K T (pDeed K M (clS (K i)) (i + 1))
theorem qB_inv {r : NR} {c : Int → Nat → QR} {q : Cl × Nat} (h : qB r c = .inr q) : ∃ x j, r = .inr (x, j) ∧ c x j = .inr q := by
  cases r with
  | inl e => simp [qB] at h
  | inr p => exact ⟨p.1, p.2, rfl, h⟩
theorem pN_inv {K M : Nat → Int} {lo hi x : Int} {i j : Nat} (h : pN K M lo hi i = .inr (x, j)) : j = i + 1 ∧ K i = 41 := by
  unfold pN at h
  by_cases q : K i = 41
  · rw [if_pos q] at h
    by_cases r : lo ≤ M i ∧ M i ≤ hi
    · rw [if_pos r] at h
      exact ⟨(congrArg Prod.snd (Sum.inr.inj h)).symm, q⟩
    · rw [if_neg r] at h; cases h
  · rw [if_neg q] at h; cases h
theorem pW_inv {K M : Nat → Int} {k lo hi x : Int} {i j : Nat} (h : pW K M k lo hi i = .inr (x, j)) : j = i + 2 := by
  unfold pW at h
  by_cases q : K i = k
  · rw [if_pos q] at h; exact (pN_inv h).1
  · rw [if_neg q] at h; cases h
theorem pDeed_r {K M : Nat → Int} {c : Int} {i j : Nat} {cl : Cl} (hc : 2 ≤ c ∧ c ≤ 7) (h : pDeed K M c i = .inr (cl, j)) : cl.1 = c ∧ i < j := by
  have : c = 2 ∨ c = 3 ∨ c = 4 ∨ c = 5 ∨ c = 6 ∨ c = 7 := by omega
  rcases this with rfl | rfl | rfl | rfl | rfl | rfl
  · rw [pD2] at h
    obtain ⟨x1, j1, a1, h⟩ := qB_inv h
    obtain ⟨x2, j2, a2, h⟩ := qB_inv h
    obtain ⟨x3, j3, a3, h⟩ := qB_inv h
    obtain ⟨x4, j4, a4, h⟩ := qB_inv h
    have e := Sum.inr.inj h
    have e1 := congrArg Prod.fst e
    have e2 : j4 = j := congrArg Prod.snd e
    have := (pN_inv a1).1; have := pW_inv a2; have := pW_inv a3; have := pW_inv a4
    exact ⟨(congrArg Prod.fst e1).symm, by omega⟩
  · rw [pD3] at h
    obtain ⟨x1, j1, a1, h⟩ := qB_inv h
    obtain ⟨x2, j2, a2, h⟩ := qB_inv h
    have e := Sum.inr.inj h
    have e1 := congrArg Prod.fst e
    have e2 : j2 = j := congrArg Prod.snd e
    have := (pN_inv a1).1; have := pW_inv a2
    exact ⟨(congrArg Prod.fst e1).symm, by omega⟩
  · rw [pD4] at h
    obtain ⟨x1, j1, a1, h⟩ := qB_inv h
    obtain ⟨x2, j2, a2, h⟩ := qB_inv h
    have e := Sum.inr.inj h
    have e1 := congrArg Prod.fst e
    have e2 : j2 = j := congrArg Prod.snd e
    have := (pN_inv a1).1; have := pW_inv a2
    exact ⟨(congrArg Prod.fst e1).symm, by omega⟩
  · rw [pD5] at h
    obtain ⟨x1, j1, a1, h⟩ := qB_inv h
    have e := Sum.inr.inj h
    have e1 := congrArg Prod.fst e
    have e2 : j1 = j := congrArg Prod.snd e
    have := (pN_inv a1).1
    exact ⟨(congrArg Prod.fst e1).symm, by omega⟩
  · rw [pD6] at h
    obtain ⟨x1, j1, a1, h⟩ := qB_inv h
    have e := Sum.inr.inj h
    have e1 := congrArg Prod.fst e
    have e2 : j1 = j := congrArg Prod.snd e
    have := (pN_inv a1).1
    exact ⟨(congrArg Prod.fst e1).symm, by omega⟩
  · rw [pD7] at h
    obtain ⟨x1, j1, a1, h⟩ := qB_inv h
    have e := Sum.inr.inj h
    have e1 := congrArg Prod.fst e
    have e2 : j1 = j := congrArg Prod.snd e
    have := (pN_inv a1).1
    exact ⟨(congrArg Prod.fst e1).symm, by omega⟩
def txI (σ : Mem) (p : Nat) (T : Txt) : Prop := textC σ p T ∧ (∀ f, T.1 = some f → σ p 4 ≤ σ p 2) ∧ ∀ f, T.2.1 = some f → σ p 6 ≤ σ p 2
def cAns (b : Int → Int) (N : Int) (p : Nat) (σ σ' : Mem) (v : Int) (r : TR) : Prop := match r with
  | .inl e => v = 0 ∧ erT b N p σ σ' e
  | .inr q => v = 1 ∧ (rdC σ' b N p q.2 ∧ σ' p 2 ≤ (q.2 : Int) ∧ q.2 ≤ 300) ∧ txI σ' p q.1 ∧ Fr [35, p, p + 1, p + 2, p + 3, p + 4] σ σ' ∧ σ' 35 4 = σ 35 4 ∧ σ' 35 5 = σ 35 5
theorem cAns.E {b : Int → Int} {N : Int} {p : Nat} {σ σ' : Mem} {v : Int} {r : TR} {e : Int × Nat} (hr : r = .inl e) (h1 : v = 0) (h2 : erT b N p σ σ' e) : cAns b N p σ σ' v r := by subst hr; exact ⟨h1, h2⟩
theorem cAns.O {b : Int → Int} {N : Int} {p j : Nat} {σ σ' : Mem} {v : Int} {r : TR} {T : Txt} (hr : r = .inr (T, j)) (h1 : v = 1) (h2 : rdC σ' b N p j) (h3 : σ' p 2 ≤ (j : Int)) (h4 : j ≤ 300) (h5 : txI σ' p T) (h6 : Fr [35, p, p + 1, p + 2, p + 3, p + 4] σ σ') (h7 : σ' 35 4 = σ 35 4) (h8 : σ' 35 5 = σ 35 5) : cAns b N p σ σ' v r := by subst hr; exact ⟨h1, ⟨h2, h3, h4⟩, h5, h6, h7, h8⟩
theorem lawC.keep {σ σ' : Mem} {p : Nat} {k z : Int} {o : Option (Env → Int)} (h : lawC σ p k o) (h1 : σ' p k = σ p k) (h2 : σ' p (k + 1) = σ p (k + 1)) (hz : ∀ f, o = some f → σ p (k + 1) ≤ z) (hk : kpC p z σ σ') : lawC σ' p k o := by
  cases o with
  | none => show σ' p k = -1; rw [h1]; exact h
  | some f =>
    obtain ⟨q1, q2, q3, n, q4, q5⟩ := h
    refine ⟨by rw [h1]; exact q1, by rw [h2]; exact q2, q3, n, q4, ?_⟩
    rw [h1, h2]
    exact q5.congr (fun x _ hx => hk.1 x (by have := hz f rfl; omega))
def clsC (σ : Mem) (p : Nat) (L : List Cl) : Prop := ∀ (k : Nat) (c : Cl), L[k]? = some c → clOK c ∧ σ (p + 3) (k : Int) = kcC c.1 ∧ (1 ≤ clN c.1 → σ (p + 4) (4 * (k : Int)) = c.2.1) ∧ (2 ≤ clN c.1 → σ (p + 4) (4 * (k : Int) + 1) = c.2.2.1) ∧ (4 ≤ clN c.1 → σ (p + 4) (4 * (k : Int) + 2) = c.2.2.2.1 ∧ σ (p + 4) (4 * (k : Int) + 3) = c.2.2.2.2)
theorem clsC.add {σ σ' : Mem} {p : Nat} {L : List Cl} {c : Cl} (h : clsC σ p L) (h3 : ∀ q : Int, q < (L.length : Int) → σ' (p + 3) q = σ (p + 3) q) (h4 : ∀ q : Int, q < 4 * (L.length : Int) → σ' (p + 4) q = σ (p + 4) q) (hc : clOK c) (hk : σ' (p + 3) (L.length : Int) = kcC c.1) (h5 : 1 ≤ clN c.1 → σ' (p + 4) (4 * (L.length : Int)) = c.2.1) (h6 : 2 ≤ clN c.1 → σ' (p + 4) (4 * (L.length : Int) + 1) = c.2.2.1) (h7 : 4 ≤ clN c.1 → σ' (p + 4) (4 * (L.length : Int) + 2) = c.2.2.2.1 ∧ σ' (p + 4) (4 * (L.length : Int) + 3) = c.2.2.2.2) : clsC σ' p (L ++ [c]) := by
  intro k d hd
  by_cases q : k = L.length
  · subst q
    simp at hd; subst hd
    exact ⟨hc, hk, h5, h6, h7⟩
  · have hl := (List.getElem?_eq_some_iff.mp hd).1
    simp at hl
    rw [List.getElem?_append_left (by omega)] at hd
    have := h k d hd
    rw [h3 _ (by omega), h4 _ (by omega), h4 _ (by omega), h4 _ (by omega), h4 _ (by omega)]
    exact this
theorem gd.okT1 {f : Env → Int} {T : Txt} {L : List Cl} (hf : gd 9 f) (h : okT T) : okT (some f, T.2.1, L) := ⟨fun g e => by cases e; exact hf.2.1, h.2⟩
theorem gd.okT2 {f : Env → Int} {T : Txt} {L : List Cl} (hf : gd 10 f) (h : okT T) : okT (T.1, some f, L) := ⟨h.1, fun g e => by cases e; exact hf.2.2 (by decide)⟩
theorem tokC.fr {σ σ' : Mem} {b : Int → Int} {N : Int} {p : Nat} (hp : isText p) (hf : Fr [35, p, p + 1, p + 2, p + 3, p + 4] σ σ') (ht : tokC σ b N) : tokC σ' b N := by
  have e : ∀ q : Nat, q < 35 → σ' q = σ q := fun q hq => hf q (by unfold isText at hp; simp; omega)
  unfold tokC at *
  rw [e 30 (by omega), e 32 (by omega), e 33 (by omega), e 34 (by omega)]; exact ht
def opQ (b : Int → Int) (N : Int) (p i : Nat) (σ σ28 : Mem) : Prop := Fr [35, p, p + 1, p + 2, p + 3, p + 4] σ σ28 ∧ (∀ q, q ≠ 35 → q ≠ p → q ≠ p + 3 → σ28 q = σ q) ∧ (∀ j : Int, j ≠ 9 → σ28 p j = σ p j) ∧ σ28 p 9 = σ p 9 + 1 ∧ (∀ q : Int, q ≠ σ p 9 → σ28 (p + 3) q = σ (p + 3) q) ∧ σ28 (p + 3) (σ p 9) = kd b N i ∧ rdC σ28 b N p (i + 1) ∧ σ28 35 4 = σ 35 4 ∧ σ28 35 5 = σ 35 5
theorem cl_law {b : Int → Int} {N : Int} {p i : Nat} {c : Int} {σ σ28 : Mem} {T : Txt} (hr : rdC σ b N p i) (hz : σ p 2 ≤ (i : Int)) (hT : txI σ p T) (hlt24 : σ p 9 < 24) (hc0 : 0 ≤ c ∧ c ≤ 7 ∧ kd b N i = kcC c) (ec : clS (kd b N i) = c) (hi : i < 300) (hs : opQ b N p i σ σ28) (eP : pCl (kd b N) (nu b N) T i = if c ≤ 1 then tL (kd b N) T c (pS (kd b N) (nu b N) (kd b N i) 8 (i + 1)) else tD (kd b N) T (pDeed (kd b N) (nu b N) c (i + 1))) : ∀ (u39 : Int) (σ38 : Mem), (c = 0 ∨ c = 1) → lAns b N p (i + 1) (kd b N i) σ28 σ38 u39 (pS (kd b N) (nu b N) (kd b N i) 8 (i + 1)) → ((u39 = 0) → cAns b N p σ σ38 0 (pCl (kd b N) (nu b N) T i)) ∧ ((u39 ≠ 0) → ∃ g42 : Int → Int, ∃ g43 : Int, ∃ g44 : Nat, ∃ g45 : Nat, (rdC σ38 g42 g43 g44 g45) ∧ ∀ (u50 : Int) (σ49 : Mem), R32 u50 → OKm σ49 → ((kd g42 g43 g45 = (38 : Int) ∧ u50 = 1 ∧ σ49 = mset σ38 35 2 ((g45 : Int) + 1)) ∨ (kd g42 g43 g45 ≠ (38 : Int) ∧ u50 = 0 ∧ σ49 = mset (mset σ38 35 4 1) 35 5 (ps g42 g43 g45))) → ((u50 = 0) → cAns b N p σ σ49 0 (pCl (kd b N) (nu b N) T i)) ∧ ((u50 ≠ 0) → cAns b N p σ σ49 1 (pCl (kd b N) (nu b N) T i))) := by
  have hB := hr.1.1
  have hp := hr.1.2.2
  have o := off35 hp
  have o4 := off4 hp
  have hM := nu_nn hB
  have hlt : ∀ k, kd b N k ≠ 43 → k < 300 := fun k h => by have := (kd_lt hB h).1; omega
  have h9 := hT.1.2.2.2.1
  have h24 := hT.1.2.2.2.2.1
  obtain ⟨F28, k28, p28, n28, r3, r3h, hr28, f4, f5⟩ := hs
  intro u ρ hc h
  rw [if_pos (by omega)] at eP
  cases hq : pS (kd b N) (nu b N) (kd b N i) 8 (i + 1) with
  | inl e =>
    rw [hq] at h eP
    exact ⟨fun _ => cAns.E eP rfl (h.2.pre F28), fun q => absurd h.1 q⟩
  | inr qq =>
    obtain ⟨f, j⟩ := qq
    have gf := (pS_g (lw := kd b N i) hM 8 _ _ _ hq).1
    rw [hq] at h eP
    obtain ⟨hv, ⟨Fl, l1, l2, l3⟩, lz, lk, l9, l10, ln, nn, hnn, hFg⟩ := h
    have w : ∀ q ∈ [35, p, p + 1, p + 2], q ∈ [35, p, p + 1, p + 2, p + 3, p + 4] := by intro q hq; simp at hq ⊢; omega
    have Fρ : Fr [35, p, p + 1, p + 2, p + 3, p + 4] σ ρ := F28.tr (Fl.wk w)
    have hrρ : rdC ρ b N p j := ⟨⟨hB, tokC.fr hp Fρ hr.1.2.1, hp⟩, by rw [l1]; exact hr28.2.1, l2, by simp only at l3; omega, by omega, lz.2.2.2⟩
    rw [p28 2 (by omega)] at lz lk hFg l9 l10
    simp only at l3 lz
    refine ⟨fun q => absurd q (by omega), fun _ => ⟨b, N, p, j, hrρ, fun u2 τ _ _ h2 => ?_⟩⟩
    rcases h2 with ⟨k38, hu, e⟩ | ⟨k38, hu, e⟩
    · refine ⟨fun q => absurd q (by omega), fun _ => ?_⟩
      have a2 : adv p j ρ τ := adv.mk hp hrρ.2.2.2.2 e
      have hj := hlt j (by omega)
      have qτ : ∀ q, q ≠ 35 → τ q = ρ q := fun q hq => by rw [e]; exact mset_ne hq
      have eP2 : pCl (kd b N) (nu b N) T i = .inr (addL T c f, j + 1) := by rw [eP]; show (if kd b N j = 38 then _ else _) = _; rw [if_pos k38]
      have kp0 : ∀ q : Int, q < σ p 2 → τ (p + 1) q = σ (p + 1) q ∧ τ (p + 2) q = σ (p + 2) q := fun q hq => by
        rw [qτ (p + 1) (by omega), qτ (p + 2) (by omega), (lk.1 q hq).1, (lk.1 q hq).2, k28 (p + 1) (by omega) (by omega) (by omega), k28 (p + 2) (by omega) (by omega) (by omega)]; exact ⟨rfl, rfl⟩
      have f4τ : τ 35 4 = σ 35 4 := by rw [e, mset_miss (by omega), lk.2.1]; exact f4
      have f5τ : τ 35 5 = σ 35 5 := by rw [e, mset_miss (by omega), lk.2.2]; exact f5
      have kp : kpC p (σ p 2) σ τ := ⟨kp0, f4τ, f5τ⟩
      have hcl : ∀ x : Int, (x = 0 ∨ x = 1) → kcC x = kd b N i → clsC τ p (T.2.2 ++ [(x, 0, 0, 0, 0)]) := fun x hx hk => by
        have r3τ : ∀ q : Int, τ (p + 3) q = σ28 (p + 3) q := fun q => by rw [qτ (p + 3) (by omega), Fl (p + 3) (by simp; omega)]
        have r4τ : ∀ q : Int, τ (p + 4) q = σ (p + 4) q := fun q => by rw [qτ (p + 4) (by omega), Fl (p + 4) (by simp; omega), k28 (p + 4) (by omega) (by omega) (by omega)]
        have hn0 : clN x = 0 := by rcases hx with rfl | rfl <;> decide
        refine clsC.add hT.1.2.2.2.2.2 (fun q hq => by rw [r3τ, r3 q (by omega)]) (fun q _ => r4τ q) (.inl hx) (by rw [r3τ, ← h9, r3h]; exact hk.symm) (fun h => ?_) (fun h => ?_) (fun h => ?_)
        · have h : 1 ≤ clN x := h; omega
        · have h : 2 ≤ clN x := h; omega
        · have h : 4 ≤ clN x := h; omega
      have hn : τ p 9 = ((T.2.2.length + 1 : Nat) : Int) := by rw [qτ p (by omega), ln, n28, h9]; omega
      have hFτ : Fg (τ (p + 1)) (τ (p + 2)) (σ p 2) (ρ p 2) nn f := by rw [qτ (p + 1) (by omega), qτ (p + 2) (by omega)]; exact hFg
      have hz2 : τ p 2 = ρ p 2 := by rw [qτ p (by omega)]
      refine cAns.O eP2 rfl (a2.rd hrρ (by omega)) (by rw [hz2]; omega) (by omega) ?_ (by rw [e]; exact Fρ.set (by simp)) f4τ f5τ
      rcases hc with rfl | rfl
      · have hk9 : kd b N i = 9 := hc0.2.2
        rw [hk9] at gf
        have l9' := l9 hk9
        show txI τ p (some f, T.2.1, T.2.2 ++ [(0, 0, 0, 0, 0)])
        refine ⟨⟨⟨by rw [qτ p (by omega), l9'.1]; exact lz.1, by show τ p 4 ≤ 300; rw [qτ p (by omega), l9'.2.1]; exact lz.2.2.2, gf.1, nn, hnn, ?_⟩, hT.1.2.1.keep (by rw [qτ p (by omega), l9'.2.2.1, p28 5 (by omega)]) (by show τ p 6 = σ p 6; rw [qτ p (by omega), l9'.2.2.2, p28 6 (by omega)]) (fun g hg => hT.2.2 g hg) kp, gf.okT1 hT.1.2.2.1, by simp; rw [hn]; simp, by simp; omega, hcl 0 (.inl rfl) (by rw [hk9]; rfl)⟩, fun g _ => ?_, fun g hg => ?_⟩
        · show Fg _ _ (τ p 3) (τ p 4) _ _
          rw [qτ p (by omega), l9'.1, l9'.2.1]; exact hFτ
        · show τ p 4 ≤ τ p 2
          rw [qτ p (by omega), l9'.2.1]; omega
        · show τ p 6 ≤ τ p 2
          rw [qτ p (by omega), l9'.2.2.2, p28 6 (by omega)]
          have := hT.2.2 g hg; omega
      · have hk9 : kd b N i = 10 := hc0.2.2
        rw [hk9] at gf
        have l9' := l10 (by omega)
        show txI τ p (T.1, some f, T.2.2 ++ [(1, 0, 0, 0, 0)])
        refine ⟨⟨hT.1.1.keep (by rw [qτ p (by omega), l9'.2.2.1, p28 3 (by omega)]) (by show τ p 4 = σ p 4; rw [qτ p (by omega), l9'.2.2.2, p28 4 (by omega)]) (fun g hg => hT.2.1 g hg) kp, ⟨by rw [qτ p (by omega), l9'.1]; exact lz.1, by show τ p 6 ≤ 300; rw [qτ p (by omega), l9'.2.1]; exact lz.2.2.2, gf.1, nn, hnn, ?_⟩, gf.okT2 hT.1.2.2.1, by simp; rw [hn]; simp, by simp; omega, hcl 1 (.inr rfl) (by rw [hk9]; rfl)⟩, fun g hg => ?_, fun g _ => ?_⟩
        · show Fg _ _ (τ p 5) (τ p 6) _ _
          rw [qτ p (by omega), l9'.1, l9'.2.1]; exact hFτ
        · show τ p 4 ≤ τ p 2
          rw [qτ p (by omega), l9'.2.2.2, p28 4 (by omega)]
          have := hT.2.1 g hg; omega
        · show τ p 6 ≤ τ p 2
          rw [qτ p (by omega), l9'.2.1]; omega
    · have eP2 : pCl (kd b N) (nu b N) T i = .inl (1, j) := by rw [eP]; show (if kd b N j = 38 then _ else _) = _; rw [if_neg k38]
      exact ⟨fun _ => cAns.E eP2 rfl ((erR.fail hrρ e).T.pre Fρ), fun q => absurd hu q⟩
theorem cl_deed {b : Int → Int} {N : Int} {p i : Nat} {c : Int} {σ σ28 : Mem} {T : Txt} (hr : rdC σ b N p i) (hz : σ p 2 ≤ (i : Int)) (hT : txI σ p T) (hlt24 : σ p 9 < 24) (hc0 : 0 ≤ c ∧ c ≤ 7 ∧ kd b N i = kcC c) (ec : clS (kd b N i) = c) (hi : i < 300) (hs : opQ b N p i σ σ28) (hc2 : 2 ≤ c) (eP : pCl (kd b N) (nu b N) T i = tD (kd b N) T (pDeed (kd b N) (nu b N) c (i + 1))) (u : Int) (ρ : Mem) : dAns b N p T.2.2.length σ28 ρ u (pDeed (kd b N) (nu b N) c (i + 1)) → ((u = 0) → cAns b N p σ ρ 0 (pCl (kd b N) (nu b N) T i)) ∧ ((u ≠ 0) → ∃ g67 : Int → Int, ∃ g68 : Int, ∃ g69 : Nat, ∃ g70 : Nat, (rdC ρ g67 g68 g69 g70) ∧ ∀ (u75 : Int) (σ74 : Mem), R32 u75 → OKm σ74 → ((kd g67 g68 g70 = (38 : Int) ∧ u75 = 1 ∧ σ74 = mset ρ 35 2 ((g70 : Int) + 1)) ∨ (kd g67 g68 g70 ≠ (38 : Int) ∧ u75 = 0 ∧ σ74 = mset (mset ρ 35 4 1) 35 5 (ps g67 g68 g70))) → ((u75 = 0) → cAns b N p σ σ74 0 (pCl (kd b N) (nu b N) T i)) ∧ ((u75 ≠ 0) → cAns b N p σ σ74 1 (pCl (kd b N) (nu b N) T i))) := by
  have hB := hr.1.1
  have hp := hr.1.2.2
  have o := off35 hp
  have o4 := off4 hp
  have hM := nu_nn hB
  have hlt : ∀ k, kd b N k ≠ 43 → k < 300 := fun k h => by have := (kd_lt hB h).1; omega
  have h9 := hT.1.2.2.2.1
  have h24 := hT.1.2.2.2.2.1
  obtain ⟨F28, k28, p28, n28, r3, r3h, hr28, f4, f5⟩ := hs
  intro h
  cases hq : pDeed (kd b N) (nu b N) c (i + 1) with
  | inl e =>
    rw [hq] at h eP
    exact ⟨fun _ => cAns.E eP rfl (h.2.pre F28), fun q => absurd h.1 q⟩
  | inr qq =>
    obtain ⟨cl, j⟩ := qq
    have hdr := pDeed_r (by omega) hq
    have hc1 : cl.1 = c := hdr.1
    rw [hq] at h eP
    obtain ⟨hv, hj3, hcl, L, hL, b1, b2, b4⟩ := h
    have hrρ := hL.rd hr28
    have Fρ := F28.tr hL.F
    refine ⟨fun q => absurd q (by omega), fun _ => ⟨b, N, p, j, hrρ, fun u2 τ _ _ h2 => ?_⟩⟩
    rcases h2 with ⟨k38, hu, e⟩ | ⟨k38, hu, e⟩
    · refine ⟨fun q => absurd q (by omega), fun _ => ?_⟩
      have a2 : adv p j ρ τ := adv.mk hp hrρ.2.2.2.2 e
      have hj := hlt j (by omega)
      have qτ : ∀ q, q ≠ 35 → τ q = ρ q := fun q hq => by rw [e]; exact mset_ne hq
      have qρ : ∀ q, q ≠ 35 → q ≠ p + 4 → ρ q = σ28 q := fun q q1 q2 => hL.1 q (by simp; omega)
      have eP2 : pCl (kd b N) (nu b N) T i = .inr (addD T cl, j + 1) := by rw [eP]; show (if kd b N j = 38 then _ else _) = _; rw [if_pos k38]
      have pτ : ∀ x : Int, x ≠ 9 → τ p x = σ p x := fun x hx => by rw [qτ p (by omega), qρ p (by omega) (by omega), p28 x hx]
      have f4τ : τ 35 4 = σ 35 4 := by rw [e, mset_miss (by omega), hL.2.1 4 (by omega)]; exact f4
      have f5τ : τ 35 5 = σ 35 5 := by rw [e, mset_miss (by omega), hL.2.1 5 (by omega)]; exact f5
      have kp0 : ∀ q : Int, q < σ p 2 → τ (p + 1) q = σ (p + 1) q ∧ τ (p + 2) q = σ (p + 2) q := fun q hq => by
        rw [qτ (p + 1) (by omega), qτ (p + 2) (by omega), qρ (p + 1) (by omega) (by omega), qρ (p + 2) (by omega) (by omega), k28 (p + 1) (by omega) (by omega) (by omega), k28 (p + 2) (by omega) (by omega) (by omega)]; exact ⟨rfl, rfl⟩
      have kp : kpC p (σ p 2) σ τ := ⟨kp0, f4τ, f5τ⟩
      have r3τ : ∀ q : Int, τ (p + 3) q = σ28 (p + 3) q := fun q => by rw [qτ (p + 3) (by omega), qρ (p + 3) (by omega) (by omega)]
      have r4τ : τ (p + 4) = ρ (p + 4) := qτ (p + 4) (by omega)
      have hij : i + 1 ≤ j := by omega
      refine cAns.O eP2 rfl (a2.rd hrρ (by omega)) (by rw [pτ 2 (by omega)]; omega) (by omega) ?_ (by rw [e]; exact Fρ.set (by simp)) f4τ f5τ
      refine ⟨⟨hT.1.1.keep (pτ 3 (by omega)) (pτ 4 (by omega)) (fun g hg => hT.2.1 g hg) kp, hT.1.2.1.keep (pτ 5 (by omega)) (pτ 6 (by omega)) (fun g hg => hT.2.2 g hg) kp, hT.1.2.2.1, ?_, by show (T.2.2 ++ [cl]).length ≤ 24; simp; omega, ?_⟩, fun g hg => by rw [pτ 4 (by omega), pτ 2 (by omega)]; exact hT.2.1 g hg, fun g hg => by rw [pτ 6 (by omega), pτ 2 (by omega)]; exact hT.2.2 g hg⟩
      · show τ p 9 = ((T.2.2 ++ [cl]).length : Int)
        rw [qτ p (by omega), qρ p (by omega) (by omega), n28, h9]; simp
      · refine clsC.add hT.1.2.2.2.2.2 (fun q hq => by rw [r3τ, r3 q (by omega)]) (fun q hq => by rw [r4τ, hL.2.2.2.2.1 q hq, k28 (p + 4) (by omega) (by omega) (by omega)]) hcl (by rw [r3τ, ← h9, r3h, hc1]; exact hc0.2.2) (fun h => ?_) (fun h => ?_) (fun h => ?_)
        · have := hL.2.2.2.2.2 0 _ (b1 h); rw [r4τ]; simpa using this
        · have := hL.2.2.2.2.2 1 _ (b2 h); rw [r4τ]; simpa using this
        · have h1 := hL.2.2.2.2.2 2 _ (b4 h).1
          have h2 := hL.2.2.2.2.2 3 _ (b4 h).2
          rw [r4τ]; exact ⟨by simpa using h1, by simpa using h2⟩
    · have eP2 : pCl (kd b N) (nu b N) T i = .inl (1, j) := by rw [eP]; show (if kd b N j = 38 then _ else _) = _; rw [if_neg k38]
      exact ⟨fun _ => cAns.E eP2 rfl ((erR.fail hrρ e).T.pre Fρ), fun q => absurd hu q⟩

def wp_X5_takesClause  (σ : Mem) (Q : Int → Mem → Prop) : Prop :=
  (σ 30 5 ≤ 301) ∧
   ∀ y4 : Int, y4 = (if 0 ≤ σ 35 2 ∧ σ 35 2 < σ 30 5 then σ 32 (σ 35 2) else 43) →
   ((y4 = 0 ∨ y4 = 9 ∨ y4 = 10 ∨ y4 = 11 ∨ y4 = 13 ∨ y4 = 14 ∨ y4 = 16 ∨ y4 = 17) →
    ∃ t8 : Nat, isText t8 ∧ σ 35 1 = (t8 : Int) ∧
    ((¬ ((y4 = 9 ∧ σ t8 3 ≠ -1) ∨ (y4 = 10 ∧ σ t8 5 ≠ -1))) →
     ∃ t14 : Nat, isText t14 ∧ σ 35 1 = (t14 : Int) ∧
     (((σ t14 9) < 24) →
      R32 ((σ 35 2) + 1) ∧
      ∀ σ18 : Mem, σ18 = mset σ 35 2 ((σ 35 2) + 1) →
      ∃ t22 : Nat, isText t22 ∧ σ18 35 1 = (t22 : Int) ∧
      (0 ≤ σ18 t22 9 ∧ σ18 t22 9 < 24) ∧
      ∀ σ28 : Mem, σ28 = (mset (mset σ18 (t22 + 3) (σ18 t22 9) y4) t22 9 (σ18 t22 9 + 1)) →
      ((y4 = 9) →
       ∃ g31 : Int → Int, ∃ g32 : Int, ∃ g33 : Nat, ∃ g34 : Nat, (rdC σ28 g31 g32 g33 g34 ∧ σ28 g33 2 ≤ (g34 : Int)) ∧
       ∀ (u39 : Int) (σ38 : Mem), R32 u39 → OKm σ38 → (lAns g31 g32 g33 g34 y4 σ28 σ38 u39 (pS (kd g31 g32) (nu g31 g32) y4 8 g34)) →
       ((u39 = 0) →
        Q 0 σ38) ∧
       ((u39 ≠ 0) →
        ∃ g42 : Int → Int, ∃ g43 : Int, ∃ g44 : Nat, ∃ g45 : Nat, (rdC σ38 g42 g43 g44 g45) ∧
        ∀ (u50 : Int) (σ49 : Mem), R32 u50 → OKm σ49 → ((kd g42 g43 g45 = (38 : Int) ∧ u50 = 1 ∧ σ49 = mset σ38 35 2 ((g45 : Int) + 1)) ∨ (kd g42 g43 g45 ≠ (38 : Int) ∧ u50 = 0 ∧ σ49 = mset (mset σ38 35 4 1) 35 5 (ps g42 g43 g45))) →
        ((u50 = 0) →
         Q 0 σ49) ∧
        ((u50 ≠ 0) →
         Q 1 σ49))) ∧
      ((y4 ≠ 9) →
       ((y4 ≠ 10) →
        ∃ g54 : Int → Int, ∃ g55 : Int, ∃ g56 : Nat, ∃ g57 : Nat, ∃ g58 : Nat, ∃ g59 : Int, (rdC σ28 g54 g55 g56 g57 ∧ σ28 g56 9 = (g58 : Int) + 1 ∧ g58 < 24 ∧ (2 ≤ g59 ∧ g59 ≤ 7) ∧ y4 = kcC g59) ∧
        ∀ (u64 : Int) (σ63 : Mem), R32 u64 → OKm σ63 → (dAns g54 g55 g56 g58 σ28 σ63 u64 (pDeed (kd g54 g55) (nu g54 g55) g59 g57)) →
        ((u64 = 0) →
         Q 0 σ63) ∧
        ((u64 ≠ 0) →
         ∃ g67 : Int → Int, ∃ g68 : Int, ∃ g69 : Nat, ∃ g70 : Nat, (rdC σ63 g67 g68 g69 g70) ∧
         ∀ (u75 : Int) (σ74 : Mem), R32 u75 → OKm σ74 → ((kd g67 g68 g70 = (38 : Int) ∧ u75 = 1 ∧ σ74 = mset σ63 35 2 ((g70 : Int) + 1)) ∨ (kd g67 g68 g70 ≠ (38 : Int) ∧ u75 = 0 ∧ σ74 = mset (mset σ63 35 4 1) 35 5 (ps g67 g68 g70))) →
         ((u75 = 0) →
          Q 0 σ74) ∧
         ((u75 ≠ 0) →
          Q 1 σ74))) ∧
       ((y4 = 10) →
        ∃ g78 : Int → Int, ∃ g79 : Int, ∃ g80 : Nat, ∃ g81 : Nat, (rdC σ28 g78 g79 g80 g81 ∧ σ28 g80 2 ≤ (g81 : Int)) ∧
        ∀ (u86 : Int) (σ85 : Mem), R32 u86 → OKm σ85 → (lAns g78 g79 g80 g81 y4 σ28 σ85 u86 (pS (kd g78 g79) (nu g78 g79) y4 8 g81)) →
        ((u86 = 0) →
         Q 0 σ85) ∧
        ((u86 ≠ 0) →
         ∃ g89 : Int → Int, ∃ g90 : Int, ∃ g91 : Nat, ∃ g92 : Nat, (rdC σ85 g89 g90 g91 g92) ∧
         ∀ (u97 : Int) (σ96 : Mem), R32 u97 → OKm σ96 → ((kd g89 g90 g92 = (38 : Int) ∧ u97 = 1 ∧ σ96 = mset σ85 35 2 ((g92 : Int) + 1)) ∨ (kd g89 g90 g92 ≠ (38 : Int) ∧ u97 = 0 ∧ σ96 = mset (mset σ85 35 4 1) 35 5 (ps g89 g90 g92))) →
         ((u97 = 0) →
          Q 0 σ96) ∧
         ((u97 ≠ 0) →
          Q 1 σ96))))) ∧
     ((24 ≤ (σ t14 9)) →
      ∃ g100 : Int → Int, ∃ g101 : Int, ∃ g102 : Nat, ∃ g103 : Nat, (rdC σ g100 g101 g102 g103) ∧
      ∀ (u108 : Int) (σ107 : Mem), R32 u108 → OKm σ107 → (u108 = 0 ∧ σ107 = mset (mset σ 35 4 (6 : Int)) 35 5 (ps g100 g101 g103)) →
      (u108 = 0 ∨ u108 = 1) ∧
      Q u108 σ107)) ∧
    (((y4 = 9 ∧ σ t8 3 ≠ -1) ∨ (y4 = 10 ∧ σ t8 5 ≠ -1)) →
     ∃ g111 : Int → Int, ∃ g112 : Int, ∃ g113 : Nat, ∃ g114 : Nat, (rdC σ g111 g112 g113 g114) ∧
     ∀ (u119 : Int) (σ118 : Mem), R32 u119 → OKm σ118 → (u119 = 0 ∧ σ118 = mset (mset σ 35 4 (4 : Int)) 35 5 (ps g111 g112 g114)) →
     (u119 = 0 ∨ u119 = 1) ∧
     Q u119 σ118)) ∧
   ((¬ (y4 = 0 ∨ y4 = 9 ∨ y4 = 10 ∨ y4 = 11 ∨ y4 = 13 ∨ y4 = 14 ∨ y4 = 16 ∨ y4 = 17)) →
    ∃ g122 : Int → Int, ∃ g123 : Int, ∃ g124 : Nat, ∃ g125 : Nat, (rdC σ g122 g123 g124 g125) ∧
    ∀ (u130 : Int) (σ129 : Mem), R32 u130 → OKm σ129 → (u130 = 0 ∧ σ129 = mset (mset σ 35 4 (1 : Int)) 35 5 (ps g122 g123 g125)) →
    (u130 = 0 ∨ u130 = 1) ∧
    Q u130 σ129)
theorem mt_X5_takesClause {d : Nat} (hd : 78 ≤ d)  {σ : Mem} {Q : Int → Mem → Prop}  (hO : OKm σ) (h : wp_X5_takesClause  σ Q) : Mt yX5_takesClause cX5_takesClause 3 (some .boolean) d [aR (35)] σ (QI Q) := by
  refine Mt.intro (by decide +kernel) (Nat.le_of_ble_eq_true rfl) [(0, aR (35))] rfl ?_
  unfold wp_X5_takesClause at h
  refine G_aload_n 0 rfl rfl dX5_takesClause_0 ?_
  obtain ⟨c1, h⟩ := h
  refine G_callV (as := []) cf_X5_42 rfl rfl rfl (sp_X5_kind (d - 1) (by omega) _ hO  c1) (by omega) rfl rfl (Nat.le_of_ble_eq_true rfl) dX5_takesClause_1 ?_
  rintro _ _ ⟨_, rfl, rfl, rfl⟩ o3 r2
  have h := h _ rfl
  refine G_istore_n (lv' := [(1, aI (((if 0 ≤ σ 35 2 ∧ σ 35 2 < σ 30 5 then σ 32 (σ 35 2) else 43)))), (0, aR (35))]) rfl rfl (by decide) dX5_takesClause_4 ?_
  refine G_iload_n 0 rfl rfl dX5_takesClause_5 ?_
  refine G_callS (as := [_]) cf_X5_74 rfl (sp_X5_startsClause (d - 1) (by omega) _ hO _ (r2 _ rfl)) (by omega) rfl rfl (Nat.le_of_ble_eq_true rfl) dX5_takesClause_6 ?_
  rintro _ _ ⟨_, rfl, rfl, rfl⟩ o6 r5
  refine G_if_ne (bI_R _) dX5_takesClause_9 (tgt := 18) (by decide) (fun c7 => ?_) (fun c7 => ?_)
  · have h := h.1 (bI_ne c7)
    refine G_aload_n 1 rfl rfl dX5_takesClause_18 ?_
    obtain ⟨t8, c9, c10, h⟩ := h
    refine G_get (k := 1) (kd := (4, 0)) (v := aR t8) gf_X5_9 rfl rfl rfl (fa_text c9 c10) dX5_takesClause_19 ?_
    refine G_iload_n 0 rfl rfl dX5_takesClause_22 ?_
    refine G_callV (as := [_]) cf_X5_77 rfl (shT c9) rfl (sp_X9_hasLaw (d - 1) (by omega) _ hO _ c9 _ (r2 _ rfl)) (by omega) rfl rfl (Nat.le_of_ble_eq_true rfl) dX5_takesClause_23 ?_
    rintro _ _ ⟨_, rfl, rfl, rfl⟩ o12 r11
    refine G_if_eq (bI_R _) dX5_takesClause_26 (tgt := 35) (by decide) (fun c13 => ?_) (fun c13 => ?_)
    · have h := h.1 ((bI_0 _).mp c13)
      refine G_aload_n 1 rfl rfl dX5_takesClause_35 ?_
      obtain ⟨t14, c15, c16, h⟩ := h
      refine G_get (k := 1) (kd := (4, 0)) (v := aR t14) gf_X5_9 rfl rfl rfl (fa_text c15 c16) dX5_takesClause_36 ?_
      refine G_get (k := 9) (kd := (0, 0)) (v := aI (σ t14 9)) gf_X5_80 rfl (shT c15) rfl rfl dX5_takesClause_39 ?_
      refine G_bipush (by decide) dX5_takesClause_42 ?_
      refine G_icmp_lt (OKm.i hO t14 9 (lgT c15 9)) (rL 24 rfl) dX5_takesClause_44 (tgt := 54) (by decide) (fun c17 => ?_) (fun c17 => ?_)
      · have h := h.1 c17
        refine G_aload_n 1 rfl rfl dX5_takesClause_54 ?_
        refine G_dup rfl dX5_takesClause_55 ?_
        refine G_get (k := 2) (kd := (0, 0)) (v := aI (σ 35 2)) gf_X5_15 rfl rfl rfl rfl dX5_takesClause_56 ?_
        refine G_iconst dX5_takesClause_59 ?_
        refine G_iadd dX5_takesClause_60 ?_
        obtain ⟨c19, h⟩ := h
        obtain ⟨σ18, e21⟩ : ∃ τ : Mem, τ = mset σ 35 2 ((σ 35 2) + 1) := ⟨_, rfl⟩
        have h := h σ18 e21
        have o20 : OKm σ18 := by rw [e21]; exact OKm.seti hO _ _ _ c19 rfl
        refine G_put (k := 2) (ki := 2) (kd := (0, 0)) (x := _) pf_X5_15 rfl rfl rfl rfl (fa_i (mset_self _ _ _ _)) (fun _ => rfl) (fun _ => rfl) dX5_takesClause_61 ?_
        rw [← e21]
        refine G_aload_n 1 rfl rfl dX5_takesClause_64 ?_
        obtain ⟨t22, c23, c24, h⟩ := h
        refine G_get (k := 1) (kd := (4, 0)) (v := aR t22) gf_X5_9 rfl rfl rfl (fa_text c23 c24) dX5_takesClause_65 ?_
        refine G_iload_n 0 rfl rfl dX5_takesClause_68 ?_
        obtain ⟨c25, h⟩ := h
        refine G_callV (as := [_]) cf_X5_83 rfl (shT c23) rfl (sp_X9_open (d - 1) (by omega) _ o20 _ c23 _ (r2 _ rfl) c25) (by omega) rfl rfl (Nat.le_of_ble_eq_true rfl) dX5_takesClause_69 ?_
        rintro _ σ28 ⟨rfl, e29⟩ o27 r26
        have h := h σ28 e29
        refine G_iload_n 0 rfl rfl dX5_takesClause_72 ?_
        refine G_bipush (by decide) dX5_takesClause_73 ?_
        refine G_icmp_eq (r2 _ rfl) (rL 9 rfl) dX5_takesClause_75 (tgt := 84) (by decide) (fun c30 => ?_) (fun c30 => ?_)
        · have h := h.1 c30
          refine G_aload_n 1 rfl rfl dX5_takesClause_84 ?_
          refine G_iload_n 0 rfl rfl dX5_takesClause_85 ?_
          obtain ⟨g31, g32, g33, g34, c35, h⟩ := h
          refine G_callV (as := [_]) cf_X5_87 rfl rfl rfl (sp_X5_takesLaw (d - 1) (by omega) _ o27 _ (r2 _ rfl) g31 g32 g33 g34 c35) (by omega) rfl rfl (Nat.le_of_ble_eq_true rfl) dX5_takesClause_86 ?_
          rintro _ σ38 ⟨u39, rfl, z40⟩ o37 r36
          have h := h _ _ (r36 _ rfl) o37 z40
          refine G_goto (tgt := 97) dX5_takesClause_89 (by decide) ?_
          refine G_istore_n (lv' := [(2, aI (u39)), (1, aI (((if 0 ≤ σ 35 2 ∧ σ 35 2 < σ 30 5 then σ 32 (σ 35 2) else 43)))), (0, aR (35))]) rfl rfl (by decide) dX5_takesClause_97 ?_
          refine G_iload_n 0 rfl rfl dX5_takesClause_98 ?_
          refine G_if_eq (r36 _ rfl) dX5_takesClause_99 (tgt := 115) (by decide) (fun c41 => ?_) (fun c41 => ?_)
          · have h := h.1 c41
            refine G_iconst dX5_takesClause_115 ?_
            exact G_zret rfl (by decide) dX5_takesClause_116 ⟨_, rfl, h⟩ o37
          · have h := h.2 c41
            refine G_aload_n 2 rfl rfl dX5_takesClause_102 ?_
            refine G_bipush (by decide) dX5_takesClause_103 ?_
            obtain ⟨g42, g43, g44, g45, c46, h⟩ := h
            refine G_callV (as := [_]) cf_X5_93 rfl rfl rfl (sp_X5_takesKind (d - 1) (by omega) _ o37 _ (rL 38 rfl) g42 g43 g44 g45 c46) (by omega) rfl rfl (Nat.le_of_ble_eq_true rfl) dX5_takesClause_105 ?_
            rintro _ σ49 ⟨u50, rfl, z51⟩ o48 r47
            have h := h _ _ (r47 _ rfl) o48 z51
            refine G_if_eq (r47 _ rfl) dX5_takesClause_108 (tgt := 115) (by decide) (fun c52 => ?_) (fun c52 => ?_)
            · have h := h.1 c52
              refine G_iconst dX5_takesClause_115 ?_
              exact G_zret rfl (by decide) dX5_takesClause_116 ⟨_, rfl, h⟩ o48
            · have h := h.2 c52
              refine G_iconst dX5_takesClause_111 ?_
              refine G_goto (tgt := 116) dX5_takesClause_112 (by decide) ?_
              exact G_zret rfl (by decide) dX5_takesClause_116 ⟨_, rfl, h⟩ o48
        · have h := h.2 c30
          refine G_iload_n 0 rfl rfl dX5_takesClause_78 ?_
          refine G_bipush (by decide) dX5_takesClause_79 ?_
          refine G_icmp_ne (r2 _ rfl) (rL 10 rfl) dX5_takesClause_81 (tgt := 92) (by decide) (fun c53 => ?_) (fun c53 => ?_)
          · have h := h.1 c53
            refine G_aload_n 1 rfl rfl dX5_takesClause_92 ?_
            refine G_iload_n 0 rfl rfl dX5_takesClause_93 ?_
            obtain ⟨g54, g55, g56, g57, g58, g59, c60, h⟩ := h
            refine G_callV (as := [_]) cf_X5_90 rfl rfl rfl (sp_X5_takesDeed (d - 1) (by omega) _ o27 _ (r2 _ rfl) g54 g55 g56 g57 g58 g59 c60) (by omega) rfl rfl (Nat.le_of_ble_eq_true rfl) dX5_takesClause_94 ?_
            rintro _ σ63 ⟨u64, rfl, z65⟩ o62 r61
            have h := h _ _ (r61 _ rfl) o62 z65
            refine G_istore_n (lv' := [(2, aI (u64)), (1, aI (((if 0 ≤ σ 35 2 ∧ σ 35 2 < σ 30 5 then σ 32 (σ 35 2) else 43)))), (0, aR (35))]) rfl rfl (by decide) dX5_takesClause_97 ?_
            refine G_iload_n 0 rfl rfl dX5_takesClause_98 ?_
            refine G_if_eq (r61 _ rfl) dX5_takesClause_99 (tgt := 115) (by decide) (fun c66 => ?_) (fun c66 => ?_)
            · have h := h.1 c66
              refine G_iconst dX5_takesClause_115 ?_
              exact G_zret rfl (by decide) dX5_takesClause_116 ⟨_, rfl, h⟩ o62
            · have h := h.2 c66
              refine G_aload_n 2 rfl rfl dX5_takesClause_102 ?_
              refine G_bipush (by decide) dX5_takesClause_103 ?_
              obtain ⟨g67, g68, g69, g70, c71, h⟩ := h
              refine G_callV (as := [_]) cf_X5_93 rfl rfl rfl (sp_X5_takesKind (d - 1) (by omega) _ o62 _ (rL 38 rfl) g67 g68 g69 g70 c71) (by omega) rfl rfl (Nat.le_of_ble_eq_true rfl) dX5_takesClause_105 ?_
              rintro _ σ74 ⟨u75, rfl, z76⟩ o73 r72
              have h := h _ _ (r72 _ rfl) o73 z76
              refine G_if_eq (r72 _ rfl) dX5_takesClause_108 (tgt := 115) (by decide) (fun c77 => ?_) (fun c77 => ?_)
              · have h := h.1 c77
                refine G_iconst dX5_takesClause_115 ?_
                exact G_zret rfl (by decide) dX5_takesClause_116 ⟨_, rfl, h⟩ o73
              · have h := h.2 c77
                refine G_iconst dX5_takesClause_111 ?_
                refine G_goto (tgt := 116) dX5_takesClause_112 (by decide) ?_
                exact G_zret rfl (by decide) dX5_takesClause_116 ⟨_, rfl, h⟩ o73
          · have h := h.2 c53
            refine G_aload_n 1 rfl rfl dX5_takesClause_84 ?_
            refine G_iload_n 0 rfl rfl dX5_takesClause_85 ?_
            obtain ⟨g78, g79, g80, g81, c82, h⟩ := h
            refine G_callV (as := [_]) cf_X5_87 rfl rfl rfl (sp_X5_takesLaw (d - 1) (by omega) _ o27 _ (r2 _ rfl) g78 g79 g80 g81 c82) (by omega) rfl rfl (Nat.le_of_ble_eq_true rfl) dX5_takesClause_86 ?_
            rintro _ σ85 ⟨u86, rfl, z87⟩ o84 r83
            have h := h _ _ (r83 _ rfl) o84 z87
            refine G_goto (tgt := 97) dX5_takesClause_89 (by decide) ?_
            refine G_istore_n (lv' := [(2, aI (u86)), (1, aI (((if 0 ≤ σ 35 2 ∧ σ 35 2 < σ 30 5 then σ 32 (σ 35 2) else 43)))), (0, aR (35))]) rfl rfl (by decide) dX5_takesClause_97 ?_
            refine G_iload_n 0 rfl rfl dX5_takesClause_98 ?_
            refine G_if_eq (r83 _ rfl) dX5_takesClause_99 (tgt := 115) (by decide) (fun c88 => ?_) (fun c88 => ?_)
            · have h := h.1 c88
              refine G_iconst dX5_takesClause_115 ?_
              exact G_zret rfl (by decide) dX5_takesClause_116 ⟨_, rfl, h⟩ o84
            · have h := h.2 c88
              refine G_aload_n 2 rfl rfl dX5_takesClause_102 ?_
              refine G_bipush (by decide) dX5_takesClause_103 ?_
              obtain ⟨g89, g90, g91, g92, c93, h⟩ := h
              refine G_callV (as := [_]) cf_X5_93 rfl rfl rfl (sp_X5_takesKind (d - 1) (by omega) _ o84 _ (rL 38 rfl) g89 g90 g91 g92 c93) (by omega) rfl rfl (Nat.le_of_ble_eq_true rfl) dX5_takesClause_105 ?_
              rintro _ σ96 ⟨u97, rfl, z98⟩ o95 r94
              have h := h _ _ (r94 _ rfl) o95 z98
              refine G_if_eq (r94 _ rfl) dX5_takesClause_108 (tgt := 115) (by decide) (fun c99 => ?_) (fun c99 => ?_)
              · have h := h.1 c99
                refine G_iconst dX5_takesClause_115 ?_
                exact G_zret rfl (by decide) dX5_takesClause_116 ⟨_, rfl, h⟩ o95
              · have h := h.2 c99
                refine G_iconst dX5_takesClause_111 ?_
                refine G_goto (tgt := 116) dX5_takesClause_112 (by decide) ?_
                exact G_zret rfl (by decide) dX5_takesClause_116 ⟨_, rfl, h⟩ o95
      · have h := h.2 c17
        refine G_aload_n 1 rfl rfl dX5_takesClause_47 ?_
        refine G_bipush (by decide) dX5_takesClause_48 ?_
        obtain ⟨g100, g101, g102, g103, c104, h⟩ := h
        refine G_callV (as := [_]) cf_X5_59 rfl rfl rfl (sp_X5_fails (d - 1) (by omega) _ hO _ (rL 6 rfl) g100 g101 g102 g103 c104) (by omega) rfl rfl (Nat.le_of_ble_eq_true rfl) dX5_takesClause_50 ?_
        rintro _ σ107 ⟨u108, rfl, z109⟩ o106 r105
        have h := h _ _ (r105 _ rfl) o106 z109
        obtain ⟨c110, h⟩ := h
        exact G_zret rfl c110 dX5_takesClause_53 ⟨_, rfl, h⟩ o106
    · have h := h.2 (bI_ne c13)
      refine G_aload_n 1 rfl rfl dX5_takesClause_29 ?_
      refine G_iconst dX5_takesClause_30 ?_
      obtain ⟨g111, g112, g113, g114, c115, h⟩ := h
      refine G_callV (as := [_]) cf_X5_59 rfl rfl rfl (sp_X5_fails (d - 1) (by omega) _ hO _ (rL 4 rfl) g111 g112 g113 g114 c115) (by omega) rfl rfl (Nat.le_of_ble_eq_true rfl) dX5_takesClause_31 ?_
      rintro _ σ118 ⟨u119, rfl, z120⟩ o117 r116
      have h := h _ _ (r116 _ rfl) o117 z120
      obtain ⟨c121, h⟩ := h
      exact G_zret rfl c121 dX5_takesClause_34 ⟨_, rfl, h⟩ o117
  · have h := h.2 ((bI_0 _).mp c7)
    refine G_aload_n 1 rfl rfl dX5_takesClause_12 ?_
    refine G_iconst dX5_takesClause_13 ?_
    obtain ⟨g122, g123, g124, g125, c126, h⟩ := h
    refine G_callV (as := [_]) cf_X5_59 rfl rfl rfl (sp_X5_fails (d - 1) (by omega) _ hO _ (rL 1 rfl) g122 g123 g124 g125 c126) (by omega) rfl rfl (Nat.le_of_ble_eq_true rfl) dX5_takesClause_14 ?_
    rintro _ σ129 ⟨u130, rfl, z131⟩ o128 r127
    have h := h _ _ (r127 _ rfl) o128 z131
    obtain ⟨c132, h⟩ := h
    exact G_zret rfl c132 dX5_takesClause_17 ⟨_, rfl, h⟩ o128

theorem sp_X5_takesClause (d : Nat) (hd : 78 ≤ d) (σ : Mem) (hO : OKm σ) (b : Int → Int) (N : Int) (p : Nat) (i : Nat) (T : Txt) (hpre : rdC σ b N p i ∧ σ p 2 ≤ (i : Int) ∧ txI σ p T) : Mt yX5_takesClause cX5_takesClause 3 (some .boolean) d [aR (35)] σ (QI (fun v σ' => cAns b N p σ σ' v (pCl (kd b N) (nu b N) T i))) := mt_X5_takesClause hd  hO (by
  unfold wp_X5_takesClause
  obtain ⟨hr, hz, hT⟩ := hpre
  have hB := hr.1.1
  have hp := hr.1.2.2
  have o := off35 hp
  have o4 := off4 hp
  have e35 := hr.2.2.1
  have hM := nu_nn hB
  have hlt : ∀ k, kd b N k ≠ 43 → k < 300 := fun k h => by have := (kd_lt hB h).1; omega
  have h9 := hT.1.2.2.2.1
  have h24 := hT.1.2.2.2.2.1
  refine ⟨hr.1.2.1.1.2, fun y4 e4 => ?_⟩
  rw [hr.kind] at e4
  subst e4
  generalize ec : clS (kd b N i) = c
  have eP : pCl (kd b N) (nu b N) T i = if c < 0 then .inl (1, i) else if (c = 0 ∧ T.1.isSome = true) ∨ (c = 1 ∧ T.2.1.isSome = true) then .inl (4, i) else if 24 ≤ T.2.2.length then .inl (6, i) else if c ≤ 1 then tL (kd b N) T c (pS (kd b N) (nu b N) (kd b N i) 8 (i + 1)) else tD (kd b N) T (pDeed (kd b N) (nu b N) c (i + 1)) := by unfold pCl; rw [ec]
  have s1 : (σ p 3 ≠ -1) ↔ T.1.isSome = true := by
    have := hT.1.1
    cases hh : T.1 with
    | none => rw [hh] at this; have e : σ p 3 = -1 := this; simp [e]
    | some f => rw [hh] at this; have e : 0 ≤ σ p 3 := this.1; simp; omega
  have s2 : (σ p 5 ≠ -1) ↔ T.2.1.isSome = true := by
    have := hT.1.2.1
    cases hh : T.2.1 with
    | none => rw [hh] at this; have e : σ p 5 = -1 := this; simp [e]
    | some f => rw [hh] at this; have e : 0 ≤ σ p 5 := this.1; simp; omega
  refine ⟨fun hst => ?_, fun hst => ?_⟩
  · have hc0 : 0 ≤ c ∧ c ≤ 7 ∧ kd b N i = kcC c := by
      rw [← ec]; rcases hst with h | h | h | h | h | h | h | h <;> rw [h] <;> decide
    rw [if_neg (by omega)] at eP
    refine ⟨p, hp, hr.2.1, fun hnl => ?_, fun hyl => ?_⟩
    · have hnl' : ¬ ((c = 0 ∧ T.1.isSome = true) ∨ (c = 1 ∧ T.2.1.isSome = true)) := fun q => hnl (by
        rcases q with ⟨q1, q2⟩ | ⟨q1, q2⟩
        · left; exact ⟨by rw [hc0.2.2, q1]; rfl, s1.mpr q2⟩
        · right; exact ⟨by rw [hc0.2.2, q1]; rfl, s2.mpr q2⟩)
      rw [if_neg hnl'] at eP
      refine ⟨p, hp, hr.2.1, fun hlt24 => ?_, fun hge => ?_⟩
      · rw [if_neg (by omega)] at eP
        have hi := hlt i (by omega)
        rw [e35]
        refine ⟨by unfold R32; omega, fun σ18 e18 => ?_⟩
        have ha : adv p i σ σ18 := adv.mk hp hr.2.2.2.2 e18
        have hr18 := ha.rd hr (by omega)
        have q18 : ∀ q, q ≠ 35 → σ18 q = σ q := fun q hq => by rw [e18]; exact mset_ne hq
        refine ⟨p, hp, hr18.2.1, by rw [q18 p (by omega)]; omega, fun σ28 e28 => ?_⟩
        rw [q18 p (by omega)] at e28
        have F28 : Fr [35, p, p + 1, p + 2, p + 3, p + 4] σ σ28 := by rw [e28, e18]; exact (((Fr.rf _ _).set (by simp)).set (by simp)).set (by simp)
        have k28 : ∀ q, q ≠ 35 → q ≠ p → q ≠ p + 3 → σ28 q = σ q := fun q q1 q2 q3 => by rw [e28, mset_ne q2, mset_ne q3]; exact q18 q q1
        have p28 : ∀ j : Int, j ≠ 9 → σ28 p j = σ p j := fun j hj => by rw [e28, mset_miss hj, mset_off (by omega), q18 p (by omega)]
        have n28 : σ28 p 9 = σ p 9 + 1 := by rw [e28, mset_hit rfl]
        have t28 : σ28 35 = σ18 35 := by rw [e28, mset_ne o.1, mset_ne o4.2]
        have r3 : ∀ q : Int, q ≠ σ p 9 → σ28 (p + 3) q = σ (p + 3) q := fun q hq => by rw [e28, mset_off (by omega), mset_miss hq, q18 (p + 3) (by omega)]
        have r3h : σ28 (p + 3) (σ p 9) = kd b N i := by rw [e28, mset_off (by omega), mset_hit rfl]
        have hr28 : rdC σ28 b N p (i + 1) := ⟨⟨hB, tokC.fr hp F28 hr.1.2.1, hp⟩, by rw [t28]; exact hr18.2.1, by rw [t28]; exact ha.2.1, by omega, by rw [p28 2 (by omega)]; exact hr.2.2.2.2⟩
        have hz28 : σ28 p 2 ≤ ((i + 1 : Nat) : Int) := by rw [p28 2 (by omega)]; omega
        have hs : opQ b N p i σ σ28 := ⟨F28, k28, p28, n28, r3, r3h, hr28, by rw [t28, e18, mset_miss (by omega)], by rw [t28, e18, mset_miss (by omega)]⟩
        have law := cl_law hr hz hT hlt24 hc0 ec hi hs eP
        refine ⟨fun h9' => ⟨b, N, p, i + 1, ⟨hr28, hz28⟩, fun u39 σ38 _ _ h => law u39 σ38 (.inl ?_) h⟩, fun n9 => ⟨fun n10 => ?_, fun h10 => ⟨b, N, p, i + 1, ⟨hr28, hz28⟩, fun u39 σ38 _ _ h => law u39 σ38 (.inr ?_) h⟩⟩⟩
        · rw [← ec, h9']; rfl
        · have hc2 : 2 ≤ c := by
            have hh := hc0.2.2
            rcases Int.lt_or_le c 2 with q | q
            · have : c = 0 ∨ c = 1 := by omega
              rcases this with rfl | rfl
              · exact absurd hh n9
              · exact absurd hh n10
            · exact q
          rw [if_neg (by omega)] at eP
          exact ⟨b, N, p, i + 1, T.2.2.length, c, ⟨hr28, by rw [n28, h9], by omega, by omega, hc0.2.2⟩, fun u ρ _ _ h => cl_deed hr hz hT hlt24 hc0 ec hi hs hc2 eP u ρ h⟩
        · rw [← ec, h10]; rfl
      · rw [if_pos (by omega)] at eP
        exact ⟨b, N, p, i, hr, fun u ρ _ _ ⟨e1, e2⟩ => ⟨.inl e1, cAns.E eP e1 (erR.fail hr e2).T⟩⟩
    · have hyl' : (c = 0 ∧ T.1.isSome = true) ∨ (c = 1 ∧ T.2.1.isSome = true) := by
        rcases hyl with ⟨q1, q2⟩ | ⟨q1, q2⟩
        · left; exact ⟨by rw [← ec, q1]; rfl, s1.mp q2⟩
        · right; exact ⟨by rw [← ec, q1]; rfl, s2.mp q2⟩
      rw [if_pos hyl'] at eP
      exact ⟨b, N, p, i, hr, fun u ρ _ _ ⟨e1, e2⟩ => ⟨.inl e1, cAns.E eP e1 (erR.fail hr e2).T⟩⟩
  · have hcn : c < 0 := by
      rw [← ec]; unfold clS
      rw [if_neg (by omega), if_neg (by omega), if_neg (by omega), if_neg (by omega), if_neg (by omega), if_neg (by omega), if_neg (by omega), if_neg (by omega)]; decide
    rw [if_pos hcn] at eP
    exact ⟨b, N, p, i, hr, fun u ρ _ _ ⟨e1, e2⟩ => ⟨.inl e1, cAns.E eP e1 (erR.fail hr e2).T⟩⟩)
