def lwQ (p i j : Nat) (x1 : Int) (σ σ' : Mem) (f : Env → Int) : Prop := (Fr [35, p, p + 1, p + 2] σ σ' ∧ σ' 35 1 = σ 35 1 ∧ σ' 35 2 = (j : Int) ∧ j ≤ 300) ∧ (0 ≤ σ p 2 ∧ σ p 2 < σ' p 2 ∧ σ' p 2 + (i : Int) ≤ σ p 2 + (j : Int) ∧ σ' p 2 ≤ 300) ∧ kpC p (σ p 2) σ σ' ∧ (x1 = 9 → σ' p 3 = σ p 2 ∧ σ' p 4 = σ' p 2 ∧ σ' p 5 = σ p 5 ∧ σ' p 6 = σ p 6) ∧ (x1 ≠ 9 → σ' p 5 = σ p 2 ∧ σ' p 6 = σ' p 2 ∧ σ' p 3 = σ p 3 ∧ σ' p 4 = σ p 4) ∧ σ' p 9 = σ p 9 ∧ ∃ n : Int, n ≤ 64 ∧ Fg (σ' (p + 1)) (σ' (p + 2)) (σ p 2) (σ' p 2) n f
def lAns (b : Int → Int) (N : Int) (p i : Nat) (x1 : Int) (σ σ' : Mem) (v : Int) (r : PR) : Prop := match r with
  | .inl e => v = 0 ∧ erT b N p σ σ' e
  | .inr q => v = 1 ∧ lwQ p i q.2 x1 σ σ' q.1
theorem lAns.E {b : Int → Int} {N : Int} {p i : Nat} {x1 : Int} {σ σ' : Mem} {v : Int} {r : PR} {e : Int × Nat} (hr : r = .inl e) (h1 : v = 0) (h2 : erT b N p σ σ' e) : lAns b N p i x1 σ σ' v r := by subst hr; exact ⟨h1, h2⟩
theorem lAns.O {b : Int → Int} {N : Int} {p i j : Nat} {x1 : Int} {σ σ' : Mem} {v : Int} {r : PR} {f : Env → Int} (hr : r = .inr (f, j)) (h1 : v = 1) (h2 : lwQ p i j x1 σ σ' f) : lAns b N p i x1 σ σ' v r := by subst hr; exact ⟨h1, h2⟩
theorem rdC.s3 {b : Int → Int} {N : Int} {p i : Nat} {σ τ : Mem} {x : Int} (hr : rdC σ b N p i) (e : τ = mset σ 35 3 x) : rdC τ b N p i := by
  have hp := hr.1.2.2
  have o := off35 hp
  have ht := hr.1.2.1
  refine ⟨⟨hr.1.1, ?_, hp⟩, by rw [e, mset_miss (by omega)]; exact hr.2.1, by rw [e, mset_miss (by omega)]; exact hr.2.2.1, hr.2.2.2.1, by rw [e, mset_off (Ne.symm o.1)]; exact hr.2.2.2.2⟩
  unfold tokC at *
  rw [e]
  simp (disch := omega) only [mset_off]
  exact ht

def wp_X5_takesLaw (x1 : Int) (σ : Mem) (Q : Int → Mem → Prop) : Prop :=
  ∀ σ1 : Mem, σ1 = mset σ 35 3 x1 →
   ∃ t4 : Nat, isText t4 ∧ σ1 35 1 = (t4 : Int) ∧
   ∃ g7 : Int → Int, ∃ g8 : Int, ∃ g9 : Nat, ∃ g10 : Nat, ∃ g11 : Int, (rdC σ1 g7 g8 g9 g10 ∧ σ1 g9 2 ≤ (g10 : Int) ∧ σ1 35 3 = g11) ∧
   ∀ (u16 : Int) (σ15 : Mem), R32 u16 → OKm σ15 → (ansR g7 g8 g9 g10 43 σ1 σ15 u16 (pS (kd g7 g8) (nu g7 g8) g11 8 g10)) →
   ∃ t18 : Nat, isText t18 ∧ σ15 35 1 = (t18 : Int) ∧
   ∃ t21 : Nat, isText t21 ∧ σ15 35 1 = (t21 : Int) ∧
   ∀ σ26 : Mem, σ26 = (if x1 = 9 then mset (mset σ15 t18 3 (σ1 t4 2)) t18 4 (σ15 t21 2) else mset (mset σ15 t18 5 (σ1 t4 2)) t18 6 (σ15 t21 2)) →
   (u16 = 0 ∨ u16 = 1) ∧
   Q u16 σ26
theorem mt_X5_takesLaw {d : Nat} (hd : 77 ≤ d) {x1 : Int} {σ : Mem} {Q : Int → Mem → Prop} (hx1 : R32 x1) (hO : OKm σ) (h : wp_X5_takesLaw x1 σ Q) : Mt yX5_takesLaw cX5_takesLaw 4 (some .boolean) d [aR (35), aI (x1)] σ (QI Q) := by
  refine Mt.intro (by decide +kernel) (Nat.le_of_ble_eq_true rfl) [(0, aR (35)), (1, aI (x1))] rfl ?_
  unfold wp_X5_takesLaw at h
  refine G_aload_n 0 rfl rfl dX5_takesLaw_0 ?_
  refine G_iload_n 1 rfl rfl dX5_takesLaw_1 ?_
  obtain ⟨σ1, e3⟩ : ∃ τ : Mem, τ = mset σ 35 3 x1 := ⟨_, rfl⟩
  have h := h σ1 e3
  have o2 : OKm σ1 := by rw [e3]; exact OKm.seti hO _ _ _ hx1 rfl
  refine G_put (k := 3) (ki := 3) (kd := (0, 0)) (x := _) pf_X5_19 rfl rfl rfl rfl (fa_i (mset_self _ _ _ _)) (fun _ => rfl) (fun _ => rfl) dX5_takesLaw_2 ?_
  rw [← e3]
  refine G_aload_n 0 rfl rfl dX5_takesLaw_5 ?_
  obtain ⟨t4, c5, c6, h⟩ := h
  refine G_get (k := 1) (kd := (4, 0)) (v := aR t4) gf_X5_9 rfl rfl rfl (fa_text c5 c6) dX5_takesLaw_6 ?_
  refine G_get (k := 2) (kd := (0, 0)) (v := aI (σ1 t4 2)) gf_X5_99 rfl (shT c5) rfl rfl dX5_takesLaw_9 ?_
  refine G_istore_n (lv' := [(2, aI ((σ1 t4 2))), (0, aR (35)), (1, aI (x1))]) rfl rfl (by decide) dX5_takesLaw_12 ?_
  refine G_aload_n 1 rfl rfl dX5_takesLaw_13 ?_
  refine G_iconst dX5_takesLaw_14 ?_
  obtain ⟨g7, g8, g9, g10, g11, c12, h⟩ := h
  refine G_callV (as := [_]) cf_X5_102 rfl rfl rfl (sp_X5_takesSum_top (d - 1) (by omega) _ o2  g7 g8 g9 g10 g11 c12) (by omega) rfl rfl (Nat.le_of_ble_eq_true rfl) dX5_takesLaw_15 ?_
  rintro _ σ15 ⟨u16, rfl, z17⟩ o14 r13
  have h := h _ _ (r13 _ rfl) o14 z17
  refine G_istore_n (lv' := [(3, aI (u16)), (2, aI ((σ1 t4 2))), (0, aR (35)), (1, aI (x1))]) rfl rfl (by decide) dX5_takesLaw_18 ?_
  refine G_aload_n 2 rfl rfl dX5_takesLaw_19 ?_
  obtain ⟨t18, c19, c20, h⟩ := h
  refine G_get (k := 1) (kd := (4, 0)) (v := aR t18) gf_X5_9 rfl rfl rfl (fa_text c19 c20) dX5_takesLaw_20 ?_
  refine G_iload_n 3 rfl rfl dX5_takesLaw_23 ?_
  refine G_iload_n 1 rfl rfl dX5_takesLaw_24 ?_
  refine G_aload_n 2 rfl rfl dX5_takesLaw_25 ?_
  obtain ⟨t21, c22, c23, h⟩ := h
  refine G_get (k := 1) (kd := (4, 0)) (v := aR t21) gf_X5_9 rfl rfl rfl (fa_text c22 c23) dX5_takesLaw_26 ?_
  refine G_get (k := 2) (kd := (0, 0)) (v := aI (σ15 t21 2)) gf_X5_99 rfl (shT c22) rfl rfl dX5_takesLaw_29 ?_
  refine G_callV (as := [_, _, _]) cf_X5_105 rfl (shT c19) rfl (sp_X9_setLaw (d - 1) (by omega) _ o14 _ c19 _ hx1 _ (OKm.i o2 t4 2 (lgT c5 2)) _ (OKm.i o14 t21 2 (lgT c22 2))) (by omega) rfl rfl (Nat.le_of_ble_eq_true rfl) dX5_takesLaw_32 ?_
  rintro _ σ26 ⟨rfl, e27⟩ o25 r24
  have h := h σ26 e27
  refine G_iload_n 0 rfl rfl dX5_takesLaw_35 ?_
  obtain ⟨c28, h⟩ := h
  exact G_zret rfl c28 dX5_takesLaw_36 ⟨_, rfl, h⟩ o25

theorem sp_X5_takesLaw (d : Nat) (hd : 77 ≤ d) (σ : Mem) (hO : OKm σ) (x1 : Int) (hx1 : R32 x1) (b : Int → Int) (N : Int) (p : Nat) (i : Nat) (hpre : rdC σ b N p i ∧ σ p 2 ≤ (i : Int)) : Mt yX5_takesLaw cX5_takesLaw 4 (some .boolean) d [aR (35), aI (x1)] σ (QI (fun v σ' => lAns b N p i x1 σ σ' v (pS (kd b N) (nu b N) x1 8 i))) := mt_X5_takesLaw hd hx1 hO (by
  unfold wp_X5_takesLaw
  obtain ⟨hr, hz⟩ := hpre
  have hp := hr.1.2.2
  have o := off35 hp
  intro σ1 e1
  have hr1 := hr.s3 e1
  have q1 : ∀ q, q ≠ 35 → σ1 q = σ q := fun q hq => by rw [e1]; exact mset_ne hq
  have F1 : Fr [35, p, p + 1, p + 2] σ σ1 := by rw [e1]; exact (Fr.rf _ _).set (by simp)
  refine ⟨p, hp, hr1.2.1, b, N, p, i, x1, ⟨hr1, by rw [q1 p (by omega)]; exact hz, by rw [e1, mset_hit rfl]⟩, fun u ρ _ _ h => ?_⟩
  have hfr : frR p σ1 ρ := h.1
  have h351 : ρ 35 1 = (p : Int) := by rw [hfr.2.1 1 (by omega) (by omega) (by omega)]; exact hr1.2.1
  refine ⟨p, hp, h351, p, hp, h351, fun τ eτ => ?_⟩
  have q2 : ∀ q, q ≠ p → τ q = ρ q := fun q hq => by rw [eτ]; split <;> rw [mset_ne hq, mset_ne hq]
  have F2 : Fr [35, p, p + 1, p + 2] ρ τ := fun q hq => q2 q (by intro z; subst z; simp at hq)
  have w : ∀ q ∈ [35, p, p + 1, p + 2], q ∈ [35, p, p + 1, p + 2, p + 3, p + 4] := by intro q hq; simp at hq ⊢; omega
  rw [q1 p (by omega)] at eτ
  cases hq : pS (kd b N) (nu b N) x1 8 i with
  | inl e =>
    obtain ⟨hv, he⟩ := h.E hq
    exact ⟨.inl hv, lAns.E rfl hv ⟨((F1.tr he.1.1).tr F2).wk w, by rw [q2 35 o.1]; exact he.2⟩⟩
  | inr qq =>
    obtain ⟨f, j⟩ := qq
    obtain ⟨hv, ho⟩ := h.O hq
    have hl := ho.lt
    have t := ho.2.1
    obtain ⟨_, _, n, hn, hF⟩ := ho
    rw [q1 p (by omega)] at hl t hF
    have s2 : τ p 2 = ρ p 2 := by rw [eτ]; split <;> rw [mset_miss (by omega), mset_miss (by omega)]
    refine ⟨.inr hv, lAns.O rfl hv ⟨⟨(F1.tr hfr.1).tr F2, by rw [q2 35 o.1, h351]; exact hr.2.1.symm, by rw [q2 35 o.1]; exact t.1, t.2.2.1⟩, ⟨hr.2.2.2.2.1, by rw [s2]; exact hl, by rw [s2]; exact t.2.1, by rw [s2]; exact hfr.2.2.2.2⟩, ⟨fun q hq => ?_, by rw [q2 35 o.1, t.2.2.2.2.1, e1, mset_miss (by omega)], by rw [q2 35 o.1, t.2.2.2.2.2, e1, mset_miss (by omega)]⟩, fun h9 => ?_, fun h9 => ?_, ?_, n, by omega, ?_⟩⟩
    · rw [q2 (p + 1) (by omega), q2 (p + 2) (by omega)]
      have := t.2.2.2.1 q hq
      rw [q1 (p + 1) (by omega), q1 (p + 2) (by omega)] at this; exact this
    · rw [if_pos h9] at eτ
      rw [s2]
      refine ⟨by rw [eτ, mset_miss (by omega), mset_hit rfl], by rw [eτ, mset_hit rfl], by rw [eτ, mset_miss (by omega), mset_miss (by omega), hfr.2.2.1 5 (by omega), q1 p (by omega)], by rw [eτ, mset_miss (by omega), mset_miss (by omega), hfr.2.2.1 6 (by omega), q1 p (by omega)]⟩
    · rw [if_neg h9] at eτ
      rw [s2]
      refine ⟨by rw [eτ, mset_miss (by omega), mset_hit rfl], by rw [eτ, mset_hit rfl], by rw [eτ, mset_miss (by omega), mset_miss (by omega), hfr.2.2.1 3 (by omega), q1 p (by omega)], by rw [eτ, mset_miss (by omega), mset_miss (by omega), hfr.2.2.1 4 (by omega), q1 p (by omega)]⟩
    · rw [eτ]; split <;> rw [mset_miss (by omega), mset_miss (by omega), hfr.2.2.1 9 (by omega), q1 p (by omega)]
    · rw [s2, q2 (p + 1) (by omega), q2 (p + 2) (by omega)]; exact hF)
