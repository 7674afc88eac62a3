/-! LAWS: what a text holds, and how much one sucks, how a road swells. -/
def nmA (A : Mem) (k g r : Int) : Int := if k = 0 then A 0 2 else if k = 1 then A 0 1 else if k = 2 then r else if k = 3 then A 13 r else if k = 4 then A 1 r else if k = 8 then A 14 r else if 0 ≤ g ∧ g < A 10 1 then (if k = 5 then A 15 g else if k = 7 then A 3 g else g) else 0
def envA (A : Mem) (g r : Int) : Env := (fun k => nmA A k g r, thk0 (A 10 0) (A 1))
/-- the law doesn't ask for mouth, who, went -/
def indep (f : Env → Int) : Prop := ∀ e e' : Env, e.2 = e'.2 → (∀ k : Int, (0 ≤ k ∧ k < 5 ∨ k = 8) → e.1 k = e'.1 k) → f e = f e'
/-- the law asks for names alone that there are -/
def loc (f : Env → Int) : Prop := ∀ e e' : Env, e.2 = e'.2 → (∀ k : Int, 0 ≤ k → k ≤ 8 → e.1 k = e'.1 k) → f e = f e'
def okT (T : Txt) : Prop := (∀ f, T.1 = some f → loc f) ∧ ∀ f, T.2.1 = some f → indep f
def lawAt (tx : Nat → Txt) (t : Int) : Txt := if 0 ≤ t then tx t.toNat else (none, none, [])
def skS (A : Mem) (tx : Nat → Txt) (t g r : Int) : Int := match (lawAt tx t).1 with
  | none => 1 + A 15 g / 3
  | some f => max 0 (min 99 (f (envA A g r)))
def swS (A : Mem) (tx : Nat → Txt) (r : Int) : Int := match (lawAt tx (A 10 4)).2.1 with
  | none => A 0 1
  | some f => max 0 (min 9 (f (envA A (-1) r)))
def lawC (σ : Mem) (t : Nat) (k : Int) (o : Option (Env → Int)) : Prop := match o with
  | none => σ t k = -1
  | some f => 0 ≤ σ t k ∧ σ t (k + 1) ≤ 300 ∧ Bd f ∧ ∃ N, N ≤ 64 ∧ Fg (σ (t + 1)) (σ (t + 2)) (σ t k) (σ t (k + 1)) N f
/-- the class's kinds of clauses -/
def kcC (c : Int) : Int := if c = 0 then 9 else if c = 1 then 10 else if c = 2 then 11 else if c = 3 then 13 else if c = 4 then 14 else if c = 5 then 16 else if c = 6 then 17 else 0
/-- a clause's numbers in range -/
def clOK (c : Int × Int × Int × Int × Int) : Prop :=
  (c.1 = 0 ∨ c.1 = 1) ∨ (c.1 = 2 ∧ (0 ≤ c.2.1 ∧ c.2.1 ≤ 7) ∧ (0 ≤ c.2.2.1 ∧ c.2.2.1 ≤ 7) ∧ (1 ≤ c.2.2.2.1 ∧ c.2.2.2.1 ≤ 9) ∧ (1 ≤ c.2.2.2.2 ∧ c.2.2.2.2 ≤ 99)) ∨
  (c.1 = 3 ∧ (0 ≤ c.2.1 ∧ c.2.1 ≤ 7) ∧ (1 ≤ c.2.2.1 ∧ c.2.2.1 ≤ 9)) ∨ (c.1 = 4 ∧ (0 ≤ c.2.1 ∧ c.2.1 ≤ 15) ∧ (0 ≤ c.2.2.1 ∧ c.2.2.1 ≤ 5)) ∨
  (c.1 = 5 ∧ (0 ≤ c.2.1 ∧ c.2.1 ≤ 15)) ∨ (c.1 = 6 ∧ (1 ≤ c.2.1 ∧ c.2.1 ≤ 99)) ∨ (c.1 = 7 ∧ (1 ≤ c.2.1 ∧ c.2.1 ≤ 60))
/-- numbers that a kind of clause has -/
def clN (c : Int) : Int := if c = 2 then 4 else if c = 3 ∨ c = 4 then 2 else if 5 ≤ c then 1 else 0
def textC (σ : Mem) (t : Nat) (T : Txt) : Prop :=
  lawC σ t 3 T.1 ∧ lawC σ t 5 T.2.1 ∧ okT T ∧ σ t 9 = (T.2.2.length : Int) ∧ T.2.2.length ≤ 24 ∧
  ∀ (k : Nat) (c : Int × Int × Int × Int × Int), T.2.2[k]? = some c → clOK c ∧ σ (t + 3) (k : Int) = kcC c.1 ∧ (1 ≤ clN c.1 → σ (t + 4) (4 * (k : Int)) = c.2.1) ∧ (2 ≤ clN c.1 → σ (t + 4) (4 * (k : Int) + 1) = c.2.2.1) ∧ (4 ≤ clN c.1 → σ (t + 4) (4 * (k : Int) + 2) = c.2.2.2.1 ∧ σ (t + 4) (4 * (k : Int) + 3) = c.2.2.2.2)
theorem textC.congr {σ σ' : Mem} {t : Nat} {T : Txt} (h : textC σ t T) (he : ∀ j : Nat, j < 5 → σ' (t + j) = σ (t + j)) : textC σ' t T := by
  have e0 : σ' t = σ t := he 0 (by omega)
  have e1 := he 1 (by omega)
  have e2 := he 2 (by omega)
  have e3 := he 3 (by omega)
  have e4 := he 4 (by omega)
  unfold textC lawC at *
  rw [e0, e1, e2, e3, e4]
  exact h
def vwC (σ : Mem) (A : Mem) (tx : Nat → Txt) : Prop := toldC σ 1 A ∧ nowC σ A ∧ InvA A ∧ ∀ i : Nat, (i : Int) < A 10 2 → textC σ (54 + 5 * i) (tx i)
/-- the class's cells that hold nothing between two calls -/
abbrev ScrC : List Nat := [32, 33, 34, 37, 39, 41, 42, 43, 44, 45, 46, 47, 48, 49, 50, 51, 52, 53]
theorem toldC.congr {σ σ' : Mem} {p : Nat} {A : Mem} (h : toldC σ p A) (he : ∀ j : Nat, j < 9 → σ' (p + j) = σ (p + j)) : toldC σ' p A := by
  have e0 : σ' p = σ p := he 0 (by omega)
  have e1 := he 1 (by omega)
  have e2 := he 2 (by omega)
  have e3 := he 3 (by omega)
  have e4 := he 4 (by omega)
  have e5 := he 5 (by omega)
  have e6 := he 6 (by omega)
  have e7 := he 7 (by omega)
  have e8 := he 8 (by omega)
  unfold toldC at *
  rw [e0, e1, e2, e3, e4, e5, e6, e7, e8]
  exact h
theorem nowC.congr {σ σ' : Mem} {A : Mem} (h : nowC σ A) (he : ∀ q : Nat, 10 ≤ q → q ≤ 14 → σ' q = σ q) : nowC σ' A := by
  unfold nowC at *
  rw [he 10 (by omega) (by omega), he 11 (by omega) (by omega), he 12 (by omega) (by omega), he 13 (by omega) (by omega), he 14 (by omega) (by omega)]
  exact h
theorem notScr {q : Nat} (h : q < 32 ∨ 54 ≤ q ∨ q = 35 ∨ q = 36 ∨ q = 38 ∨ q = 40) : q ∉ ScrC := by
  simp only [ScrC, List.mem_cons, List.not_mem_nil, or_false, not_or]; omega
theorem vwC.fr {σ σ' : Mem} {A : Mem} {tx : Nat → Txt} (h : vwC σ A tx) (hf : Fr ScrC σ σ') : vwC σ' A tx :=
  ⟨h.1.congr (fun j hj => hf _ (notScr (by omega))), h.2.1.congr (fun q h1 h2 => hf q (notScr (by omega))), h.2.2.1, fun i hi => (h.2.2.2 i hi).congr (fun j hj => hf _ (notScr (by omega)))⟩
theorem fr37 {σ σ' : Mem} (h : Fr [37] σ σ') : Fr ScrC σ σ' := h.wk (by simp)
theorem thk0_congr {n : Int} {f g : Int → Int} (h : ∀ q : Int, 0 ≤ q → q < n → f q = g q) : thk0 n f = thk0 n g := by
  funext q; unfold thk0; split
  · rename_i hq; exact h q hq.1 hq.2
  · rfl
theorem envC_eq {σ A : Mem} {tx : Nat → Txt} {g r : Int} (h : vwC σ A tx) (hr : 0 ≤ r ∧ r < A 10 0) (hg : g < A 10 1) : envC σ g r = envA A g r := by
  obtain ⟨⟨t0, t1, t2, t3⟩, ⟨n0, n1, n2, n3⟩, -, -⟩ := h
  unfold envC envA
  refine Prod.ext ?_ ?_
  · funext k
    show nmC σ k g r = nmA A k g r
    have h1 := t1 r hr.1 hr.2
    have h2 := n1 r hr.1 hr.2
    unfold nmC nmA
    rw [n0.2.2.1, n0.2.1, h1.2.2.1, h1.2.2.2, h2, t0.2.1]
    by_cases hg0 : 0 ≤ g
    · have h3 := t2 g hg0 hg
      have h4 := n2 g hg0 hg
      rw [h3, h4.2]
    · rw [if_neg (show ¬ (0 ≤ g ∧ g < A 10 1) by omega), if_neg (show ¬ (0 ≤ g ∧ g < A 10 1) by omega)]
  · show thk0 (σ 1 8) (σ 11) = thk0 (A 10 0) (A 1)
    rw [t0.1]
    exact thk0_congr n1
theorem envA_ok {A : Mem} {g r : Int} (h : InvA A) (hr : 0 ≤ r ∧ r < A 10 0) (hg : g < A 10 1) : okE (envA A g r) := by
  obtain ⟨i0, i1, i2, i3, i4, i5⟩ := h
  have h1 := i1 r hr.1 hr.2
  refine ⟨fun k hk hk2 => ?_, fun q => ?_⟩
  · show Mil (nmA A k g r)
    unfold nmA Mil
    have h2 : 0 ≤ g → 1 ≤ A 15 g ∧ A 15 g ≤ 9 ∧ 0 ≤ A 3 g ∧ A 3 g ≤ 9999 := fun hg0 => by have := i2 g hg0 hg; omega
    (repeat' split) <;> omega
  · show Mil (thk0 (A 10 0) (A 1) q)
    unfold thk0 Mil
    split
    · rename_i hq; have := i1 q hq.1 hq.2; omega
    · omega
theorem le3 {x : Int} (h : 0 ≤ x ∧ x ≤ 3) : 0 ≤ x ∧ x < 4 := by omega
theorem skS_r {A : Mem} {tx : Nat → Txt} {t g r : Int} (h : InvA A) (hg : 0 ≤ g ∧ g < A 10 1) : 0 ≤ skS A tx t g r ∧ skS A tx t g r ≤ 99 := by
  unfold skS
  split
  · have := h.2.2.1 g hg.1 hg.2; omega
  · omega
theorem swS_r {A : Mem} {tx : Nat → Txt} {r : Int} (h : InvA A) : 0 ≤ swS A tx r ∧ swS A tx r ≤ 9 := by
  unfold swS
  split
  · have := h.2.2.2.1; omega
  · omega

def wp_X2_lawOf (x1 : Int) (σ : Mem) (Q : AV → Mem → Prop) : Prop :=
  ((¬ ((0 : Int) ≤ x1 ∧ x1 ≤ ((4 - 1) : Int))) →
    Q (aN) σ) ∧
   (((0 : Int) ≤ x1 ∧ x1 ≤ ((4 - 1) : Int)) →
    (0 ≤ x1 ∧ x1 < 4) ∧
    Q (aR ((54 + 5 * (x1).toNat))) σ)
theorem mt_X2_lawOf {d : Nat} (hd : 1 ≤ d) {x1 : Int} {σ : Mem} {Q : AV → Mem → Prop} (hx1 : R32 x1) (hO : OKm σ) (h : wp_X2_lawOf x1 σ Q) : Mt yX2_lawOf cX2_lawOf 2 (some (.object "LiquoriceRoads$Text")) d [aR (36), aI (x1)] σ (QA Q) := by
  refine Mt.intro (by decide +kernel) (Nat.le_of_ble_eq_true rfl) [(0, aR (36)), (1, aI (x1))] rfl ?_
  unfold wp_X2_lawOf at h
  refine G_iload_n 1 rfl rfl dX2_lawOf_0 ?_
  refine G_iconst dX2_lawOf_1 ?_
  refine G_aload_n 0 rfl rfl dX2_lawOf_2 ?_
  refine G_get (k := 2) (kd := (2, 29)) (v := aR 29) gf_X2_23 rfl rfl rfl rfl dX2_lawOf_3 ?_
  refine G_alenR (v := 4) (n := 4) rfl (by decide) rfl dX2_lawOf_6 ?_
  refine G_iconst dX2_lawOf_7 ?_
  refine G_isub dX2_lawOf_8 ?_
  refine G_callN (as := [_, _, _]) cf_X2_88 rfl (sp_X11_within (d - 1) (by omega) _ hO _ hx1 _ (rL 0 rfl) _ (rL (4 - 1) rfl)) (by omega) rfl rfl (Nat.le_of_ble_eq_true rfl) dX2_lawOf_9 ?_
  rintro _ _ ⟨_, rfl, rfl, rfl⟩ o2 r1
  refine G_if_eq (bI_R _) dX2_lawOf_12 (tgt := 24) (by decide) (fun c3 => ?_) (fun c3 => ?_)
  · have h := h.1 ((bI_0 _).mp c3)
    refine G_null dX2_lawOf_24 ?_
    exact G_nret rfl dX2_lawOf_25 ⟨_, rfl, h⟩ hO
  · have h := h.2 (bI_ne c3)
    refine G_aload_n 0 rfl rfl dX2_lawOf_15 ?_
    refine G_get (k := 2) (kd := (2, 29)) (v := aR 29) gf_X2_23 rfl rfl rfl rfl dX2_lawOf_16 ?_
    refine G_iload_n 1 rfl rfl dX2_lawOf_19 ?_
    obtain ⟨c4, h⟩ := h
    refine G_aald (n := 4) rfl c4.1 c4.2 dX2_lawOf_20 ?_
    refine G_goto (tgt := 25) dX2_lawOf_21 (by decide) ?_
    exact G_aret rfl dX2_lawOf_25 ⟨_, rfl, h⟩ hO

theorem sp_X2_lawOf (d : Nat) (hd : 1 ≤ d) (σ : Mem) (hO : OKm σ) (x1 : Int) (hx1 : R32 x1) : Mt yX2_lawOf cX2_lawOf 2 (some (.object "LiquoriceRoads$Text")) d [aR (36), aI (x1)] σ (QA (fun v σ' => ((¬ (0 ≤ x1 ∧ x1 ≤ 3)) ∧ v = aN ∨ (0 ≤ x1 ∧ x1 ≤ 3) ∧ v = aR (54 + 5 * (x1).toNat)) ∧ σ = σ')) := mt_X2_lawOf hd hx1 hO (by
  unfold wp_X2_lawOf
  refine ⟨fun h => ?_, fun h => ⟨by omega, Or.inr ⟨h, rfl⟩, rfl⟩⟩
  exact ⟨Or.inl ⟨h, rfl⟩, rfl⟩)

def wp_X2_sucking (x1 : Int) (x2 : Int) (x3 : Int) (σ : Mem) (Q : Int → Mem → Prop) : Prop :=
  ((¬ (0 ≤ x1 ∧ x1 ≤ 3)) →
    (0 ≤ x2 ∧ x2 < 6) ∧
    R32 (1 + (Int.tdiv (σ 6 x2) 3)) ∧
    Q (1 + (Int.tdiv (σ 6 x2) 3)) σ) ∧
   ((0 ≤ x1 ∧ x1 ≤ 3) →
    (((σ (54 + 5 * (x1).toNat) 3) ≠ (-1)) →
     ∃ g9 : Int, ∃ g10 : Env → Int, (Fg (σ ((54 + 5 * (x1).toNat) + 1)) (σ ((54 + 5 * (x1).toNat) + 2)) (σ (54 + 5 * (x1).toNat) 3) (σ (54 + 5 * (x1).toNat) 4) g9 g10 ∧ g9 ≤ 64 ∧ 0 ≤ (σ (54 + 5 * (x1).toNat) 3) ∧ (σ (54 + 5 * (x1).toNat) 4) ≤ 300 ∧ okE (envC σ x2 x3) ∧ (0 ≤ x3 ∧ x3 < 16) ∧ σ 1 9 ≤ 6 ∧ σ 1 8 ≤ 16) ∧
     ∀ (u15 : Int) (σ14 : Mem), R32 u15 → OKm σ14 → (u15 = g10 (envC σ x2 x3) ∧ Fr [37] σ σ14) →
     Q (max 0 (min 99 u15)) σ14) ∧
    (((σ (54 + 5 * (x1).toNat) 3) = (-1)) →
     (0 ≤ x2 ∧ x2 < 6) ∧
     R32 (1 + (Int.tdiv (σ 6 x2) 3)) ∧
     Q (1 + (Int.tdiv (σ 6 x2) 3)) σ))
theorem mt_X2_sucking {d : Nat} (hd : 3 ≤ d) {x1 : Int} {x2 : Int} {x3 : Int} {σ : Mem} {Q : Int → Mem → Prop} (hx1 : R32 x1) (hx2 : R32 x2) (hx3 : R32 x3) (hO : OKm σ) (h : wp_X2_sucking x1 x2 x3 σ Q) : Mt yX2_sucking cX2_sucking 5 (some .int) d [aR (36), aI (x1), aI (x2), aI (x3)] σ (QI Q) := by
  refine Mt.intro (by decide +kernel) (Nat.le_of_ble_eq_true rfl) [(0, aR (36)), (1, aI (x1)), (2, aI (x2)), (3, aI (x3))] rfl ?_
  unfold wp_X2_sucking at h
  refine G_aload_n 0 rfl rfl dX2_sucking_0 ?_
  refine G_iload_n 1 rfl rfl dX2_sucking_1 ?_
  refine G_callV (as := [_]) cf_X2_27 rfl rfl rfl (sp_X2_lawOf (d - 1) (by omega) _ hO _ hx1) (by omega) rfl rfl (Nat.le_of_ble_eq_true rfl) dX2_sucking_2 ?_
  rintro _ _ ⟨_, rfl, c3, rfl⟩ o2 r1
  rcases c3 with ⟨c4, rfl⟩ | ⟨c5, rfl⟩
  · have h := h.1 c4
    refine G_astoreN (lv' := [(4, aN), (0, aR (36)), (1, aI (x1)), (2, aI (x2)), (3, aI (x3))]) rfl (by decide) dX2_sucking_5 ?_
    refine G_aloadN 0 rfl dX2_sucking_7 ?_
    refine G_ifnullN (tgt := 21) dX2_sucking_9 (by decide) ?_
    refine G_iconst dX2_sucking_21 ?_
    refine G_aload_n 1 rfl rfl dX2_sucking_22 ?_
    refine G_get (k := 0) (kd := (2, 1)) (v := aR 1) gf_X2_15 rfl rfl rfl rfl dX2_sucking_23 ?_
    refine G_get (k := 4) (kd := (3, 5)) (v := aR (6)) gf_X2_37 rfl rfl rfl rfl dX2_sucking_26 ?_
    refine G_iload_n 3 rfl rfl dX2_sucking_29 ?_
    obtain ⟨c6, h⟩ := h
    refine G_iald (n := 6) rfl c6.1 c6.2 dX2_sucking_30 ?_
    refine G_iconst dX2_sucking_31 ?_
    refine G_idiv (OKm.i hO 6 x2 (isLg_row (show shp 6 = (1, 6, []) from rfl) _)) (rL 3 rfl) (by decide) dX2_sucking_32 ?_
    refine G_iadd dX2_sucking_33 ?_
    obtain ⟨c7, h⟩ := h
    exact G_iret rfl c7 dX2_sucking_34 ⟨_, rfl, h⟩ hO
  · have h := h.2 c5
    refine G_astore (lv' := [(4, aR (54 + 5 * (x1).toNat)), (0, aR (36)), (1, aI (x1)), (2, aI (x2)), (3, aI (x3))]) rfl (by decide) dX2_sucking_5 ?_
    refine G_aload 0 rfl dX2_sucking_7 ?_
    refine G_ifnull dX2_sucking_9 ?_
    refine G_aload 0 rfl dX2_sucking_12 ?_
    refine G_get (k := 3) (kd := (0, 0)) (v := aI (σ (54 + 5 * (x1).toNat) 3)) gf_X2_31 rfl (shT (isText_at (le3 c5))) rfl rfl dX2_sucking_14 ?_
    refine G_iconst dX2_sucking_17 ?_
    refine G_icmp_ne (OKm.i hO (54 + 5 * (x1).toNat) 3 (lgT (isText_at (le3 c5)) 3)) (rL (-1) rfl) dX2_sucking_18 (tgt := 35) (by decide) (fun c8 => ?_) (fun c8 => ?_)
    · have h := h.1 c8
      refine G_iconst dX2_sucking_35 ?_
      refine G_bipush (by decide) dX2_sucking_36 ?_
      refine G_aload_n 1 rfl rfl dX2_sucking_38 ?_
      refine G_aload 0 rfl dX2_sucking_39 ?_
      refine G_aload 0 rfl dX2_sucking_41 ?_
      refine G_get (k := 3) (kd := (0, 0)) (v := aI (σ (54 + 5 * (x1).toNat) 3)) gf_X2_31 rfl (shT (isText_at (le3 c5))) rfl rfl dX2_sucking_43 ?_
      refine G_aload 0 rfl dX2_sucking_46 ?_
      refine G_get (k := 4) (kd := (0, 0)) (v := aI (σ (54 + 5 * (x1).toNat) 4)) gf_X2_42 rfl (shT (isText_at (le3 c5))) rfl rfl dX2_sucking_48 ?_
      refine G_iload_n 3 rfl rfl dX2_sucking_51 ?_
      refine G_iload_n 4 rfl rfl dX2_sucking_52 ?_
      obtain ⟨g9, g10, c11, h⟩ := h
      refine G_callV (as := [_, _, _, _, _]) cf_X2_45 rfl rfl rfl (sp_X2_value (d - 1) (by omega) _ hO _ (isText_at (le3 c5)) _ (OKm.i hO (54 + 5 * (x1).toNat) 3 (lgT (isText_at (le3 c5)) 3)) _ (OKm.i hO (54 + 5 * (x1).toNat) 4 (lgT (isText_at (le3 c5)) 4)) _ hx2 _ hx3 g9 g10 c11) (by omega) rfl rfl (Nat.le_of_ble_eq_true rfl) dX2_sucking_53 ?_
      rintro _ σ14 ⟨u15, rfl, z16⟩ o13 r12
      have h := h _ _ (r12 _ rfl) o13 z16
      refine G_mmin rfl (rL 99 rfl) (r12 _ rfl) (Nat.le_of_ble_eq_true rfl) sf_X2_49 dX2_sucking_56 ?_
      refine G_mmax rfl (rL 0 rfl) (r32_min (rL 99 rfl) (r12 _ rfl)) (Nat.le_of_ble_eq_true rfl) sf_X2_55 dX2_sucking_59 ?_
      exact G_iret rfl (r32_max (rL 0 rfl) (r32_min (rL 99 rfl) (r12 _ rfl))) dX2_sucking_62 ⟨_, rfl, h⟩ o13
    · have h := h.2 c8
      refine G_iconst dX2_sucking_21 ?_
      refine G_aload_n 1 rfl rfl dX2_sucking_22 ?_
      refine G_get (k := 0) (kd := (2, 1)) (v := aR 1) gf_X2_15 rfl rfl rfl rfl dX2_sucking_23 ?_
      refine G_get (k := 4) (kd := (3, 5)) (v := aR (6)) gf_X2_37 rfl rfl rfl rfl dX2_sucking_26 ?_
      refine G_iload_n 3 rfl rfl dX2_sucking_29 ?_
      obtain ⟨c17, h⟩ := h
      refine G_iald (n := 6) rfl c17.1 c17.2 dX2_sucking_30 ?_
      refine G_iconst dX2_sucking_31 ?_
      refine G_idiv (OKm.i hO 6 x2 (isLg_row (show shp 6 = (1, 6, []) from rfl) _)) (rL 3 rfl) (by decide) dX2_sucking_32 ?_
      refine G_iadd dX2_sucking_33 ?_
      obtain ⟨c18, h⟩ := h
      exact G_iret rfl c18 dX2_sucking_34 ⟨_, rfl, h⟩ hO

theorem sp_X2_sucking (d : Nat) (hd : 3 ≤ d) (σ : Mem) (hO : OKm σ) (x1 : Int) (hx1 : R32 x1) (x2 : Int) (hx2 : R32 x2) (x3 : Int) (hx3 : R32 x3) (A : Mem) (tx : Nat → Txt) (hpre : vwC σ A tx ∧ (-1 ≤ x1 ∧ x1 < A 10 2) ∧ (0 ≤ x2 ∧ x2 < A 10 1) ∧ (0 ≤ x3 ∧ x3 < A 10 0)) : Mt yX2_sucking cX2_sucking 5 (some .int) d [aR (36), aI (x1), aI (x2), aI (x3)] σ (QI (fun v σ' => v = skS A tx x1 x2 x3 ∧ Fr [37] σ σ')) := mt_X2_sucking hd hx1 hx2 hx3 hO (by
  unfold wp_X2_sucking
  obtain ⟨hV, hx1r, hg, hr⟩ := hpre
  have hI := hV.2.2.1
  have hcnt := hI.cnt
  unfold Cnt at hcnt
  have hm := hV.1.2.2.1 x2 hg.1 hg.2
  have hmr := (hI.2.2.1 x2 hg.1 hg.2).1
  have hnt := hI.1
  have e1 : Int.tdiv (σ 6 x2) 3 = A 15 x2 / 3 := by rw [show (6 : Nat) = 1 + 5 from rfl, hm]; exact tdivP (by omega)
  have hno : (lawAt tx x1).1 = none → (0 ≤ x2 ∧ x2 < 6) ∧ R32 (1 + Int.tdiv (σ 6 x2) 3) ∧ (1 + Int.tdiv (σ 6 x2) 3 = skS A tx x1 x2 x3 ∧ Fr [37] σ σ) := fun h => by
    rw [e1]
    unfold skS
    rw [h]
    exact ⟨by omega, by unfold R32; omega, rfl, Fr.rf _ _⟩
  refine ⟨fun h => ?_, fun h => ?_⟩
  · exact hno (by unfold lawAt; rw [if_neg (by omega)])
  · have hT := hV.2.2.2 x1.toNat (by omega)
    have hl : lawAt tx x1 = tx x1.toNat := by unfold lawAt; rw [if_pos h.1]
    have hL := hT.1
    unfold lawC at hL
    cases hc : (tx x1.toNat).1 with
    | none =>
      rw [hc] at hL
      exact ⟨fun h2 => absurd hL h2, fun _ => hno (by rw [hl, hc])⟩
    | some f =>
      rw [hc] at hL
      obtain ⟨q1, q2, q3, N, q4, q5⟩ := hL
      refine ⟨fun _ => ⟨N, f, ⟨q5, q4, q1, q2, ?_, by omega, by rw [hV.1.1.2.1]; omega, by rw [hV.1.1.1]; omega⟩, ?_⟩, fun h2 => ?_⟩
      · rw [envC_eq hV hr hg.2]; exact envA_ok hI hr hg.2
      · intro u σ1 hu hO1 ⟨eu, hF⟩
        refine ⟨?_, hF⟩
        unfold skS
        rw [hl, hc, eu, envC_eq hV hr hg.2]
      · rw [h2] at q1; omega)

def wp_X2_swelling (x1 : Int) (σ : Mem) (Q : Int → Mem → Prop) : Prop :=
  ((¬ (0 ≤ (σ 1 12) ∧ (σ 1 12) ≤ 3)) →
    Q (σ 10 6) σ) ∧
   ((0 ≤ (σ 1 12) ∧ (σ 1 12) ≤ 3) →
    (((σ (54 + 5 * ((σ 1 12)).toNat) 5) ≠ (-1)) →
     ∃ g7 : Int, ∃ g8 : Env → Int, (Fg (σ ((54 + 5 * ((σ 1 12)).toNat) + 1)) (σ ((54 + 5 * ((σ 1 12)).toNat) + 2)) (σ (54 + 5 * ((σ 1 12)).toNat) 5) (σ (54 + 5 * ((σ 1 12)).toNat) 6) g7 g8 ∧ g7 ≤ 64 ∧ 0 ≤ (σ (54 + 5 * ((σ 1 12)).toNat) 5) ∧ (σ (54 + 5 * ((σ 1 12)).toNat) 6) ≤ 300 ∧ okE (envC σ ((-1) : Int) x1) ∧ (0 ≤ x1 ∧ x1 < 16) ∧ σ 1 9 ≤ 6 ∧ σ 1 8 ≤ 16) ∧
     ∀ (u13 : Int) (σ12 : Mem), R32 u13 → OKm σ12 → (u13 = g8 (envC σ ((-1) : Int) x1) ∧ Fr [37] σ σ12) →
     Q (max 0 (min 9 u13)) σ12) ∧
    (((σ (54 + 5 * ((σ 1 12)).toNat) 5) = (-1)) →
     Q (σ 10 6) σ))
theorem mt_X2_swelling {d : Nat} (hd : 3 ≤ d) {x1 : Int} {σ : Mem} {Q : Int → Mem → Prop} (hx1 : R32 x1) (hO : OKm σ) (h : wp_X2_swelling x1 σ Q) : Mt yX2_swelling cX2_swelling 3 (some .int) d [aR (36), aI (x1)] σ (QI Q) := by
  refine Mt.intro (by decide +kernel) (Nat.le_of_ble_eq_true rfl) [(0, aR (36)), (1, aI (x1))] rfl ?_
  unfold wp_X2_swelling at h
  refine G_aload_n 0 rfl rfl dX2_swelling_0 ?_
  refine G_aload_n 0 rfl rfl dX2_swelling_1 ?_
  refine G_get (k := 0) (kd := (2, 1)) (v := aR 1) gf_X2_15 rfl rfl rfl rfl dX2_swelling_2 ?_
  refine G_get (k := 12) (kd := (0, 0)) (v := aI (σ 1 12)) gf_X2_58 rfl rfl rfl rfl dX2_swelling_5 ?_
  refine G_callV (as := [_]) cf_X2_27 rfl rfl rfl (sp_X2_lawOf (d - 1) (by omega) _ hO _ (OKm.i hO 1 12 rfl)) (by omega) rfl rfl (Nat.le_of_ble_eq_true rfl) dX2_swelling_8 ?_
  rintro _ _ ⟨_, rfl, c3, rfl⟩ o2 r1
  rcases c3 with ⟨c4, rfl⟩ | ⟨c5, rfl⟩
  · have h := h.1 c4
    refine G_astore_nN (lv' := [(2, aN), (0, aR (36)), (1, aI (x1))]) rfl rfl (by decide) dX2_swelling_11 ?_
    refine G_aload_nN 0 rfl rfl dX2_swelling_12 ?_
    refine G_ifnullN (tgt := 24) dX2_swelling_13 (by decide) ?_
    refine G_aload_n 1 rfl rfl dX2_swelling_24 ?_
    refine G_get (k := 1) (kd := (2, 10)) (v := aR 10) gf_X2_19 rfl rfl rfl rfl dX2_swelling_25 ?_
    refine G_get (k := 6) (kd := (0, 0)) (v := aI (σ 10 6)) gf_X2_64 rfl rfl rfl rfl dX2_swelling_28 ?_
    exact G_iret rfl (OKm.i hO 10 6 rfl) dX2_swelling_31 ⟨_, rfl, h⟩ hO
  · have h := h.2 c5
    refine G_astore_n (lv' := [(2, aR (54 + 5 * ((σ 1 12)).toNat)), (0, aR (36)), (1, aI (x1))]) rfl rfl (by decide) dX2_swelling_11 ?_
    refine G_aload_n 0 rfl rfl dX2_swelling_12 ?_
    refine G_ifnull dX2_swelling_13 ?_
    refine G_aload_n 0 rfl rfl dX2_swelling_16 ?_
    refine G_get (k := 5) (kd := (0, 0)) (v := aI (σ (54 + 5 * ((σ 1 12)).toNat) 5)) gf_X2_61 rfl (shT (isText_at (le3 c5))) rfl rfl dX2_swelling_17 ?_
    refine G_iconst dX2_swelling_20 ?_
    refine G_icmp_ne (OKm.i hO (54 + 5 * ((σ 1 12)).toNat) 5 (lgT (isText_at (le3 c5)) 5)) (rL (-1) rfl) dX2_swelling_21 (tgt := 32) (by decide) (fun c6 => ?_) (fun c6 => ?_)
    · have h := h.1 c6
      refine G_iconst dX2_swelling_32 ?_
      refine G_bipush (by decide) dX2_swelling_33 ?_
      refine G_aload_n 1 rfl rfl dX2_swelling_35 ?_
      refine G_aload_n 0 rfl rfl dX2_swelling_36 ?_
      refine G_aload_n 0 rfl rfl dX2_swelling_37 ?_
      refine G_get (k := 5) (kd := (0, 0)) (v := aI (σ (54 + 5 * ((σ 1 12)).toNat) 5)) gf_X2_61 rfl (shT (isText_at (le3 c5))) rfl rfl dX2_swelling_38 ?_
      refine G_aload_n 0 rfl rfl dX2_swelling_41 ?_
      refine G_get (k := 6) (kd := (0, 0)) (v := aI (σ (54 + 5 * ((σ 1 12)).toNat) 6)) gf_X2_69 rfl (shT (isText_at (le3 c5))) rfl rfl dX2_swelling_42 ?_
      refine G_iconst dX2_swelling_45 ?_
      refine G_iload_n 2 rfl rfl dX2_swelling_46 ?_
      obtain ⟨g7, g8, c9, h⟩ := h
      refine G_callV (as := [_, _, _, _, _]) cf_X2_45 rfl rfl rfl (sp_X2_value (d - 1) (by omega) _ hO _ (isText_at (le3 c5)) _ (OKm.i hO (54 + 5 * ((σ 1 12)).toNat) 5 (lgT (isText_at (le3 c5)) 5)) _ (OKm.i hO (54 + 5 * ((σ 1 12)).toNat) 6 (lgT (isText_at (le3 c5)) 6)) _ (rL (-1) rfl) _ hx1 g7 g8 c9) (by omega) rfl rfl (Nat.le_of_ble_eq_true rfl) dX2_swelling_47 ?_
      rintro _ σ12 ⟨u13, rfl, z14⟩ o11 r10
      have h := h _ _ (r10 _ rfl) o11 z14
      refine G_mmin rfl (rL 9 rfl) (r10 _ rfl) (Nat.le_of_ble_eq_true rfl) sf_X2_49 dX2_swelling_50 ?_
      refine G_mmax rfl (rL 0 rfl) (r32_min (rL 9 rfl) (r10 _ rfl)) (Nat.le_of_ble_eq_true rfl) sf_X2_55 dX2_swelling_53 ?_
      exact G_iret rfl (r32_max (rL 0 rfl) (r32_min (rL 9 rfl) (r10 _ rfl))) dX2_swelling_56 ⟨_, rfl, h⟩ o11
    · have h := h.2 c6
      refine G_aload_n 1 rfl rfl dX2_swelling_24 ?_
      refine G_get (k := 1) (kd := (2, 10)) (v := aR 10) gf_X2_19 rfl rfl rfl rfl dX2_swelling_25 ?_
      refine G_get (k := 6) (kd := (0, 0)) (v := aI (σ 10 6)) gf_X2_64 rfl rfl rfl rfl dX2_swelling_28 ?_
      exact G_iret rfl (OKm.i hO 10 6 rfl) dX2_swelling_31 ⟨_, rfl, h⟩ hO

theorem sp_X2_swelling (d : Nat) (hd : 3 ≤ d) (σ : Mem) (hO : OKm σ) (x1 : Int) (hx1 : R32 x1) (A : Mem) (tx : Nat → Txt) (hpre : vwC σ A tx ∧ (0 ≤ x1 ∧ x1 < A 10 0)) : Mt yX2_swelling cX2_swelling 3 (some .int) d [aR (36), aI (x1)] σ (QI (fun v σ' => v = swS A tx x1 ∧ Fr [37] σ σ')) := mt_X2_swelling hd hx1 hO (by
  unfold wp_X2_swelling
  obtain ⟨hV, hr⟩ := hpre
  have hI := hV.2.2.1
  have hcnt := hI.cnt
  unfold Cnt at hcnt
  have hnt := hI.1
  have hru := hV.1.1.2.2.2.2
  have hno : (lawAt tx (A 10 4)).2.1 = none → (σ 10 6 = swS A tx x1 ∧ Fr [37] σ σ) := fun h => by
    unfold swS
    rw [h]
    exact ⟨hV.2.1.1.2.1, Fr.rf _ _⟩
  rw [hru]
  refine ⟨fun h => ?_, fun h => ?_⟩
  · exact hno (by unfold lawAt; rw [if_neg (by omega)])
  · have hT := hV.2.2.2 (A 10 4).toNat (by omega)
    have hl : lawAt tx (A 10 4) = tx (A 10 4).toNat := by unfold lawAt; rw [if_pos h.1]
    have hL := hT.2.1
    unfold lawC at hL
    cases hc : (tx (A 10 4).toNat).2.1 with
    | none =>
      rw [hc] at hL
      exact ⟨fun h2 => absurd hL h2, fun _ => hno (by rw [hl, hc])⟩
    | some f =>
      rw [hc] at hL
      obtain ⟨q1, q2, q3, N, q4, q5⟩ := hL
      refine ⟨fun _ => ⟨N, f, ⟨q5, q4, q1, q2, ?_, by omega, by rw [hV.1.1.2.1]; omega, by rw [hV.1.1.1]; omega⟩, ?_⟩, fun h2 => ?_⟩
      · rw [envC_eq hV hr (by omega)]; exact envA_ok hI hr (by omega)
      · intro u σ1 hu hO1 ⟨eu, hF⟩
        refine ⟨?_, hF⟩
        unfold swS
        rw [hl, hc, eu, envC_eq hV hr (by omega)]
      · rw [h2] at q1; omega)

def agS (A : Mem) (tx : Nat → Txt) (t : Int) : Bool := (List.range (A 10 3).toNat).all (fun i => decide (skS A tx t (A 17 (i : Int)) (A 18 (i : Int)) = A 19 (i : Int)))
theorem agS_t {A : Mem} {tx : Nat → Txt} {t : Int} (h : ∀ i : Int, 0 ≤ i → i < A 10 3 → skS A tx t (A 17 i) (A 18 i) = A 19 i) : agS A tx t = true := by
  unfold agS
  rw [List.all_eq_true]
  intro i hi
  rw [List.mem_range] at hi
  exact decide_eq_true (h i (by omega) (by omega))
theorem agS_f {A : Mem} {tx : Nat → Txt} {t : Int} (i : Int) (h0 : 0 ≤ i) (h1 : i < A 10 3) (h : skS A tx t (A 17 i) (A 18 i) ≠ A 19 i) : agS A tx t = false := by
  unfold agS
  rw [List.all_eq_false]
  refine ⟨i.toNat, by rw [List.mem_range]; omega, ?_⟩
  rw [show ((i.toNat : Nat) : Int) = i by omega]
  simpa using h

def wp_X2_agrees (x1 : Int) (σ : Mem) (Q : Int → Mem → Prop) : Prop :=
 ∀ P2 : Int → Int → Mem → Prop,
 (∀ (v1 : Int) (v2 : Int) (σ : Mem), (R32 v1 → R32 v2 → OKm σ →
   (((σ 1 11) ≤ v2) →
     Q 1 σ) ∧
    ((v2 < (σ 1 11)) →
     (0 ≤ v2 ∧ v2 < 8) ∧
     (0 ≤ v2 ∧ v2 < 8) ∧
     ∃ g4 : Mem, ∃ g5 : Nat → Txt, (vwC σ g4 g5 ∧ (-1 ≤ v1 ∧ v1 < g4 10 2) ∧ (0 ≤ (σ 7 v2) ∧ (σ 7 v2) < g4 10 1) ∧ (0 ≤ (σ 8 v2) ∧ (σ 8 v2) < g4 10 0)) ∧
     ∀ (u10 : Int) (σ9 : Mem), R32 u10 → OKm σ9 → (u10 = skS g4 g5 v1 (σ 7 v2) (σ 8 v2) ∧ Fr [37] σ σ9) →
     (0 ≤ v2 ∧ v2 < 8) ∧
     ((u10 = (σ9 9 v2)) →
      R32 (v2 + 1) ∧ P2 v1 (v2 + 1) σ9) ∧
     ((u10 ≠ (σ9 9 v2)) →
      Q 0 σ9))) → P2 v1 v2 σ) →
  P2 x1 0 σ
theorem mt_X2_agrees {d : Nat} (hd : 4 ≤ d) {x1 : Int} {σ : Mem} {Q : Int → Mem → Prop} (hx1 : R32 x1) (hO : OKm σ) (h : wp_X2_agrees x1 σ Q) : Mt yX2_agrees cX2_agrees 3 (some .boolean) d [aR (36), aI (x1)] σ (QI Q) := by
  refine Mt.intro (by decide +kernel) (Nat.le_of_ble_eq_true rfl) [(0, aR (36)), (1, aI (x1))] rfl ?_
  unfold wp_X2_agrees at h
  have h := h (fun (v1 : Int) (v2 : Int) (σ : Mem) => R32 v1 → R32 v2 → OKm σ → G yX2_agrees cX2_agrees 3 (some .boolean) d (QI Q) 2 [(0, aR (36)), (1, aI (v1)), (2, aI (v2))] [] σ) ?_
  · refine G_iconst dX2_agrees_0 ?_
    refine G_istore_n (lv' := [(2, aI (0)), (0, aR (36)), (1, aI (x1))]) rfl rfl (by decide) dX2_agrees_1 ?_
    exact G_pick [1, 2, 0] rfl (h hx1 (rL 0 rfl) hO)
  · intro v1 v2 σ h hv1 hv2 hO
    have h := h hv1 hv2 hO
    refine G_iload_n 2 rfl rfl dX2_agrees_2 ?_
    refine G_aload_n 0 rfl rfl dX2_agrees_3 ?_
    refine G_get (k := 0) (kd := (2, 1)) (v := aR 1) gf_X2_15 rfl rfl rfl rfl dX2_agrees_4 ?_
    refine G_get (k := 11) (kd := (0, 0)) (v := aI (σ 1 11)) gf_X2_72 rfl rfl rfl rfl dX2_agrees_7 ?_
    refine G_icmp_ge hv2 (OKm.i hO 1 11 rfl) dX2_agrees_10 (tgt := 56) (by decide) (fun c1 => ?_) (fun c1 => ?_)
    · have h := h.1 c1
      refine G_iconst dX2_agrees_56 ?_
      exact G_zret rfl (by decide) dX2_agrees_57 ⟨_, rfl, h⟩ hO
    · have h := h.2 c1
      refine G_aload_n 0 rfl rfl dX2_agrees_13 ?_
      refine G_iload_n 1 rfl rfl dX2_agrees_14 ?_
      refine G_aload_n 0 rfl rfl dX2_agrees_15 ?_
      refine G_get (k := 0) (kd := (2, 1)) (v := aR 1) gf_X2_15 rfl rfl rfl rfl dX2_agrees_16 ?_
      refine G_get (k := 5) (kd := (3, 6)) (v := aR (7)) gf_X2_75 rfl rfl rfl rfl dX2_agrees_19 ?_
      refine G_iload_n 2 rfl rfl dX2_agrees_22 ?_
      obtain ⟨c2, h⟩ := h
      refine G_iald (n := 8) rfl c2.1 c2.2 dX2_agrees_23 ?_
      refine G_aload_n 0 rfl rfl dX2_agrees_24 ?_
      refine G_get (k := 0) (kd := (2, 1)) (v := aR 1) gf_X2_15 rfl rfl rfl rfl dX2_agrees_25 ?_
      refine G_get (k := 6) (kd := (3, 7)) (v := aR (8)) gf_X2_78 rfl rfl rfl rfl dX2_agrees_28 ?_
      refine G_iload_n 2 rfl rfl dX2_agrees_31 ?_
      obtain ⟨c3, h⟩ := h
      refine G_iald (n := 8) rfl c3.1 c3.2 dX2_agrees_32 ?_
      obtain ⟨g4, g5, c6, h⟩ := h
      refine G_callV (as := [_, _, _]) cf_X2_81 rfl rfl rfl (sp_X2_sucking (d - 1) (by omega) _ hO _ hv1 _ (OKm.i hO 7 v2 (isLg_row (show shp 7 = (1, 8, []) from rfl) _)) _ (OKm.i hO 8 v2 (isLg_row (show shp 8 = (1, 8, []) from rfl) _)) g4 g5 c6) (by omega) rfl rfl (Nat.le_of_ble_eq_true rfl) dX2_agrees_33 ?_
      rintro _ σ9 ⟨u10, rfl, z11⟩ o8 r7
      have h := h _ _ (r7 _ rfl) o8 z11
      refine G_aload_n 0 rfl rfl dX2_agrees_36 ?_
      refine G_get (k := 0) (kd := (2, 1)) (v := aR 1) gf_X2_15 rfl rfl rfl rfl dX2_agrees_37 ?_
      refine G_get (k := 7) (kd := (3, 8)) (v := aR (9)) gf_X2_85 rfl rfl rfl rfl dX2_agrees_40 ?_
      refine G_iload_n 2 rfl rfl dX2_agrees_43 ?_
      obtain ⟨c12, h⟩ := h
      refine G_iald (n := 8) rfl c12.1 c12.2 dX2_agrees_44 ?_
      refine G_icmp_eq (r7 _ rfl) (OKm.i o8 9 v2 (isLg_row (show shp 9 = (1, 8, []) from rfl) _)) dX2_agrees_45 (tgt := 50) (by decide) (fun c13 => ?_) (fun c13 => ?_)
      · have h := h.1 c13
        refine G_iinc (lv' := [(2, aI ((v2 + 1))), (0, aR (36)), (1, aI (v1))]) (k := 2) rfl rfl (by decide) dX2_agrees_50 ?_
        refine G_goto (tgt := 2) dX2_agrees_53 (by decide) ?_
        obtain ⟨c14, h⟩ := h
        exact G_pick [1, 2, 0] rfl (h hv1 c14 o8)
      · have h := h.2 c13
        refine G_iconst dX2_agrees_48 ?_
        exact G_zret rfl (by decide) dX2_agrees_49 ⟨_, rfl, h⟩ o8

theorem sp_X2_agrees (d : Nat) (hd : 4 ≤ d) (σ : Mem) (hO : OKm σ) (x1 : Int) (hx1 : R32 x1) (A : Mem) (tx : Nat → Txt) (hpre : vwC σ A tx ∧ (-1 ≤ x1 ∧ x1 < A 10 2)) : Mt yX2_agrees cX2_agrees 3 (some .boolean) d [aR (36), aI (x1)] σ (QI (fun v σ' => v = (if agS A tx x1 then 1 else 0) ∧ Fr [37] σ σ')) := mt_X2_agrees hd hx1 hO (by
  unfold wp_X2_agrees
  intro P2 h2
  obtain ⟨hV, hx1r⟩ := hpre
  have hIA := hV.2.2.1
  have hns := hIA.1
  have H : ∀ (n : Nat) (k : Int) (τ : Mem), k + n = A 10 3 → (0 ≤ k ∧ (∀ i : Int, 0 ≤ i → i < k → skS A tx x1 (A 17 i) (A 18 i) = A 19 i) ∧ Fr [37] σ τ) → P2 x1 k τ := by
    intro n
    induction n with
    | zero =>
      intro k τ hk hI
      refine h2 _ _ _ (fun _ _ hOt => ?_)
      refine ⟨fun hh => ?_, fun hh => absurd hh (by rw [hI.2.2 1 (by simp), hV.1.1.2.2.2.1]; omega)⟩
      exact ⟨by rw [agS_t (fun i h1 h2 => hI.2.1 i h1 (by omega))]; rfl, hI.2.2⟩
    | succ n ih =>
      intro k τ hk hI
      refine h2 _ _ _ (fun _ _ hOt => ?_)
      refine ⟨fun hh => absurd hh (by rw [hI.2.2 1 (by simp), hV.1.1.2.2.2.1]; omega), fun hh => ?_⟩
      have hVt := hV.fr (fr37 hI.2.2)
      have hs := hVt.1.2.2.2 k (by omega) (by omega)
      have hq := hIA.2.2.2.2.2 k (by omega) (by omega)
      have s7 : τ 7 k = A 17 k := hs.1
      have s8 : τ 8 k = A 18 k := hs.2.1
      have s9 : τ 9 k = A 19 k := hs.2.2
      rw [s7, s8]
      refine ⟨by omega, by omega, A, tx, ⟨hVt, by omega, by omega, by omega⟩, ?_⟩
      intro u σ1 hu hO1 ⟨eu, hF⟩
      have e9 : σ1 9 k = A 19 k := by rw [hF 9 (by simp)]; exact s9
      rw [e9]
      refine ⟨by omega, fun h => ?_, fun h => ?_⟩
      · refine ⟨by unfold R32; omega, ih _ _ (by omega) ⟨by omega, fun i h1 h2 => ?_, hI.2.2.tr hF⟩⟩
        by_cases e : i = k
        · subst e; rw [← eu]; exact h
        · exact hI.2.1 i h1 (by omega)
      · exact ⟨by rw [agS_f k (by omega) (by omega) (by rw [← eu]; exact h)]; rfl, hI.2.2.tr hF⟩
  exact H (A 10 3).toNat 0 σ (by omega) ⟨by omega, fun i h1 h2 => by omega, Fr.rf _ _⟩)
