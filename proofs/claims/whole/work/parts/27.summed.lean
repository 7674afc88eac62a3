/-! THE REFERENCE'S LAWS: stretches of its code, with a pile of values and a pile of truths. -/
def tb (m : Int) (ts : Int → Int) : Prop := ∀ j : Int, 0 ≤ j → j < m → ts j = 0 ∨ ts j = 1
theorem tb.push {m : Int} {ts : Int → Int} {v : Int} (h : tb m ts) (hv : v = 0 ∨ v = 1) : tb (m + 1) (iset ts m v) := by
  intro j h0 h1
  by_cases e : j = m
  · rw [iset_hit e]; exact hv
  · rw [iset_miss e]; exact h j h0 (by omega)
theorem tb.repl {m i : Int} {ts : Int → Int} {v : Int} (h : tb m ts) (hv : v = 0 ∨ v = 1) : tb m (iset ts i v) := by
  intro j h0 h1
  by_cases e : j = i
  · rw [iset_hit e]; exact hv
  · rw [iset_miss e]; exact h j h0 h1
theorem tb.less {k k' : Int} {s : Int → Int} (h : tb k s) (hk : k' ≤ k) : tb k' s := fun j h0 h1 => h j h0 (by omega)
abbrev Phi : Type := Int → Int → Int → (Int → Int) → (Int → Int) → Prop
def andI (o x y : Int) : Int := if o = 21 then bI (x ≠ 0 ∧ y ≠ 0) else bI (x ≠ 0 ∨ y ≠ 0)
def BackM (cd ov : Int → Int) (e : Env) (lo hi : Int) (Φ : Phi) : Prop :=
  (∀ a n m vs ts, lo ≤ a → a < hi → 0 ≤ n → n < 330 → 0 ≤ m → m ≤ 330 → bdd n vs → tb m ts → cd a = 0 → Φ (a + 1) (n + 1) m (iset vs n (ov a)) ts → Φ a n m vs ts) ∧
  (∀ a n m vs ts, lo ≤ a → a < hi → 0 ≤ n → n < 330 → 0 ≤ m → m ≤ 330 → bdd n vs → tb m ts → cd a = 1 → 0 ≤ ov a → ov a ≤ 8 → Φ (a + 1) (n + 1) m (iset vs n (e.1 (ov a))) ts → Φ a n m vs ts) ∧
  (∀ a n m vs ts, lo ≤ a → a < hi → 1 ≤ n → n ≤ 330 → 0 ≤ m → m ≤ 330 → bdd n vs → tb m ts → (cd a = 5 ∨ cd a = 2) → Φ (a + 1) n m (iset vs (n - 1) (if cd a = 5 then -(vs (n - 1)) else e.2 (vs (n - 1)))) ts → Φ a n m vs ts) ∧
  (∀ a n m vs ts, lo ≤ a → a < hi → 2 ≤ n → n ≤ 330 → 1 ≤ m → m ≤ 330 → bdd n vs → tb m ts → cd a = 3 → Φ (a + 1) (n - 1) (m - 1) (if ts (m - 1) = 0 then iset vs (n - 2) (vs (n - 1)) else vs) ts → Φ a n m vs ts) ∧
  (∀ a n m vs ts, lo ≤ a → a < hi → 2 ≤ n → n ≤ 330 → 0 ≤ m → m ≤ 330 → bdd n vs → tb m ts → (cd a = 4 ∨ 6 ≤ cd a ∧ cd a ≤ 9) → Φ (a + 1) (n - 1) m (iset vs (n - 2) (if cd a = 4 then gcdI (iabs (vs (n - 2))) (iabs (vs (n - 1))) else two' (cd a) (vs (n - 2)) (vs (n - 1)))) ts → Φ a n m vs ts) ∧
  (∀ a n m vs ts, lo ≤ a → a < hi → 2 ≤ n → n ≤ 330 → 0 ≤ m → m < 330 → bdd n vs → tb m ts → (10 ≤ cd a ∧ cd a ≤ 15) → Φ (a + 1) (n - 2) (m + 1) vs (iset ts m (askI (cd a) (vs (n - 2)) (vs (n - 1)))) → Φ a n m vs ts) ∧
  (∀ a n m vs ts, lo ≤ a → a < hi → 0 ≤ n → n ≤ 330 → 1 ≤ m → m ≤ 330 → bdd n vs → tb m ts → cd a = 20 → Φ (a + 1) n m vs (iset ts (m - 1) (if ts (m - 1) = 0 then 1 else 0)) → Φ a n m vs ts) ∧
  (∀ a n m vs ts, lo ≤ a → a < hi → 0 ≤ n → n ≤ 330 → 2 ≤ m → m ≤ 330 → bdd n vs → tb m ts → (cd a = 21 ∨ cd a = 22) → Φ (a + 1) n (m - 1) vs (iset ts (m - 2) (andI (cd a) (ts (m - 2)) (ts (m - 1)))) → Φ a n m vs ts)
theorem BackM.sub {cd ov : Int → Int} {e : Env} {lo hi lo' hi' : Int} {Φ : Phi} (h : BackM cd ov e lo hi Φ) (h1 : lo ≤ lo') (h2 : hi' ≤ hi) : BackM cd ov e lo' hi' Φ :=
  ⟨fun a n m vs ts q1 q2 => h.1 a n m vs ts (by omega) (by omega), fun a n m vs ts q1 q2 => h.2.1 a n m vs ts (by omega) (by omega), fun a n m vs ts q1 q2 => h.2.2.1 a n m vs ts (by omega) (by omega), fun a n m vs ts q1 q2 => h.2.2.2.1 a n m vs ts (by omega) (by omega), fun a n m vs ts q1 q2 => h.2.2.2.2.1 a n m vs ts (by omega) (by omega), fun a n m vs ts q1 q2 => h.2.2.2.2.2.1 a n m vs ts (by omega) (by omega), fun a n m vs ts q1 q2 => h.2.2.2.2.2.2.1 a n m vs ts (by omega) (by omega), fun a n m vs ts q1 q2 => h.2.2.2.2.2.2.2 a n m vs ts (by omega) (by omega)⟩
theorem BackM.congr {cd ov cd' ov' : Int → Int} {e : Env} {lo hi : Int} {Φ : Phi} (h : BackM cd' ov' e lo hi Φ) (hc : ∀ i, lo ≤ i → i < hi → cd' i = cd i ∧ ov' i = ov i) : BackM cd ov e lo hi Φ := by
  unfold BackM at *
  refine ⟨fun a n m vs ts q1 q2 => ?_, fun a n m vs ts q1 q2 => ?_, fun a n m vs ts q1 q2 => ?_, fun a n m vs ts q1 q2 => ?_, fun a n m vs ts q1 q2 => ?_, fun a n m vs ts q1 q2 => ?_, fun a n m vs ts q1 q2 => ?_, fun a n m vs ts q1 q2 => ?_⟩ <;> rw [← (hc a q1 q2).1] <;> (try rw [← (hc a q1 q2).2])
  · exact h.1 a n m vs ts q1 q2
  · exact h.2.1 a n m vs ts q1 q2
  · exact h.2.2.1 a n m vs ts q1 q2
  · exact h.2.2.2.1 a n m vs ts q1 q2
  · exact h.2.2.2.2.1 a n m vs ts q1 q2
  · exact h.2.2.2.2.2.1 a n m vs ts q1 q2
  · exact h.2.2.2.2.2.2.1 a n m vs ts q1 q2
  · exact h.2.2.2.2.2.2.2 a n m vs ts q1 q2
def FM (cd ov : Int → Int) (a b : Int) (f : Env → Int) : Prop :=
  a < b ∧ ∀ (e : Env) (Φ : Phi), okE e → BackM cd ov e a b Φ → ∀ (n m : Int) (vs ts : Int → Int), 0 ≤ n → 0 ≤ m → n + (b - a) ≤ 330 → m + (b - a) ≤ 330 → bdd n vs → tb m ts →
    (∀ vs' ts', bdd (n + 1) vs' → tb m ts' → vs' n = f e → (∀ j, 0 ≤ j → j < n → vs' j = vs j) → (∀ j, 0 ≤ j → j < m → ts' j = ts j) → Φ b (n + 1) m vs' ts') → Φ a n m vs ts
def FB (cd ov : Int → Int) (a b : Int) (f : Env → Int) : Prop :=
  a < b ∧ ∀ (e : Env) (Φ : Phi), okE e → BackM cd ov e a b Φ → ∀ (n m : Int) (vs ts : Int → Int), 0 ≤ n → 0 ≤ m → n + (b - a) ≤ 330 → m + (b - a) ≤ 330 → bdd n vs → tb m ts →
    (∀ vs' ts', bdd n vs' → tb (m + 1) ts' → ts' m = f e → (∀ j, 0 ≤ j → j < n → vs' j = vs j) → (∀ j, 0 ≤ j → j < m → ts' j = ts j) → Φ b n (m + 1) vs' ts') → Φ a n m vs ts
theorem FM.congr {cd ov cd' ov' : Int → Int} {a b : Int} {f : Env → Int} (h : FM cd ov a b f) (hc : ∀ i, a ≤ i → i < b → cd' i = cd i ∧ ov' i = ov i) : FM cd' ov' a b f := ⟨h.1, fun e Φ he hB => h.2 e Φ he (hB.congr hc)⟩
theorem FB.congr {cd ov cd' ov' : Int → Int} {a b : Int} {f : Env → Int} (h : FB cd ov a b f) (hc : ∀ i, a ≤ i → i < b → cd' i = cd i ∧ ov' i = ov i) : FB cd' ov' a b f := ⟨h.1, fun e Φ he hB => h.2 e Φ he (hB.congr hc)⟩
theorem FM.num {cd ov : Int → Int} {a : Int} (h : cd a = 0) (hv : Mil (ov a)) : FM cd ov a (a + 1) (fun _ => ov a) :=
  ⟨by omega, fun e Φ he hB n m vs ts h0 h1 h2 h3 hs ht c => hB.1 a n m vs ts (by omega) (by omega) h0 (by omega) h1 (by omega) hs ht h (c _ _ (hs.push hv) ht (iset_hit rfl) (fun j _ hj => iset_miss (by omega)) (fun _ _ _ => rfl))⟩
theorem FM.name {cd ov : Int → Int} {a : Int} (h : cd a = 1) (hv : 0 ≤ ov a ∧ ov a ≤ 8) : FM cd ov a (a + 1) (fun e => e.1 (ov a)) :=
  ⟨by omega, fun e Φ he hB n m vs ts h0 h1 h2 h3 hs ht c => hB.2.1 a n m vs ts (by omega) (by omega) h0 (by omega) h1 (by omega) hs ht h hv.1 hv.2 (c _ _ (hs.push (he.1 _ hv.1 hv.2)) ht (iset_hit rfl) (fun j _ hj => iset_miss (by omega)) (fun _ _ _ => rfl))⟩
theorem FM.alone {cd ov : Int → Int} {a b : Int} {f : Env → Int} (hf : FM cd ov a b f) (h : cd b = 5 ∨ cd b = 2) (hb : ∀ e, okE e → Mil (if cd b = 5 then -(f e) else e.2 (f e))) : FM cd ov a (b + 1) (fun e => if cd b = 5 then -(f e) else e.2 (f e)) := by
  have q := hf.1
  refine ⟨by omega, fun e Φ he hB n m vs ts h0 h1 h2 h3 hs ht c => ?_⟩
  refine hf.2 e Φ he (hB.sub (by omega) (by omega)) n m vs ts h0 h1 (by omega) (by omega) hs ht (fun v1 t1 b1 b2 e1 e2 e3 => ?_)
  refine hB.2.2.1 b (n + 1) m v1 t1 (by omega) (by omega) (by omega) (by omega) h1 (by omega) b1 b2 h ?_
  rw [show n + 1 - 1 = n by omega, e1]
  exact c _ _ (b1.repl (hb e he)) b2 (iset_hit rfl) (fun j q1 q2 => by rw [iset_miss (by omega)]; exact e2 j q1 q2) e3
theorem FM.join {cd ov : Int → Int} {a b c : Int} {f g : Env → Int} (hf : FM cd ov a b f) (hg : FM cd ov b c g) (h : cd c = 4 ∨ 6 ≤ cd c ∧ cd c ≤ 9) (hb : ∀ e, okE e → Mil (if cd c = 4 then gcdI (iabs (f e)) (iabs (g e)) else two' (cd c) (f e) (g e))) : FM cd ov a (c + 1) (fun e => if cd c = 4 then gcdI (iabs (f e)) (iabs (g e)) else two' (cd c) (f e) (g e)) := by
  have q := hf.1
  have q' := hg.1
  refine ⟨by omega, fun e Φ he hB n m vs ts h0 h1 h2 h3 hs ht cont => ?_⟩
  refine hf.2 e Φ he (hB.sub (by omega) (by omega)) n m vs ts h0 h1 (by omega) (by omega) hs ht (fun v1 t1 b1 b2 e1 e2 e3 => ?_)
  refine hg.2 e Φ he (hB.sub (by omega) (by omega)) (n + 1) m v1 t1 (by omega) h1 (by omega) (by omega) b1 b2 (fun v2 t2 b3 b4 e4 e5 e6 => ?_)
  refine hB.2.2.2.2.1 c (n + 1 + 1) m v2 t2 (by omega) (by omega) (by omega) (by omega) h1 (by omega) b3 b4 h ?_
  rw [show n + 1 + 1 - 2 = n by omega, show n + 1 + 1 - 1 = n + 1 by omega, e4, e5 n h0 (by omega), e1]
  exact cont _ _ ((b3.less (by omega)).repl (hb e he)) b4 (iset_hit rfl) (fun j q1 q2 => by rw [iset_miss (by omega), e5 j q1 (by omega)]; exact e2 j q1 q2) (fun j q1 q2 => by rw [e6 j q1 q2]; exact e3 j q1 q2)
theorem askI_01 (o x y : Int) : askI o x y = 0 ∨ askI o x y = 1 := by unfold askI bI; (repeat' split) <;> simp
theorem andI_01 (o x y : Int) : andI o x y = 0 ∨ andI o x y = 1 := by unfold andI bI; (repeat' split) <;> simp
theorem FB.cmp {cd ov : Int → Int} {a b c : Int} {f g : Env → Int} (hf : FM cd ov a b f) (hg : FM cd ov b c g) (h : 10 ≤ cd c ∧ cd c ≤ 15) : FB cd ov a (c + 1) (fun e => askI (cd c) (f e) (g e)) := by
  have q := hf.1
  have q' := hg.1
  refine ⟨by omega, fun e Φ he hB n m vs ts h0 h1 h2 h3 hs ht cont => ?_⟩
  refine hf.2 e Φ he (hB.sub (by omega) (by omega)) n m vs ts h0 h1 (by omega) (by omega) hs ht (fun v1 t1 b1 b2 e1 e2 e3 => ?_)
  refine hg.2 e Φ he (hB.sub (by omega) (by omega)) (n + 1) m v1 t1 (by omega) h1 (by omega) (by omega) b1 b2 (fun v2 t2 b3 b4 e4 e5 e6 => ?_)
  refine hB.2.2.2.2.2.1 c (n + 1 + 1) m v2 t2 (by omega) (by omega) (by omega) (by omega) h1 (by omega) b3 b4 h ?_
  rw [show n + 1 + 1 - 2 = n by omega, show n + 1 + 1 - 1 = n + 1 by omega, e4, e5 n h0 (by omega), e1]
  exact cont _ _ (b3.less (by omega)) (b4.push (askI_01 _ _ _)) (iset_hit rfl) (fun j q1 q2 => by rw [e5 j q1 (by omega)]; exact e2 j q1 q2) (fun j q1 q2 => by rw [iset_miss (by omega), e6 j q1 q2]; exact e3 j q1 q2)
theorem FB.not {cd ov : Int → Int} {a b : Int} {f : Env → Int} (hf : FB cd ov a b f) (h : cd b = 20) : FB cd ov a (b + 1) (fun e => if f e = 0 then 1 else 0) := by
  have q := hf.1
  refine ⟨by omega, fun e Φ he hB n m vs ts h0 h1 h2 h3 hs ht c => ?_⟩
  refine hf.2 e Φ he (hB.sub (by omega) (by omega)) n m vs ts h0 h1 (by omega) (by omega) hs ht (fun v1 t1 b1 b2 e1 e2 e3 => ?_)
  refine hB.2.2.2.2.2.2.1 b n (m + 1) v1 t1 (by omega) (by omega) h0 (by omega) (by omega) (by omega) b1 b2 h ?_
  rw [show m + 1 - 1 = m by omega, e1]
  exact c _ _ b1 (b2.repl (by split <;> simp)) (iset_hit rfl) e2 (fun j q1 q2 => by rw [iset_miss (by omega)]; exact e3 j q1 q2)
theorem FB.and {cd ov : Int → Int} {a b c : Int} {f g : Env → Int} (hf : FB cd ov a b f) (hg : FB cd ov b c g) (h : cd c = 21 ∨ cd c = 22) : FB cd ov a (c + 1) (fun e => andI (cd c) (f e) (g e)) := by
  have q := hf.1
  have q' := hg.1
  refine ⟨by omega, fun e Φ he hB n m vs ts h0 h1 h2 h3 hs ht cont => ?_⟩
  refine hf.2 e Φ he (hB.sub (by omega) (by omega)) n m vs ts h0 h1 (by omega) (by omega) hs ht (fun v1 t1 b1 b2 e1 e2 e3 => ?_)
  refine hg.2 e Φ he (hB.sub (by omega) (by omega)) n (m + 1) v1 t1 (by omega) (by omega) (by omega) (by omega) b1 b2 (fun v2 t2 b3 b4 e4 e5 e6 => ?_)
  refine hB.2.2.2.2.2.2.2 c n (m + 1 + 1) v2 t2 (by omega) (by omega) h0 (by omega) (by omega) (by omega) b3 b4 h ?_
  rw [show m + 1 + 1 - 2 = m by omega, show m + 1 + 1 - 1 = m + 1 by omega, e4, e6 m h1 (by omega), e1]
  exact cont _ _ b3 ((b4.less (by omega)).repl (andI_01 _ _ _)) (iset_hit rfl) (fun j q1 q2 => by rw [e5 j q1 q2]; exact e2 j q1 q2) (fun j q1 q2 => by rw [iset_miss (by omega), e6 j q1 (by omega)]; exact e3 j q1 q2)
theorem FM.select {cd ov : Int → Int} {a b c d : Int} {f g q : Env → Int} (hq : FB cd ov a b q) (hf : FM cd ov b c f) (hg : FM cd ov c d g) (h : cd d = 3) : FM cd ov a (d + 1) (fun e => if q e = 0 then g e else f e) := by
  have q1 := hq.1
  have q2 := hf.1
  have q3 := hg.1
  refine ⟨by omega, fun e Φ he hB n m vs ts h0 h1 h2 h3 hs ht cont => ?_⟩
  refine hq.2 e Φ he (hB.sub (by omega) (by omega)) n m vs ts h0 h1 (by omega) (by omega) hs ht (fun v0 t0 b1 b2 e1 e2 e3 => ?_)
  refine hf.2 e Φ he (hB.sub (by omega) (by omega)) n (m + 1) v0 t0 h0 (by omega) (by omega) (by omega) b1 b2 (fun v1 t1 b3 b4 e4 e5 e6 => ?_)
  refine hg.2 e Φ he (hB.sub (by omega) (by omega)) (n + 1) (m + 1) v1 t1 (by omega) (by omega) (by omega) (by omega) b3 b4 (fun v2 t2 b5 b6 e7 e8 e9 => ?_)
  refine hB.2.2.2.1 d (n + 1 + 1) (m + 1) v2 t2 (by omega) (by omega) (by omega) (by omega) (by omega) (by omega) b5 b6 h ?_
  rw [show n + 1 + 1 - 2 = n by omega, show n + 1 + 1 - 1 = n + 1 by omega, show m + 1 - 1 = m by omega, e9 m h1 (by omega), e6 m h1 (by omega), e1, e7]
  have k2 : ∀ j, 0 ≤ j → j < m → t2 j = ts j := fun j z1 z2 => by rw [e9 j z1 (by omega), e6 j z1 (by omega)]; exact e3 j z1 z2
  have k1 : ∀ j, 0 ≤ j → j < n → v2 j = vs j := fun j z1 z2 => by rw [e8 j z1 (by omega), e5 j z1 (by omega)]; exact e2 j z1 z2
  by_cases hz : q e = 0
  · rw [if_pos hz]
    refine cont _ _ ((b5.less (by omega)).repl ?_) (b6.less (by omega)) ?_ (fun j z1 z2 => by rw [iset_miss (by omega)]; exact k1 j z1 z2) k2
    · have := b5 (n + 1) (by omega) (by omega); rw [e7] at this; exact this
    · rw [iset_hit rfl]; simp only [if_pos hz]
  · rw [if_neg hz]
    refine cont _ _ (b5.less (by omega)) (b6.less (by omega)) ?_ k1 k2
    rw [e8 n h0 (by omega), e4]; simp only [if_neg hz]
