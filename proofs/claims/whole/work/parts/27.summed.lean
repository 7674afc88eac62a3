/-! THE REFERENCE'S LAWS: stretches of its code, with a pile of values and a pile of truths. -/
def tb (m : Int) (ts : Int → Int) : Prop := ∀ j : Int, 0 ≤ j → j < m → ts j = 0 ∨ ts j = 1
theorem tb.push {m : Int} {ts : Int → Int} {v : Int} (h : tb m ts) (hv : v = 0 ∨ v = 1) : tb (m + 1) (iset ts m v) := by
  intro j h0 h1
  by_cases e : j = m
  · rw [iset_hit e]; exact hv
  · rw [iset_miss e]; exact h j h0 (by omega)
theorem tb.repl {m i : Int} {ts : Int → Int} {v : Int} (h : tb m ts) (hv : v = 0 ∨ v = 1) : tb m (iset ts i v) := by
  intro j h0 h1
  by_cases e : j = i
  · rw [iset_hit e]; exact hv
  · rw [iset_miss e]; exact h j h0 h1
theorem tb.less {k k' : Int} {s : Int → Int} (h : tb k s) (hk : k' ≤ k) : tb k' s := fun j h0 h1 => h j h0 (by omega)
abbrev Phi : Type := Int → Int → Int → (Int → Int) → (Int → Int) → Prop
def andI (o x y : Int) : Int := if o = 21 then bI (x ≠ 0 ∧ y ≠ 0) else bI (x ≠ 0 ∨ y ≠ 0)
def BackM (cd ov : Int → Int) (e : Env) (lo hi : Int) (Φ : Phi) : Prop :=
  (∀ a n m vs ts, lo ≤ a → a < hi → 0 ≤ n → n < 330 → 0 ≤ m → m ≤ 330 → bdd n vs → tb m ts → cd a = 0 → Φ (a + 1) (n + 1) m (iset vs n (ov a)) ts → Φ a n m vs ts) ∧
  (∀ a n m vs ts, lo ≤ a → a < hi → 0 ≤ n → n < 330 → 0 ≤ m → m ≤ 330 → bdd n vs → tb m ts → cd a = 1 → 0 ≤ ov a → ov a ≤ 8 → Φ (a + 1) (n + 1) m (iset vs n (e.1 (ov a))) ts → Φ a n m vs ts) ∧
  (∀ a n m vs ts, lo ≤ a → a < hi → 1 ≤ n → n ≤ 330 → 0 ≤ m → m ≤ 330 → bdd n vs → tb m ts → (cd a = 5 ∨ cd a = 2) → Φ (a + 1) n m (iset vs (n - 1) (if cd a = 5 then -(vs (n - 1)) else e.2 (vs (n - 1)))) ts → Φ a n m vs ts) ∧
  (∀ a n m vs ts, lo ≤ a → a < hi → 2 ≤ n → n ≤ 330 → 1 ≤ m → m ≤ 330 → bdd n vs → tb m ts → cd a = 3 → Φ (a + 1) (n - 1) (m - 1) (if ts (m - 1) = 0 then iset vs (n - 2) (vs (n - 1)) else vs) ts → Φ a n m vs ts) ∧
  (∀ a n m vs ts, lo ≤ a → a < hi → 2 ≤ n → n ≤ 330 → 0 ≤ m → m ≤ 330 → bdd n vs → tb m ts → (cd a = 4 ∨ 6 ≤ cd a ∧ cd a ≤ 9) → Φ (a + 1) (n - 1) m (iset vs (n - 2) (if cd a = 4 then gcdI (iabs (vs (n - 2))) (iabs (vs (n - 1))) else two' (cd a) (vs (n - 2)) (vs (n - 1)))) ts → Φ a n m vs ts) ∧
  (∀ a n m vs ts, lo ≤ a → a < hi → 2 ≤ n → n ≤ 330 → 0 ≤ m → m < 330 → bdd n vs → tb m ts → (10 ≤ cd a ∧ cd a ≤ 15) → Φ (a + 1) (n - 2) (m + 1) vs (iset ts m (askI (cd a) (vs (n - 2)) (vs (n - 1)))) → Φ a n m vs ts) ∧
  (∀ a n m vs ts, lo ≤ a → a < hi → 0 ≤ n → n ≤ 330 → 1 ≤ m → m ≤ 330 → bdd n vs → tb m ts → cd a = 20 → Φ (a + 1) n m vs (iset ts (m - 1) (if ts (m - 1) = 0 then 1 else 0)) → Φ a n m vs ts) ∧
  (∀ a n m vs ts, lo ≤ a → a < hi → 0 ≤ n → n ≤ 330 → 2 ≤ m → m ≤ 330 → bdd n vs → tb m ts → (cd a = 21 ∨ cd a = 22) → Φ (a + 1) n (m - 1) vs (iset ts (m - 2) (andI (cd a) (ts (m - 2)) (ts (m - 1)))) → Φ a n m vs ts)
theorem BackM.sub {cd ov : Int → Int} {e : Env} {lo hi lo' hi' : Int} {Φ : Phi} (h : BackM cd ov e lo hi Φ) (h1 : lo ≤ lo') (h2 : hi' ≤ hi) : BackM cd ov e lo' hi' Φ :=
  ⟨fun a n m vs ts q1 q2 => h.1 a n m vs ts (by omega) (by omega), fun a n m vs ts q1 q2 => h.2.1 a n m vs ts (by omega) (by omega), fun a n m vs ts q1 q2 => h.2.2.1 a n m vs ts (by omega) (by omega), fun a n m vs ts q1 q2 => h.2.2.2.1 a n m vs ts (by omega) (by omega), fun a n m vs ts q1 q2 => h.2.2.2.2.1 a n m vs ts (by omega) (by omega), fun a n m vs ts q1 q2 => h.2.2.2.2.2.1 a n m vs ts (by omega) (by omega), fun a n m vs ts q1 q2 => h.2.2.2.2.2.2.1 a n m vs ts (by omega) (by omega), fun a n m vs ts q1 q2 => h.2.2.2.2.2.2.2 a n m vs ts (by omega) (by omega)⟩
theorem BackM.congr {cd ov cd' ov' : Int → Int} {e : Env} {lo hi : Int} {Φ : Phi} (h : BackM cd' ov' e lo hi Φ) (hc : ∀ i, lo ≤ i → i < hi → cd' i = cd i ∧ ov' i = ov i) : BackM cd ov e lo hi Φ := by
  unfold BackM at *
  refine ⟨fun a n m vs ts q1 q2 => ?_, fun a n m vs ts q1 q2 => ?_, fun a n m vs ts q1 q2 => ?_, fun a n m vs ts q1 q2 => ?_, fun a n m vs ts q1 q2 => ?_, fun a n m vs ts q1 q2 => ?_, fun a n m vs ts q1 q2 => ?_, fun a n m vs ts q1 q2 => ?_⟩ <;> rw [← (hc a q1 q2).1] <;> (try rw [← (hc a q1 q2).2])
  · exact h.1 a n m vs ts q1 q2
  · exact h.2.1 a n m vs ts q1 q2
  · exact h.2.2.1 a n m vs ts q1 q2
  · exact h.2.2.2.1 a n m vs ts q1 q2
  · exact h.2.2.2.2.1 a n m vs ts q1 q2
  · exact h.2.2.2.2.2.1 a n m vs ts q1 q2
  · exact h.2.2.2.2.2.2.1 a n m vs ts q1 q2
  · exact h.2.2.2.2.2.2.2 a n m vs ts q1 q2
def FM (cd ov : Int → Int) (a b : Int) (f : Env → Int) : Prop :=
  a < b ∧ ∀ (e : Env) (Φ : Phi), okE e → BackM cd ov e a b Φ → ∀ (n m : Int) (vs ts : Int → Int), 0 ≤ n → 0 ≤ m → n + (b - a) ≤ 330 → m + (b - a) ≤ 330 → bdd n vs → tb m ts →
    (∀ vs' ts', bdd (n + 1) vs' → tb m ts' → vs' n = f e → (∀ j, 0 ≤ j → j < n → vs' j = vs j) → (∀ j, 0 ≤ j → j < m → ts' j = ts j) → Φ b (n + 1) m vs' ts') → Φ a n m vs ts
def FB (cd ov : Int → Int) (a b : Int) (f : Env → Int) : Prop :=
  a < b ∧ ∀ (e : Env) (Φ : Phi), okE e → BackM cd ov e a b Φ → ∀ (n m : Int) (vs ts : Int → Int), 0 ≤ n → 0 ≤ m → n + (b - a) ≤ 330 → m + (b - a) ≤ 330 → bdd n vs → tb m ts →
    (∀ vs' ts', bdd n vs' → tb (m + 1) ts' → ts' m = f e → (∀ j, 0 ≤ j → j < n → vs' j = vs j) → (∀ j, 0 ≤ j → j < m → ts' j = ts j) → Φ b n (m + 1) vs' ts') → Φ a n m vs ts
theorem FM.congr {cd ov cd' ov' : Int → Int} {a b : Int} {f : Env → Int} (h : FM cd ov a b f) (hc : ∀ i, a ≤ i → i < b → cd' i = cd i ∧ ov' i = ov i) : FM cd' ov' a b f := ⟨h.1, fun e Φ he hB => h.2 e Φ he (hB.congr hc)⟩
theorem FB.congr {cd ov cd' ov' : Int → Int} {a b : Int} {f : Env → Int} (h : FB cd ov a b f) (hc : ∀ i, a ≤ i → i < b → cd' i = cd i ∧ ov' i = ov i) : FB cd' ov' a b f := ⟨h.1, fun e Φ he hB => h.2 e Φ he (hB.congr hc)⟩
theorem FM.num {cd ov : Int → Int} {a : Int} (h : cd a = 0) (hv : Mil (ov a)) : FM cd ov a (a + 1) (fun _ => ov a) :=
  ⟨by omega, fun e Φ he hB n m vs ts h0 h1 h2 h3 hs ht c => hB.1 a n m vs ts (by omega) (by omega) h0 (by omega) h1 (by omega) hs ht h (c _ _ (hs.push hv) ht (iset_hit rfl) (fun j _ hj => iset_miss (by omega)) (fun _ _ _ => rfl))⟩
theorem FM.name {cd ov : Int → Int} {a : Int} (h : cd a = 1) (hv : 0 ≤ ov a ∧ ov a ≤ 8) : FM cd ov a (a + 1) (fun e => e.1 (ov a)) :=
  ⟨by omega, fun e Φ he hB n m vs ts h0 h1 h2 h3 hs ht c => hB.2.1 a n m vs ts (by omega) (by omega) h0 (by omega) h1 (by omega) hs ht h hv.1 hv.2 (c _ _ (hs.push (he.1 _ hv.1 hv.2)) ht (iset_hit rfl) (fun j _ hj => iset_miss (by omega)) (fun _ _ _ => rfl))⟩
theorem FM.alone {cd ov : Int → Int} {a b : Int} {f : Env → Int} (hf : FM cd ov a b f) (h : cd b = 5 ∨ cd b = 2) (hb : ∀ e, okE e → Mil (if cd b = 5 then -(f e) else e.2 (f e))) : FM cd ov a (b + 1) (fun e => if cd b = 5 then -(f e) else e.2 (f e)) := by
  have q := hf.1
  refine ⟨by omega, fun e Φ he hB n m vs ts h0 h1 h2 h3 hs ht c => ?_⟩
  refine hf.2 e Φ he (hB.sub (by omega) (by omega)) n m vs ts h0 h1 (by omega) (by omega) hs ht (fun v1 t1 b1 b2 e1 e2 e3 => ?_)
  refine hB.2.2.1 b (n + 1) m v1 t1 (by omega) (by omega) (by omega) (by omega) h1 (by omega) b1 b2 h ?_
  rw [show n + 1 - 1 = n by omega, e1]
  exact c _ _ (b1.repl (hb e he)) b2 (iset_hit rfl) (fun j q1 q2 => by rw [iset_miss (by omega)]; exact e2 j q1 q2) e3
theorem FM.join {cd ov : Int → Int} {a b c : Int} {f g : Env → Int} (hf : FM cd ov a b f) (hg : FM cd ov b c g) (h : cd c = 4 ∨ 6 ≤ cd c ∧ cd c ≤ 9) (hb : ∀ e, okE e → Mil (if cd c = 4 then gcdI (iabs (f e)) (iabs (g e)) else two' (cd c) (f e) (g e))) : FM cd ov a (c + 1) (fun e => if cd c = 4 then gcdI (iabs (f e)) (iabs (g e)) else two' (cd c) (f e) (g e)) := by
  have q := hf.1
  have q' := hg.1
  refine ⟨by omega, fun e Φ he hB n m vs ts h0 h1 h2 h3 hs ht cont => ?_⟩
  refine hf.2 e Φ he (hB.sub (by omega) (by omega)) n m vs ts h0 h1 (by omega) (by omega) hs ht (fun v1 t1 b1 b2 e1 e2 e3 => ?_)
  refine hg.2 e Φ he (hB.sub (by omega) (by omega)) (n + 1) m v1 t1 (by omega) h1 (by omega) (by omega) b1 b2 (fun v2 t2 b3 b4 e4 e5 e6 => ?_)
  refine hB.2.2.2.2.1 c (n + 1 + 1) m v2 t2 (by omega) (by omega) (by omega) (by omega) h1 (by omega) b3 b4 h ?_
  rw [show n + 1 + 1 - 2 = n by omega, show n + 1 + 1 - 1 = n + 1 by omega, e4, e5 n h0 (by omega), e1]
  exact cont _ _ ((b3.less (by omega)).repl (hb e he)) b4 (iset_hit rfl) (fun j q1 q2 => by rw [iset_miss (by omega), e5 j q1 (by omega)]; exact e2 j q1 q2) (fun j q1 q2 => by rw [e6 j q1 q2]; exact e3 j q1 q2)
theorem askI_01 (o x y : Int) : askI o x y = 0 ∨ askI o x y = 1 := by unfold askI bI; (repeat' split) <;> simp
theorem andI_01 (o x y : Int) : andI o x y = 0 ∨ andI o x y = 1 := by unfold andI bI; (repeat' split) <;> simp
theorem FB.cmp {cd ov : Int → Int} {a b c : Int} {f g : Env → Int} (hf : FM cd ov a b f) (hg : FM cd ov b c g) (h : 10 ≤ cd c ∧ cd c ≤ 15) : FB cd ov a (c + 1) (fun e => askI (cd c) (f e) (g e)) := by
  have q := hf.1
  have q' := hg.1
  refine ⟨by omega, fun e Φ he hB n m vs ts h0 h1 h2 h3 hs ht cont => ?_⟩
  refine hf.2 e Φ he (hB.sub (by omega) (by omega)) n m vs ts h0 h1 (by omega) (by omega) hs ht (fun v1 t1 b1 b2 e1 e2 e3 => ?_)
  refine hg.2 e Φ he (hB.sub (by omega) (by omega)) (n + 1) m v1 t1 (by omega) h1 (by omega) (by omega) b1 b2 (fun v2 t2 b3 b4 e4 e5 e6 => ?_)
  refine hB.2.2.2.2.2.1 c (n + 1 + 1) m v2 t2 (by omega) (by omega) (by omega) (by omega) h1 (by omega) b3 b4 h ?_
  rw [show n + 1 + 1 - 2 = n by omega, show n + 1 + 1 - 1 = n + 1 by omega, e4, e5 n h0 (by omega), e1]
  exact cont _ _ (b3.less (by omega)) (b4.push (askI_01 _ _ _)) (iset_hit rfl) (fun j q1 q2 => by rw [e5 j q1 (by omega)]; exact e2 j q1 q2) (fun j q1 q2 => by rw [iset_miss (by omega), e6 j q1 q2]; exact e3 j q1 q2)
theorem FB.not {cd ov : Int → Int} {a b : Int} {f : Env → Int} (hf : FB cd ov a b f) (h : cd b = 20) : FB cd ov a (b + 1) (fun e => if f e = 0 then 1 else 0) := by
  have q := hf.1
  refine ⟨by omega, fun e Φ he hB n m vs ts h0 h1 h2 h3 hs ht c => ?_⟩
  refine hf.2 e Φ he (hB.sub (by omega) (by omega)) n m vs ts h0 h1 (by omega) (by omega) hs ht (fun v1 t1 b1 b2 e1 e2 e3 => ?_)
  refine hB.2.2.2.2.2.2.1 b n (m + 1) v1 t1 (by omega) (by omega) h0 (by omega) (by omega) (by omega) b1 b2 h ?_
  rw [show m + 1 - 1 = m by omega, e1]
  exact c _ _ b1 (b2.repl (by split <;> simp)) (iset_hit rfl) e2 (fun j q1 q2 => by rw [iset_miss (by omega)]; exact e3 j q1 q2)
theorem FB.and {cd ov : Int → Int} {a b c : Int} {f g : Env → Int} (hf : FB cd ov a b f) (hg : FB cd ov b c g) (h : cd c = 21 ∨ cd c = 22) : FB cd ov a (c + 1) (fun e => andI (cd c) (f e) (g e)) := by
  have q := hf.1
  have q' := hg.1
  refine ⟨by omega, fun e Φ he hB n m vs ts h0 h1 h2 h3 hs ht cont => ?_⟩
  refine hf.2 e Φ he (hB.sub (by omega) (by omega)) n m vs ts h0 h1 (by omega) (by omega) hs ht (fun v1 t1 b1 b2 e1 e2 e3 => ?_)
  refine hg.2 e Φ he (hB.sub (by omega) (by omega)) n (m + 1) v1 t1 (by omega) (by omega) (by omega) (by omega) b1 b2 (fun v2 t2 b3 b4 e4 e5 e6 => ?_)
  refine hB.2.2.2.2.2.2.2 c n (m + 1 + 1) v2 t2 (by omega) (by omega) h0 (by omega) (by omega) (by omega) b3 b4 h ?_
  rw [show m + 1 + 1 - 2 = m by omega, show m + 1 + 1 - 1 = m + 1 by omega, e4, e6 m h1 (by omega), e1]
  exact cont _ _ b3 ((b4.less (by omega)).repl (andI_01 _ _ _)) (iset_hit rfl) (fun j q1 q2 => by rw [e5 j q1 q2]; exact e2 j q1 q2) (fun j q1 q2 => by rw [iset_miss (by omega), e6 j q1 (by omega)]; exact e3 j q1 q2)
theorem FM.select {cd ov : Int → Int} {a b c d : Int} {f g q : Env → Int} (hq : FB cd ov a b q) (hf : FM cd ov b c f) (hg : FM cd ov c d g) (h : cd d = 3) : FM cd ov a (d + 1) (fun e => if q e = 0 then g e else f e) := by
  have q1 := hq.1
  have q2 := hf.1
  have q3 := hg.1
  refine ⟨by omega, fun e Φ he hB n m vs ts h0 h1 h2 h3 hs ht cont => ?_⟩
  refine hq.2 e Φ he (hB.sub (by omega) (by omega)) n m vs ts h0 h1 (by omega) (by omega) hs ht (fun v0 t0 b1 b2 e1 e2 e3 => ?_)
  refine hf.2 e Φ he (hB.sub (by omega) (by omega)) n (m + 1) v0 t0 h0 (by omega) (by omega) (by omega) b1 b2 (fun v1 t1 b3 b4 e4 e5 e6 => ?_)
  refine hg.2 e Φ he (hB.sub (by omega) (by omega)) (n + 1) (m + 1) v1 t1 (by omega) (by omega) (by omega) (by omega) b3 b4 (fun v2 t2 b5 b6 e7 e8 e9 => ?_)
  refine hB.2.2.2.1 d (n + 1 + 1) (m + 1) v2 t2 (by omega) (by omega) (by omega) (by omega) (by omega) (by omega) b5 b6 h ?_
  rw [show n + 1 + 1 - 2 = n by omega, show n + 1 + 1 - 1 = n + 1 by omega, show m + 1 - 1 = m by omega, e9 m h1 (by omega), e6 m h1 (by omega), e1, e7]
  have k2 : ∀ j, 0 ≤ j → j < m → t2 j = ts j := fun j z1 z2 => by rw [e9 j z1 (by omega), e6 j z1 (by omega)]; exact e3 j z1 z2
  have k1 : ∀ j, 0 ≤ j → j < n → v2 j = vs j := fun j z1 z2 => by rw [e8 j z1 (by omega), e5 j z1 (by omega)]; exact e2 j z1 z2
  by_cases hz : q e = 0
  · rw [if_pos hz]
    refine cont _ _ ((b5.less (by omega)).repl ?_) (b6.less (by omega)) ?_ (fun j z1 z2 => by rw [iset_miss (by omega)]; exact k1 j z1 z2) k2
    · have := b5 (n + 1) (by omega) (by omega); rw [e7] at this; exact this
    · rw [iset_hit rfl]; simp only [if_pos hz]
  · rw [if_neg hz]
    refine cont _ _ (b5.less (by omega)) (b6.less (by omega)) ?_ k1 k2
    rw [e8 n h0 (by omega), e4]; simp only [if_neg hz]

def envM (σ : Mem) : Env := (σ 80, thk0 (σ 75 0) (fun r => σ 75 (11 + r)))
def cdM (σ : Mem) (t : Int) : Int → Int := fun i => σ 77 (729 * t + 121 + 2 * i)
def ovM (σ : Mem) (t : Int) : Int → Int := fun i => σ 77 (729 * t + 121 + 2 * i + 1)
def mr2 (σ : Mem) (vs ts : Int → Int) : Mem := mrow (mrow σ 81 vs) 82 ts
theorem mr2_81 {σ : Mem} {vs ts : Int → Int} : mr2 σ vs ts 81 = vs := by unfold mr2; rw [mrow_ne (by omega), mrow_self]
theorem mr2_82 {σ : Mem} {vs ts : Int → Int} : mr2 σ vs ts 82 = ts := by unfold mr2; rw [mrow_self]
theorem mr2_off {σ : Mem} {vs ts : Int → Int} {q : Nat} (h : q ≠ 81 ∧ q ≠ 82) : mr2 σ vs ts q = σ q := by unfold mr2; rw [mrow_ne h.2, mrow_ne h.1]
theorem mr2_s81 {σ : Mem} {vs ts : Int → Int} {k v : Int} : mset (mr2 σ vs ts) 81 k v = mr2 σ (iset vs k v) ts := by
  funext q j
  unfold mr2 mset mrow iset
  by_cases h : q = 82
  · simp [h]
  · by_cases h2 : q = 81
    · simp [h2]
    · simp [h, h2]
theorem mr2_s82 {σ : Mem} {vs ts : Int → Int} {k v : Int} : mset (mr2 σ vs ts) 82 k v = mr2 σ vs (iset ts k v) := by
  unfold mr2; rw [mset_mrow]
theorem mr2_id {σ : Mem} : mr2 σ (σ 81) (σ 82) = σ := by unfold mr2; rw [mrow_id, mrow_id]

def wp_X12_summedUp (x1 : Int) (x2 : Int) (σ : Mem) (Q : Int → Mem → Prop) : Prop :=
 ∀ P38 : Int → Int → Int → Int → Int → Mem → Prop,
 ∀ P172 : Int → Int → Int → Int → Int → Int → Mem → Prop,
 (∀ (v3 : Int) (v4 : Int) (v5 : Int) (v6 : Int) (v7 : Int) (σ : Mem), (R32 v3 → R32 v4 → R32 v5 → R32 v6 → R32 v7 → OKm σ →
   (0 ≤ (v3 + 2) ∧ (v3 + 2) < 2916) ∧
    (((σ 77 (v3 + 2)) ≤ v7) →
     Q (σ 81 0) σ) ∧
    ((v7 < (σ 77 (v3 + 2))) →
     (0 ≤ (v4 + (2 * v7)) ∧ (v4 + (2 * v7)) < 2916) ∧
     (0 ≤ ((v4 + (2 * v7)) + 1) ∧ ((v4 + (2 * v7)) + 1) < 2916) ∧
     ∀ y9 : Int, y9 = (σ 77 ((v4 + (2 * v7)) + 1)) →
     ((1 < (σ 77 (v4 + (2 * v7)))) →
      (((σ 77 (v4 + (2 * v7))) ≠ 3) →
       (((σ 77 (v4 + (2 * v7))) = 5) →
        P172 v3 v4 v5 v6 v7 (σ 77 (v4 + (2 * v7))) σ) ∧
       (((σ 77 (v4 + (2 * v7))) ≠ 5) →
        (((σ 77 (v4 + (2 * v7))) ≠ 2) →
         ((10 ≤ (σ 77 (v4 + (2 * v7)))) →
          ((20 ≤ (σ 77 (v4 + (2 * v7)))) →
           (((σ 77 (v4 + (2 * v7))) ≠ 20) →
            (0 ≤ ((v6 + (-1)) - 1) ∧ ((v6 + (-1)) - 1) < 330) ∧
            (0 ≤ (v6 + (-1)) ∧ (v6 + (-1)) < 330) ∧
            (0 ≤ ((v6 + (-1)) - 1) ∧ ((v6 + (-1)) - 1) < 330) ∧
            ((if (σ 77 (v4 + (2 * v7))) = 21 then bI ((σ 82 ((v6 + (-1)) - 1)) ≠ 0 ∧ (σ 82 (v6 + (-1))) ≠ 0) else bI ((σ 82 ((v6 + (-1)) - 1)) ≠ 0 ∨ (σ 82 (v6 + (-1))) ≠ 0)) = 0 ∨ (if (σ 77 (v4 + (2 * v7))) = 21 then bI ((σ 82 ((v6 + (-1)) - 1)) ≠ 0 ∧ (σ 82 (v6 + (-1))) ≠ 0) else bI ((σ 82 ((v6 + (-1)) - 1)) ≠ 0 ∨ (σ 82 (v6 + (-1))) ≠ 0)) = 1) ∧
            ∀ σ23 : Mem, σ23 = mset σ 82 ((v6 + (-1)) - 1) (if (σ 77 (v4 + (2 * v7))) = 21 then bI ((σ 82 ((v6 + (-1)) - 1)) ≠ 0 ∧ (σ 82 (v6 + (-1))) ≠ 0) else bI ((σ 82 ((v6 + (-1)) - 1)) ≠ 0 ∨ (σ 82 (v6 + (-1))) ≠ 0)) →
            R32 (v6 + (-1)) ∧ R32 (v7 + 1) ∧ P38 v3 v4 v5 (v6 + (-1)) (v7 + 1) σ23) ∧
           (((σ 77 (v4 + (2 * v7))) = 20) →
            (0 ≤ (v6 - 1) ∧ (v6 - 1) < 330) ∧
            (((σ 82 (v6 - 1)) ≠ 0) →
             (0 ≤ (v6 - 1) ∧ (v6 - 1) < 330) ∧
             ∀ σ31 : Mem, σ31 = mset σ 82 (v6 - 1) 0 →
             R32 (v7 + 1) ∧ P38 v3 v4 v5 v6 (v7 + 1) σ31) ∧
            (((σ 82 (v6 - 1)) = 0) →
             (0 ≤ (v6 - 1) ∧ (v6 - 1) < 330) ∧
             ∀ σ36 : Mem, σ36 = mset σ 82 (v6 - 1) 1 →
             R32 (v7 + 1) ∧ P38 v3 v4 v5 v6 (v7 + 1) σ36))) ∧
          (((σ 77 (v4 + (2 * v7))) < 20) →
           (0 ≤ (v5 + (-2)) ∧ (v5 + (-2)) < 330) ∧
           (0 ≤ ((v5 + (-2)) + 1) ∧ ((v5 + (-2)) + 1) < 330) ∧
           (0 ≤ v6 ∧ v6 < 330) ∧
           ((askI (σ 77 (v4 + (2 * v7))) (σ 81 (v5 + (-2))) (σ 81 ((v5 + (-2)) + 1))) = 0 ∨ (askI (σ 77 (v4 + (2 * v7))) (σ 81 (v5 + (-2))) (σ 81 ((v5 + (-2)) + 1))) = 1) ∧
           ∀ σ46 : Mem, σ46 = mset σ 82 v6 (askI (σ 77 (v4 + (2 * v7))) (σ 81 (v5 + (-2))) (σ 81 ((v5 + (-2)) + 1))) →
           R32 (v5 + (-2)) ∧ R32 (v6 + 1) ∧ R32 (v7 + 1) ∧ P38 v3 v4 (v5 + (-2)) (v6 + 1) (v7 + 1) σ46)) ∧
         (((σ 77 (v4 + (2 * v7))) < 10) →
          (((σ 77 (v4 + (2 * v7))) ≠ 4) →
           (0 ≤ ((v5 + (-1)) - 1) ∧ ((v5 + (-1)) - 1) < 330) ∧
           (0 ≤ (v5 + (-1)) ∧ (v5 + (-1)) < 330) ∧
           (-1000001 ≤ (σ 81 ((v5 + (-1)) - 1)) ∧ (σ 81 ((v5 + (-1)) - 1)) ≤ 1000001 ∧ -1000001 ≤ (σ 81 (v5 + (-1))) ∧ (σ 81 (v5 + (-1))) ≤ 1000001) ∧
           (0 ≤ ((v5 + (-1)) - 1) ∧ ((v5 + (-1)) - 1) < 330) ∧
           ∀ σ59 : Mem, σ59 = mset σ 81 ((v5 + (-1)) - 1) (two' (σ 77 (v4 + (2 * v7))) (σ 81 ((v5 + (-1)) - 1)) (σ 81 (v5 + (-1)))) →
           R32 (v5 + (-1)) ∧ R32 (v7 + 1) ∧ P38 v3 v4 (v5 + (-1)) v6 (v7 + 1) σ59) ∧
          (((σ 77 (v4 + (2 * v7))) = 4) →
           (0 ≤ ((v5 + (-1)) - 1) ∧ ((v5 + (-1)) - 1) < 330) ∧
           (0 ≤ (v5 + (-1)) ∧ (v5 + (-1)) < 330) ∧
           (-9223372036854775808 < (σ 81 ((v5 + (-1)) - 1)) ∧ -9223372036854775808 < (σ 81 (v5 + (-1)))) ∧
           (0 ≤ ((v5 + (-1)) - 1) ∧ ((v5 + (-1)) - 1) < 330) ∧
           ∀ σ70 : Mem, σ70 = mset σ 81 ((v5 + (-1)) - 1) (gcdI (iabs (σ 81 ((v5 + (-1)) - 1))) (iabs (σ 81 (v5 + (-1))))) →
           R32 (v5 + (-1)) ∧ R32 (v7 + 1) ∧ P38 v3 v4 (v5 + (-1)) v6 (v7 + 1) σ70))) ∧
        (((σ 77 (v4 + (2 * v7))) = 2) →
         P172 v3 v4 v5 v6 v7 (σ 77 (v4 + (2 * v7))) σ))) ∧
      (((σ 77 (v4 + (2 * v7))) = 3) →
       (0 ≤ (v6 + (-1)) ∧ (v6 + (-1)) < 330) ∧
       (((σ 82 (v6 + (-1))) ≠ 0) →
        R32 (v5 + (-1)) ∧ R32 (v6 + (-1)) ∧ R32 (v7 + 1) ∧ P38 v3 v4 (v5 + (-1)) (v6 + (-1)) (v7 + 1) σ) ∧
       (((σ 82 (v6 + (-1))) = 0) →
        (0 ≤ (v5 + (-1)) ∧ (v5 + (-1)) < 330) ∧
        (0 ≤ ((v5 + (-1)) - 1) ∧ ((v5 + (-1)) - 1) < 330) ∧
        ∀ σ82 : Mem, σ82 = mset σ 81 ((v5 + (-1)) - 1) (σ 81 (v5 + (-1))) →
        R32 (v5 + (-1)) ∧ R32 (v6 + (-1)) ∧ R32 (v7 + 1) ∧ P38 v3 v4 (v5 + (-1)) (v6 + (-1)) (v7 + 1) σ82))) ∧
     (((σ 77 (v4 + (2 * v7))) ≤ 1) →
      (((σ 77 (v4 + (2 * v7))) ≠ 0) →
       (0 ≤ y9 ∧ y9 < 9) ∧
       (0 ≤ v5 ∧ v5 < 330) ∧
       ∀ σ91 : Mem, σ91 = mset σ 81 v5 (σ 80 y9) →
       R32 (v5 + 1) ∧ R32 (v7 + 1) ∧ P38 v3 v4 (v5 + 1) v6 (v7 + 1) σ91) ∧
      (((σ 77 (v4 + (2 * v7))) = 0) →
       (0 ≤ v5 ∧ v5 < 330) ∧
       ∀ σ97 : Mem, σ97 = mset σ 81 v5 y9 →
       R32 (v5 + 1) ∧ R32 (v7 + 1) ∧ P38 v3 v4 (v5 + 1) v6 (v7 + 1) σ97)))) → P38 v3 v4 v5 v6 v7 σ) →
 (∀ (v3 : Int) (v4 : Int) (v5 : Int) (v6 : Int) (v7 : Int) (v8 : Int) (σ : Mem), (R32 v3 → R32 v4 → R32 v5 → R32 v6 → R32 v7 → R32 v8 → OKm σ →
   ((v8 ≠ 5) →
     (0 ≤ (v5 - 1) ∧ (v5 - 1) < 330) ∧
     (σ 75 0 ≤ 16) ∧
     (0 ≤ (v5 - 1) ∧ (v5 - 1) < 330) ∧
     ∀ σ108 : Mem, σ108 = mset σ 81 (v5 - 1) (thk0 (σ 75 0) (fun r => σ 75 (11 + r)) (σ 81 (v5 - 1))) →
     R32 (v7 + 1) ∧ P38 v3 v4 v5 v6 (v7 + 1) σ108) ∧
    ((v8 = 5) →
     (0 ≤ (v5 - 1) ∧ (v5 - 1) < 330) ∧
     (0 ≤ (v5 - 1) ∧ (v5 - 1) < 330) ∧
     R64 (-(σ 81 (v5 - 1))) ∧
     ∀ σ115 : Mem, σ115 = mset σ 81 (v5 - 1) (-(σ 81 (v5 - 1))) →
     R32 (v7 + 1) ∧ P38 v3 v4 v5 v6 (v7 + 1) σ115)) → P172 v3 v4 v5 v6 v7 v8 σ) →
  R32 (((729 * x1) + 1) + (5 * x2)) ∧
   ∀ y2 : Int, y2 = (((729 * x1) + 1) + (5 * x2)) →
   (0 ≤ (y2 + 1) ∧ (y2 + 1) < 2916) ∧
   R32 ((729 * x1) + 121) ∧ P38 y2 ((729 * x1) + 121) 0 0 (σ 77 (y2 + 1)) σ
theorem mt_X12_summedUp {d : Nat} (hd : 2 ≤ d) {x1 : Int} {x2 : Int} {σ : Mem} {Q : Int → Mem → Prop} (hx1 : R32 x1) (hx2 : R32 x2) (hO : OKm σ) (h : wp_X12_summedUp x1 x2 σ Q) : Mt yX12_summedUp cX12_summedUp 10 (some .long) d [aR (74), aI (x1), aI (x2)] σ (QL Q) := by
  refine Mt.intro (by decide +kernel) (Nat.le_of_ble_eq_true rfl) [(0, aR (74)), (1, aI (x1)), (2, aI (x2))] rfl ?_
  unfold wp_X12_summedUp at h
  have h := h (fun (v3 : Int) (v4 : Int) (v5 : Int) (v6 : Int) (v7 : Int) (σ : Mem) => R32 v3 → R32 v4 → R32 v5 → R32 v6 → R32 v7 → OKm σ → G yX12_summedUp cX12_summedUp 10 (some .long) d (QL Q) 38 [(0, aR (74)), (3, aI (v3)), (4, aI (v4)), (5, aI (v5)), (6, aI (v6)), (7, aI (v7))] [] σ)
    (fun (v3 : Int) (v4 : Int) (v5 : Int) (v6 : Int) (v7 : Int) (v8 : Int) (σ : Mem) => R32 v3 → R32 v4 → R32 v5 → R32 v6 → R32 v7 → R32 v8 → OKm σ → G yX12_summedUp cX12_summedUp 10 (some .long) d (QL Q) 172 [(0, aR (74)), (3, aI (v3)), (4, aI (v4)), (5, aI (v5)), (6, aI (v6)), (7, aI (v7)), (8, aI (v8))] [] σ) ?_ ?_
  · refine G_sipush (by decide) dX12_summedUp_0 ?_
    refine G_iload_n 1 rfl rfl dX12_summedUp_3 ?_
    refine G_imul dX12_summedUp_4 ?_
    refine G_iconst dX12_summedUp_5 ?_
    refine G_iadd dX12_summedUp_6 ?_
    refine G_iconst dX12_summedUp_7 ?_
    refine G_iload_n 2 rfl rfl dX12_summedUp_8 ?_
    refine G_imul dX12_summedUp_9 ?_
    refine G_iadd dX12_summedUp_10 ?_
    obtain ⟨c1, h⟩ := h
    have h := h _ rfl
    refine G_istore_n (lv' := [(3, aI (((((729 * x1) + 1) + (5 * x2))))), (0, aR (74)), (1, aI (x1)), (2, aI (x2))]) rfl rfl (by decide) dX12_summedUp_11 ?_
    refine G_sipush (by decide) dX12_summedUp_12 ?_
    refine G_iload_n 2 rfl rfl dX12_summedUp_15 ?_
    refine G_imul dX12_summedUp_16 ?_
    refine G_bipush (by decide) dX12_summedUp_17 ?_
    refine G_iadd dX12_summedUp_19 ?_
    refine G_istore (lv' := [(4, aI (((729 * x1) + 121))), (3, aI (((((729 * x1) + 1) + (5 * x2))))), (0, aR (74)), (1, aI (x1)), (2, aI (x2))]) rfl (by decide) dX12_summedUp_20 ?_
    refine G_iconst dX12_summedUp_22 ?_
    refine G_istore (lv' := [(5, aI (0)), (4, aI (((729 * x1) + 121))), (3, aI (((((729 * x1) + 1) + (5 * x2))))), (0, aR (74)), (1, aI (x1)), (2, aI (x2))]) rfl (by decide) dX12_summedUp_23 ?_
    refine G_iconst dX12_summedUp_25 ?_
    refine G_istore (lv' := [(6, aI (0)), (5, aI (0)), (4, aI (((729 * x1) + 121))), (3, aI (((((729 * x1) + 1) + (5 * x2))))), (0, aR (74)), (1, aI (x1)), (2, aI (x2))]) rfl (by decide) dX12_summedUp_26 ?_
    refine G_aload_n 4 rfl rfl dX12_summedUp_28 ?_
    refine G_get (k := 2) (kd := (2, 77)) (v := aR 77) gf_X12_16 rfl rfl rfl rfl dX12_summedUp_29 ?_
    refine G_iload_n 3 rfl rfl dX12_summedUp_32 ?_
    refine G_iconst dX12_summedUp_33 ?_
    refine G_iadd dX12_summedUp_34 ?_
    obtain ⟨c3, h⟩ := h
    refine G_iald (n := 2916) rfl c3.1 c3.2 dX12_summedUp_35 ?_
    refine G_istore (lv' := [(7, aI ((σ 77 (((((729 * x1) + 1) + (5 * x2))) + 1)))), (6, aI (0)), (5, aI (0)), (4, aI (((729 * x1) + 121))), (3, aI (((((729 * x1) + 1) + (5 * x2))))), (0, aR (74)), (1, aI (x1)), (2, aI (x2))]) rfl (by decide) dX12_summedUp_36 ?_
    obtain ⟨c4, h⟩ := h
    exact G_pick [5, 4, 3, 2, 1, 0] rfl (h c1 c4 (rL 0 rfl) (rL 0 rfl) (OKm.i hO 77 (((((729 * x1) + 1) + (5 * x2))) + 1) (isLg_row (show shp 77 = (1, 2916, []) from rfl) _)) hO)
  · intro v3 v4 v5 v6 v7 σ h hv3 hv4 hv5 hv6 hv7 hO
    have h := h hv3 hv4 hv5 hv6 hv7 hO
    refine G_iload 5 rfl dX12_summedUp_38 ?_
    refine G_aload_n 0 rfl rfl dX12_summedUp_40 ?_
    refine G_get (k := 2) (kd := (2, 77)) (v := aR 77) gf_X12_16 rfl rfl rfl rfl dX12_summedUp_41 ?_
    refine G_iload_n 1 rfl rfl dX12_summedUp_44 ?_
    refine G_iconst dX12_summedUp_45 ?_
    refine G_iadd dX12_summedUp_46 ?_
    obtain ⟨c5, h⟩ := h
    refine G_iald (n := 2916) rfl c5.1 c5.2 dX12_summedUp_47 ?_
    refine G_icmp_ge hv7 (OKm.i hO 77 (v3 + 2) (isLg_row (show shp 77 = (1, 2916, []) from rfl) _)) dX12_summedUp_48 (tgt := 406) (by decide) (fun c6 => ?_) (fun c6 => ?_)
    · have h := h.1 c6
      refine G_aload_n 0 rfl rfl dX12_summedUp_406 ?_
      refine G_get (k := 21) (kd := (2, 81)) (v := aR 81) gf_X12_35 rfl rfl rfl rfl dX12_summedUp_407 ?_
      refine G_iconst dX12_summedUp_410 ?_
      refine G_lald (n := 330) rfl (by decide) (by decide) dX12_summedUp_411 ?_
      exact G_lret rfl (OKm.l hO 81 0 (isLg_rowL (show shp 81 = (2, 330, []) from rfl) _)) dX12_summedUp_412 ⟨_, rfl, h⟩ hO
    · have h := h.2 c6
      refine G_aload_n 0 rfl rfl dX12_summedUp_51 ?_
      refine G_get (k := 2) (kd := (2, 77)) (v := aR 77) gf_X12_16 rfl rfl rfl rfl dX12_summedUp_52 ?_
      refine G_iload 2 rfl dX12_summedUp_55 ?_
      refine G_iconst dX12_summedUp_57 ?_
      refine G_iload 5 rfl dX12_summedUp_58 ?_
      refine G_imul dX12_summedUp_60 ?_
      refine G_iadd dX12_summedUp_61 ?_
      obtain ⟨c7, h⟩ := h
      refine G_iald (n := 2916) rfl c7.1 c7.2 dX12_summedUp_62 ?_
      refine G_istore (lv' := [(8, aI ((σ 77 (v4 + (2 * v7))))), (0, aR (74)), (3, aI (v3)), (4, aI (v4)), (5, aI (v5)), (6, aI (v6)), (7, aI (v7))]) rfl (by decide) dX12_summedUp_63 ?_
      refine G_aload_n 1 rfl rfl dX12_summedUp_65 ?_
      refine G_get (k := 2) (kd := (2, 77)) (v := aR 77) gf_X12_16 rfl rfl rfl rfl dX12_summedUp_66 ?_
      refine G_iload 3 rfl dX12_summedUp_69 ?_
      refine G_iconst dX12_summedUp_71 ?_
      refine G_iload 6 rfl dX12_summedUp_72 ?_
      refine G_imul dX12_summedUp_74 ?_
      refine G_iadd dX12_summedUp_75 ?_
      refine G_iconst dX12_summedUp_76 ?_
      refine G_iadd dX12_summedUp_77 ?_
      obtain ⟨c8, h⟩ := h
      refine G_iald (n := 2916) rfl c8.1 c8.2 dX12_summedUp_78 ?_
      have h := h _ rfl
      refine G_istore (lv' := [(9, aI (((σ 77 ((v4 + (2 * v7)) + 1))))), (8, aI ((σ 77 (v4 + (2 * v7))))), (0, aR (74)), (3, aI (v3)), (4, aI (v4)), (5, aI (v5)), (6, aI (v6)), (7, aI (v7))]) rfl (by decide) dX12_summedUp_79 ?_
      refine G_iload 1 rfl dX12_summedUp_81 ?_
      refine G_iconst dX12_summedUp_83 ?_
      refine G_icmp_gt (OKm.i hO 77 (v4 + (2 * v7)) (isLg_row (show shp 77 = (1, 2916, []) from rfl) _)) (rL 1 rfl) dX12_summedUp_84 (tgt := 119) (by decide) (fun c10 => ?_) (fun c10 => ?_)
      · have h := h.1 c10
        refine G_iload 1 rfl dX12_summedUp_119 ?_
        refine G_iconst dX12_summedUp_121 ?_
        refine G_icmp_ne (OKm.i hO 77 (v4 + (2 * v7)) (isLg_row (show shp 77 = (1, 2916, []) from rfl) _)) (rL 3 rfl) dX12_summedUp_122 (tgt := 160) (by decide) (fun c11 => ?_) (fun c11 => ?_)
        · have h := h.1 c11
          refine G_iload 1 rfl dX12_summedUp_160 ?_
          refine G_iconst dX12_summedUp_162 ?_
          refine G_icmp_eq (OKm.i hO 77 (v4 + (2 * v7)) (isLg_row (show shp 77 = (1, 2916, []) from rfl) _)) (rL 5 rfl) dX12_summedUp_163 (tgt := 172) (by decide) (fun c12 => ?_) (fun c12 => ?_)
          · have h := h.1 c12
            exact G_pick [2, 3, 4, 5, 6, 7, 1] rfl (h hv3 hv4 hv5 hv6 hv7 (OKm.i hO 77 (v4 + (2 * v7)) (isLg_row (show shp 77 = (1, 2916, []) from rfl) _)) hO)
          · have h := h.2 c12
            refine G_iload 1 rfl dX12_summedUp_166 ?_
            refine G_iconst dX12_summedUp_168 ?_
            refine G_icmp_ne (OKm.i hO 77 (v4 + (2 * v7)) (isLg_row (show shp 77 = (1, 2916, []) from rfl) _)) (rL 2 rfl) dX12_summedUp_169 (tgt := 216) (by decide) (fun c13 => ?_) (fun c13 => ?_)
            · have h := h.1 c13
              refine G_iload 1 rfl dX12_summedUp_216 ?_
              refine G_bipush (by decide) dX12_summedUp_218 ?_
              refine G_icmp_ge (OKm.i hO 77 (v4 + (2 * v7)) (isLg_row (show shp 77 = (1, 2916, []) from rfl) _)) (rL 10 rfl) dX12_summedUp_220 (tgt := 287) (by decide) (fun c14 => ?_) (fun c14 => ?_)
              · have h := h.1 c14
                refine G_iload 1 rfl dX12_summedUp_287 ?_
                refine G_bipush (by decide) dX12_summedUp_289 ?_
                refine G_icmp_ge (OKm.i hO 77 (v4 + (2 * v7)) (isLg_row (show shp 77 = (1, 2916, []) from rfl) _)) (rL 20 rfl) dX12_summedUp_291 (tgt := 331) (by decide) (fun c15 => ?_) (fun c15 => ?_)
                · have h := h.1 c15
                  refine G_iload 1 rfl dX12_summedUp_331 ?_
                  refine G_bipush (by decide) dX12_summedUp_333 ?_
                  refine G_icmp_ne (OKm.i hO 77 (v4 + (2 * v7)) (isLg_row (show shp 77 = (1, 2916, []) from rfl) _)) (rL 20 rfl) dX12_summedUp_335 (tgt := 367) (by decide) (fun c16 => ?_) (fun c16 => ?_)
                  · have h := h.1 c16
                    refine G_iinc (lv' := [(6, aI ((v6 + (-1)))), (9, aI (((σ 77 ((v4 + (2 * v7)) + 1))))), (8, aI ((σ 77 (v4 + (2 * v7))))), (0, aR (74)), (3, aI (v3)), (4, aI (v4)), (5, aI (v5)), (7, aI (v7))]) (k := 6) rfl rfl (by decide) dX12_summedUp_367 ?_
                    refine G_aload_n 3 rfl rfl dX12_summedUp_370 ?_
                    refine G_get (k := 22) (kd := (2, 82)) (v := aR 82) gf_X12_39 rfl rfl rfl rfl dX12_summedUp_371 ?_
                    refine G_iload 0 rfl dX12_summedUp_374 ?_
                    refine G_iconst dX12_summedUp_376 ?_
                    refine G_isub dX12_summedUp_377 ?_
                    refine G_iload 2 rfl dX12_summedUp_378 ?_
                    refine G_aload_n 3 rfl rfl dX12_summedUp_380 ?_
                    refine G_get (k := 22) (kd := (2, 82)) (v := aR 82) gf_X12_39 rfl rfl rfl rfl dX12_summedUp_381 ?_
                    refine G_iload 0 rfl dX12_summedUp_384 ?_
                    refine G_iconst dX12_summedUp_386 ?_
                    refine G_isub dX12_summedUp_387 ?_
                    obtain ⟨c17, h⟩ := h
                    refine G_zald (n := 330) rfl c17.1 c17.2 dX12_summedUp_388 ?_
                    refine G_aload_n 3 rfl rfl dX12_summedUp_389 ?_
                    refine G_get (k := 22) (kd := (2, 82)) (v := aR 82) gf_X12_39 rfl rfl rfl rfl dX12_summedUp_390 ?_
                    refine G_iload 0 rfl dX12_summedUp_393 ?_
                    obtain ⟨c18, h⟩ := h
                    refine G_zald (n := 330) rfl c18.1 c18.2 dX12_summedUp_395 ?_
                    refine G_callS (as := [_, _, _]) cf_X12_294 rfl (sp_X12_joined (d - 1) (by omega) _ hO _ (OKm.i hO 77 (v4 + (2 * v7)) (isLg_row (show shp 77 = (1, 2916, []) from rfl) _)) _ (OKm.i hO 82 ((v6 + (-1)) - 1) (isLg_rowZ (show shp 82 = (3, 330, []) from rfl) _)) _ (OKm.i hO 82 (v6 + (-1)) (isLg_rowZ (show shp 82 = (3, 330, []) from rfl) _))) (by omega) rfl rfl (Nat.le_of_ble_eq_true rfl) dX12_summedUp_396 ?_
                    rintro _ _ ⟨_, rfl, rfl, rfl⟩ o20 r19
                    obtain ⟨c21, h⟩ := h
                    obtain ⟨c22, h⟩ := h
                    obtain ⟨σ23, e25⟩ : ∃ τ : Mem, τ = mset σ 82 ((v6 + (-1)) - 1) (if (σ 77 (v4 + (2 * v7))) = 21 then bI ((σ 82 ((v6 + (-1)) - 1)) ≠ 0 ∧ (σ 82 (v6 + (-1))) ≠ 0) else bI ((σ 82 ((v6 + (-1)) - 1)) ≠ 0 ∨ (σ 82 (v6 + (-1))) ≠ 0)) := ⟨_, rfl⟩
                    have h := h σ23 e25
                    have o24 : OKm σ23 := by rw [e25]; exact OKm.seti hO _ _ _ (r01 c22) (isLg_rowZ (show shp 82 = (3, 330, []) from rfl) _)
                    refine G_zast (n := 330) rfl c21.1 c21.2 c22 dX12_summedUp_399 ?_
                    rw [← e25]
                    refine G_iinc (lv' := [(7, aI ((v7 + 1))), (6, aI ((v6 + (-1)))), (9, aI (((σ 77 ((v4 + (2 * v7)) + 1))))), (8, aI ((σ 77 (v4 + (2 * v7))))), (0, aR (74)), (3, aI (v3)), (4, aI (v4)), (5, aI (v5))]) (k := 7) rfl rfl (by decide) dX12_summedUp_400 ?_
                    refine G_goto (tgt := 38) dX12_summedUp_403 (by decide) ?_
                    obtain ⟨c26, h⟩ := h
                    obtain ⟨c27, h⟩ := h
                    exact G_pick [4, 5, 6, 7, 1, 0] rfl (h hv3 hv4 hv5 c26 c27 o24)
                  · have h := h.2 c16
                    refine G_aload_n 2 rfl rfl dX12_summedUp_338 ?_
                    refine G_get (k := 22) (kd := (2, 82)) (v := aR 82) gf_X12_39 rfl rfl rfl rfl dX12_summedUp_339 ?_
                    refine G_iload 6 rfl dX12_summedUp_342 ?_
                    refine G_iconst dX12_summedUp_344 ?_
                    refine G_isub dX12_summedUp_345 ?_
                    refine G_aload_n 2 rfl rfl dX12_summedUp_346 ?_
                    refine G_get (k := 22) (kd := (2, 82)) (v := aR 82) gf_X12_39 rfl rfl rfl rfl dX12_summedUp_347 ?_
                    refine G_iload 6 rfl dX12_summedUp_350 ?_
                    refine G_iconst dX12_summedUp_352 ?_
                    refine G_isub dX12_summedUp_353 ?_
                    obtain ⟨c28, h⟩ := h
                    refine G_zald (n := 330) rfl c28.1 c28.2 dX12_summedUp_354 ?_
                    refine G_if_ne (OKm.i hO 82 (v6 - 1) (isLg_rowZ (show shp 82 = (3, 330, []) from rfl) _)) dX12_summedUp_355 (tgt := 362) (by decide) (fun c29 => ?_) (fun c29 => ?_)
                    · have h := h.1 c29
                      refine G_iconst dX12_summedUp_362 ?_
                      obtain ⟨c30, h⟩ := h
                      obtain ⟨σ31, e33⟩ : ∃ τ : Mem, τ = mset σ 82 (v6 - 1) 0 := ⟨_, rfl⟩
                      have h := h σ31 e33
                      have o32 : OKm σ31 := by rw [e33]; exact OKm.seti hO _ _ _ (r01 (by decide)) (isLg_rowZ (show shp 82 = (3, 330, []) from rfl) _)
                      refine G_zast (n := 330) rfl c30.1 c30.2 (by decide) dX12_summedUp_363 ?_
                      rw [← e33]
                      refine G_goto (tgt := 400) dX12_summedUp_364 (by decide) ?_
                      refine G_iinc (lv' := [(7, aI ((v7 + 1))), (9, aI (((σ 77 ((v4 + (2 * v7)) + 1))))), (8, aI ((σ 77 (v4 + (2 * v7))))), (0, aR (74)), (3, aI (v3)), (4, aI (v4)), (5, aI (v5)), (6, aI (v6))]) (k := 7) rfl rfl (by decide) dX12_summedUp_400 ?_
                      refine G_goto (tgt := 38) dX12_summedUp_403 (by decide) ?_
                      obtain ⟨c34, h⟩ := h
                      exact G_pick [3, 4, 5, 6, 7, 0] rfl (h hv3 hv4 hv5 hv6 c34 o32)
                    · have h := h.2 c29
                      refine G_iconst dX12_summedUp_358 ?_
                      refine G_goto (tgt := 363) dX12_summedUp_359 (by decide) ?_
                      obtain ⟨c35, h⟩ := h
                      obtain ⟨σ36, e38⟩ : ∃ τ : Mem, τ = mset σ 82 (v6 - 1) 1 := ⟨_, rfl⟩
                      have h := h σ36 e38
                      have o37 : OKm σ36 := by rw [e38]; exact OKm.seti hO _ _ _ (r01 (by decide)) (isLg_rowZ (show shp 82 = (3, 330, []) from rfl) _)
                      refine G_zast (n := 330) rfl c35.1 c35.2 (by decide) dX12_summedUp_363 ?_
                      rw [← e38]
                      refine G_goto (tgt := 400) dX12_summedUp_364 (by decide) ?_
                      refine G_iinc (lv' := [(7, aI ((v7 + 1))), (9, aI (((σ 77 ((v4 + (2 * v7)) + 1))))), (8, aI ((σ 77 (v4 + (2 * v7))))), (0, aR (74)), (3, aI (v3)), (4, aI (v4)), (5, aI (v5)), (6, aI (v6))]) (k := 7) rfl rfl (by decide) dX12_summedUp_400 ?_
                      refine G_goto (tgt := 38) dX12_summedUp_403 (by decide) ?_
                      obtain ⟨c39, h⟩ := h
                      exact G_pick [3, 4, 5, 6, 7, 0] rfl (h hv3 hv4 hv5 hv6 c39 o37)
                · have h := h.2 c15
                  refine G_iinc (lv' := [(5, aI ((v5 + (-2)))), (9, aI (((σ 77 ((v4 + (2 * v7)) + 1))))), (8, aI ((σ 77 (v4 + (2 * v7))))), (0, aR (74)), (3, aI (v3)), (4, aI (v4)), (6, aI (v6)), (7, aI (v7))]) (k := 5) rfl rfl (by decide) dX12_summedUp_294 ?_
                  refine G_aload_n 3 rfl rfl dX12_summedUp_297 ?_
                  refine G_get (k := 22) (kd := (2, 82)) (v := aR 82) gf_X12_39 rfl rfl rfl rfl dX12_summedUp_298 ?_
                  refine G_iload 6 rfl dX12_summedUp_301 ?_
                  refine G_iload 2 rfl dX12_summedUp_303 ?_
                  refine G_aload_n 3 rfl rfl dX12_summedUp_305 ?_
                  refine G_get (k := 21) (kd := (2, 81)) (v := aR 81) gf_X12_35 rfl rfl rfl rfl dX12_summedUp_306 ?_
                  refine G_iload 0 rfl dX12_summedUp_309 ?_
                  obtain ⟨c40, h⟩ := h
                  refine G_lald (n := 330) rfl c40.1 c40.2 dX12_summedUp_311 ?_
                  refine G_aload_n 3 rfl rfl dX12_summedUp_312 ?_
                  refine G_get (k := 21) (kd := (2, 81)) (v := aR 81) gf_X12_35 rfl rfl rfl rfl dX12_summedUp_313 ?_
                  refine G_iload 0 rfl dX12_summedUp_316 ?_
                  refine G_iconst dX12_summedUp_318 ?_
                  refine G_iadd dX12_summedUp_319 ?_
                  obtain ⟨c41, h⟩ := h
                  refine G_lald (n := 330) rfl c41.1 c41.2 dX12_summedUp_320 ?_
                  refine G_callS (as := [_, _, _]) cf_X12_290 rfl (sp_X12_isAsked (d - 1) (by omega) _ hO _ (OKm.i hO 77 (v4 + (2 * v7)) (isLg_row (show shp 77 = (1, 2916, []) from rfl) _)) _ (OKm.l hO 81 (v5 + (-2)) (isLg_rowL (show shp 81 = (2, 330, []) from rfl) _)) _ (OKm.l hO 81 ((v5 + (-2)) + 1) (isLg_rowL (show shp 81 = (2, 330, []) from rfl) _))) (by omega) rfl rfl (Nat.le_of_ble_eq_true rfl) dX12_summedUp_321 ?_
                  rintro _ _ ⟨_, rfl, rfl, rfl⟩ o43 r42
                  obtain ⟨c44, h⟩ := h
                  obtain ⟨c45, h⟩ := h
                  obtain ⟨σ46, e48⟩ : ∃ τ : Mem, τ = mset σ 82 v6 (askI (σ 77 (v4 + (2 * v7))) (σ 81 (v5 + (-2))) (σ 81 ((v5 + (-2)) + 1))) := ⟨_, rfl⟩
                  have h := h σ46 e48
                  have o47 : OKm σ46 := by rw [e48]; exact OKm.seti hO _ _ _ (r01 c45) (isLg_rowZ (show shp 82 = (3, 330, []) from rfl) _)
                  refine G_zast (n := 330) rfl c44.1 c44.2 c45 dX12_summedUp_324 ?_
                  rw [← e48]
                  refine G_iinc (lv' := [(6, aI ((v6 + 1))), (5, aI ((v5 + (-2)))), (9, aI (((σ 77 ((v4 + (2 * v7)) + 1))))), (8, aI ((σ 77 (v4 + (2 * v7))))), (0, aR (74)), (3, aI (v3)), (4, aI (v4)), (7, aI (v7))]) (k := 6) rfl rfl (by decide) dX12_summedUp_325 ?_
                  refine G_goto (tgt := 400) dX12_summedUp_328 (by decide) ?_
                  refine G_iinc (lv' := [(7, aI ((v7 + 1))), (6, aI ((v6 + 1))), (5, aI ((v5 + (-2)))), (9, aI (((σ 77 ((v4 + (2 * v7)) + 1))))), (8, aI ((σ 77 (v4 + (2 * v7))))), (0, aR (74)), (3, aI (v3)), (4, aI (v4))]) (k := 7) rfl rfl (by decide) dX12_summedUp_400 ?_
                  refine G_goto (tgt := 38) dX12_summedUp_403 (by decide) ?_
                  obtain ⟨c49, h⟩ := h
                  obtain ⟨c50, h⟩ := h
                  obtain ⟨c51, h⟩ := h
                  exact G_pick [5, 6, 7, 2, 1, 0] rfl (h hv3 hv4 c49 c50 c51 o47)
              · have h := h.2 c14
                refine G_iinc (lv' := [(5, aI ((v5 + (-1)))), (9, aI (((σ 77 ((v4 + (2 * v7)) + 1))))), (8, aI ((σ 77 (v4 + (2 * v7))))), (0, aR (74)), (3, aI (v3)), (4, aI (v4)), (6, aI (v6)), (7, aI (v7))]) (k := 5) rfl rfl (by decide) dX12_summedUp_223 ?_
                refine G_aload_n 3 rfl rfl dX12_summedUp_226 ?_
                refine G_get (k := 21) (kd := (2, 81)) (v := aR 81) gf_X12_35 rfl rfl rfl rfl dX12_summedUp_227 ?_
                refine G_iload 0 rfl dX12_summedUp_230 ?_
                refine G_iconst dX12_summedUp_232 ?_
                refine G_isub dX12_summedUp_233 ?_
                refine G_iload 2 rfl dX12_summedUp_234 ?_
                refine G_iconst dX12_summedUp_236 ?_
                refine G_icmp_ne (OKm.i hO 77 (v4 + (2 * v7)) (isLg_row (show shp 77 = (1, 2916, []) from rfl) _)) (rL 4 rfl) dX12_summedUp_237 (tgt := 262) (by decide) (fun c52 => ?_) (fun c52 => ?_)
                · have h := h.1 c52
                  refine G_iload 2 rfl dX12_summedUp_262 ?_
                  refine G_aload_n 3 rfl rfl dX12_summedUp_264 ?_
                  refine G_get (k := 21) (kd := (2, 81)) (v := aR 81) gf_X12_35 rfl rfl rfl rfl dX12_summedUp_265 ?_
                  refine G_iload 0 rfl dX12_summedUp_268 ?_
                  refine G_iconst dX12_summedUp_270 ?_
                  refine G_isub dX12_summedUp_271 ?_
                  obtain ⟨c53, h⟩ := h
                  refine G_lald (n := 330) rfl c53.1 c53.2 dX12_summedUp_272 ?_
                  refine G_aload_n 3 rfl rfl dX12_summedUp_273 ?_
                  refine G_get (k := 21) (kd := (2, 81)) (v := aR 81) gf_X12_35 rfl rfl rfl rfl dX12_summedUp_274 ?_
                  refine G_iload 0 rfl dX12_summedUp_277 ?_
                  obtain ⟨c54, h⟩ := h
                  refine G_lald (n := 330) rfl c54.1 c54.2 dX12_summedUp_279 ?_
                  obtain ⟨c55, h⟩ := h
                  refine G_callS (as := [_, _, _]) cf_X12_286 rfl (sp_X12_two (d - 1) (by omega) _ hO _ (OKm.i hO 77 (v4 + (2 * v7)) (isLg_row (show shp 77 = (1, 2916, []) from rfl) _)) _ (OKm.l hO 81 ((v5 + (-1)) - 1) (isLg_rowL (show shp 81 = (2, 330, []) from rfl) _)) _ (OKm.l hO 81 (v5 + (-1)) (isLg_rowL (show shp 81 = (2, 330, []) from rfl) _)) c55) (by omega) rfl rfl (Nat.le_of_ble_eq_true rfl) dX12_summedUp_280 ?_
                  rintro _ _ ⟨_, rfl, rfl, rfl⟩ o57 r56
                  obtain ⟨c58, h⟩ := h
                  obtain ⟨σ59, e61⟩ : ∃ τ : Mem, τ = mset σ 81 ((v5 + (-1)) - 1) (two' (σ 77 (v4 + (2 * v7))) (σ 81 ((v5 + (-1)) - 1)) (σ 81 (v5 + (-1)))) := ⟨_, rfl⟩
                  have h := h σ59 e61
                  have o60 : OKm σ59 := by rw [e61]; exact OKm.setl hO _ _ _ (r56 _ rfl) (isLg_rowL (show shp 81 = (2, 330, []) from rfl) _)
                  refine G_last (n := 330) rfl c58.1 c58.2 dX12_summedUp_283 ?_
                  rw [← e61]
                  refine G_goto (tgt := 400) dX12_summedUp_284 (by decide) ?_
                  refine G_iinc (lv' := [(7, aI ((v7 + 1))), (5, aI ((v5 + (-1)))), (9, aI (((σ 77 ((v4 + (2 * v7)) + 1))))), (8, aI ((σ 77 (v4 + (2 * v7))))), (0, aR (74)), (3, aI (v3)), (4, aI (v4)), (6, aI (v6))]) (k := 7) rfl rfl (by decide) dX12_summedUp_400 ?_
                  refine G_goto (tgt := 38) dX12_summedUp_403 (by decide) ?_
                  obtain ⟨c62, h⟩ := h
                  obtain ⟨c63, h⟩ := h
                  exact G_pick [4, 5, 6, 1, 7, 0] rfl (h hv3 hv4 c62 hv6 c63 o60)
                · have h := h.2 c52
                  refine G_aload_n 3 rfl rfl dX12_summedUp_240 ?_
                  refine G_get (k := 21) (kd := (2, 81)) (v := aR 81) gf_X12_35 rfl rfl rfl rfl dX12_summedUp_241 ?_
                  refine G_iload 0 rfl dX12_summedUp_244 ?_
                  refine G_iconst dX12_summedUp_246 ?_
                  refine G_isub dX12_summedUp_247 ?_
                  obtain ⟨c64, h⟩ := h
                  refine G_lald (n := 330) rfl c64.1 c64.2 dX12_summedUp_248 ?_
                  refine G_aload_n 3 rfl rfl dX12_summedUp_249 ?_
                  refine G_get (k := 21) (kd := (2, 81)) (v := aR 81) gf_X12_35 rfl rfl rfl rfl dX12_summedUp_250 ?_
                  refine G_iload 0 rfl dX12_summedUp_253 ?_
                  obtain ⟨c65, h⟩ := h
                  refine G_lald (n := 330) rfl c65.1 c65.2 dX12_summedUp_255 ?_
                  obtain ⟨c66, h⟩ := h
                  refine G_callS (as := [_, _]) cf_X12_282 rfl (sp_X12_commonOf (d - 1) (by omega) _ hO _ (OKm.l hO 81 ((v5 + (-1)) - 1) (isLg_rowL (show shp 81 = (2, 330, []) from rfl) _)) _ (OKm.l hO 81 (v5 + (-1)) (isLg_rowL (show shp 81 = (2, 330, []) from rfl) _)) c66) (by omega) rfl rfl (Nat.le_of_ble_eq_true rfl) dX12_summedUp_256 ?_
                  rintro _ _ ⟨_, rfl, rfl, rfl⟩ o68 r67
                  refine G_goto (tgt := 283) dX12_summedUp_259 (by decide) ?_
                  obtain ⟨c69, h⟩ := h
                  obtain ⟨σ70, e72⟩ : ∃ τ : Mem, τ = mset σ 81 ((v5 + (-1)) - 1) (gcdI (iabs (σ 81 ((v5 + (-1)) - 1))) (iabs (σ 81 (v5 + (-1))))) := ⟨_, rfl⟩
                  have h := h σ70 e72
                  have o71 : OKm σ70 := by rw [e72]; exact OKm.setl hO _ _ _ (r67 _ rfl) (isLg_rowL (show shp 81 = (2, 330, []) from rfl) _)
                  refine G_last (n := 330) rfl c69.1 c69.2 dX12_summedUp_283 ?_
                  rw [← e72]
                  refine G_goto (tgt := 400) dX12_summedUp_284 (by decide) ?_
                  refine G_iinc (lv' := [(7, aI ((v7 + 1))), (5, aI ((v5 + (-1)))), (9, aI (((σ 77 ((v4 + (2 * v7)) + 1))))), (8, aI ((σ 77 (v4 + (2 * v7))))), (0, aR (74)), (3, aI (v3)), (4, aI (v4)), (6, aI (v6))]) (k := 7) rfl rfl (by decide) dX12_summedUp_400 ?_
                  refine G_goto (tgt := 38) dX12_summedUp_403 (by decide) ?_
                  obtain ⟨c73, h⟩ := h
                  obtain ⟨c74, h⟩ := h
                  exact G_pick [4, 5, 6, 1, 7, 0] rfl (h hv3 hv4 c73 hv6 c74 o71)
            · have h := h.2 c13
              exact G_pick [2, 3, 4, 5, 6, 7, 1] rfl (h hv3 hv4 hv5 hv6 hv7 (OKm.i hO 77 (v4 + (2 * v7)) (isLg_row (show shp 77 = (1, 2916, []) from rfl) _)) hO)
        · have h := h.2 c11
          refine G_iinc (lv' := [(5, aI ((v5 + (-1)))), (9, aI (((σ 77 ((v4 + (2 * v7)) + 1))))), (8, aI ((σ 77 (v4 + (2 * v7))))), (0, aR (74)), (3, aI (v3)), (4, aI (v4)), (6, aI (v6)), (7, aI (v7))]) (k := 5) rfl rfl (by decide) dX12_summedUp_125 ?_
          refine G_iinc (lv' := [(6, aI ((v6 + (-1)))), (5, aI ((v5 + (-1)))), (9, aI (((σ 77 ((v4 + (2 * v7)) + 1))))), (8, aI ((σ 77 (v4 + (2 * v7))))), (0, aR (74)), (3, aI (v3)), (4, aI (v4)), (7, aI (v7))]) (k := 6) rfl rfl (by decide) dX12_summedUp_128 ?_
          refine G_aload_n 4 rfl rfl dX12_summedUp_131 ?_
          refine G_get (k := 22) (kd := (2, 82)) (v := aR 82) gf_X12_39 rfl rfl rfl rfl dX12_summedUp_132 ?_
          refine G_iload 0 rfl dX12_summedUp_135 ?_
          obtain ⟨c75, h⟩ := h
          refine G_zald (n := 330) rfl c75.1 c75.2 dX12_summedUp_137 ?_
          refine G_if_ne (OKm.i hO 82 (v6 + (-1)) (isLg_rowZ (show shp 82 = (3, 330, []) from rfl) _)) dX12_summedUp_138 (tgt := 400) (by decide) (fun c76 => ?_) (fun c76 => ?_)
          · have h := h.1 c76
            refine G_iinc (lv' := [(7, aI ((v7 + 1))), (6, aI ((v6 + (-1)))), (5, aI ((v5 + (-1)))), (9, aI (((σ 77 ((v4 + (2 * v7)) + 1))))), (8, aI ((σ 77 (v4 + (2 * v7))))), (0, aR (74)), (3, aI (v3)), (4, aI (v4))]) (k := 7) rfl rfl (by decide) dX12_summedUp_400 ?_
            refine G_goto (tgt := 38) dX12_summedUp_403 (by decide) ?_
            obtain ⟨c77, h⟩ := h
            obtain ⟨c78, h⟩ := h
            obtain ⟨c79, h⟩ := h
            exact G_pick [5, 6, 7, 2, 1, 0] rfl (h hv3 hv4 c77 c78 c79 hO)
          · have h := h.2 c76
            refine G_aload_n 4 rfl rfl dX12_summedUp_141 ?_
            refine G_get (k := 21) (kd := (2, 81)) (v := aR 81) gf_X12_35 rfl rfl rfl rfl dX12_summedUp_142 ?_
            refine G_iload 1 rfl dX12_summedUp_145 ?_
            refine G_iconst dX12_summedUp_147 ?_
            refine G_isub dX12_summedUp_148 ?_
            refine G_aload_n 4 rfl rfl dX12_summedUp_149 ?_
            refine G_get (k := 21) (kd := (2, 81)) (v := aR 81) gf_X12_35 rfl rfl rfl rfl dX12_summedUp_150 ?_
            refine G_iload 1 rfl dX12_summedUp_153 ?_
            obtain ⟨c80, h⟩ := h
            refine G_lald (n := 330) rfl c80.1 c80.2 dX12_summedUp_155 ?_
            obtain ⟨c81, h⟩ := h
            obtain ⟨σ82, e84⟩ : ∃ τ : Mem, τ = mset σ 81 ((v5 + (-1)) - 1) (σ 81 (v5 + (-1))) := ⟨_, rfl⟩
            have h := h σ82 e84
            have o83 : OKm σ82 := by rw [e84]; exact OKm.setl hO _ _ _ (OKm.l hO 81 (v5 + (-1)) (isLg_rowL (show shp 81 = (2, 330, []) from rfl) _)) (isLg_rowL (show shp 81 = (2, 330, []) from rfl) _)
            refine G_last (n := 330) rfl c81.1 c81.2 dX12_summedUp_156 ?_
            rw [← e84]
            refine G_goto (tgt := 400) dX12_summedUp_157 (by decide) ?_
            refine G_iinc (lv' := [(7, aI ((v7 + 1))), (6, aI ((v6 + (-1)))), (5, aI ((v5 + (-1)))), (9, aI (((σ 77 ((v4 + (2 * v7)) + 1))))), (8, aI ((σ 77 (v4 + (2 * v7))))), (0, aR (74)), (3, aI (v3)), (4, aI (v4))]) (k := 7) rfl rfl (by decide) dX12_summedUp_400 ?_
            refine G_goto (tgt := 38) dX12_summedUp_403 (by decide) ?_
            obtain ⟨c85, h⟩ := h
            obtain ⟨c86, h⟩ := h
            obtain ⟨c87, h⟩ := h
            exact G_pick [5, 6, 7, 2, 1, 0] rfl (h hv3 hv4 c85 c86 c87 o83)
      · have h := h.2 c10
        refine G_aload_n 2 rfl rfl dX12_summedUp_87 ?_
        refine G_get (k := 21) (kd := (2, 81)) (v := aR 81) gf_X12_35 rfl rfl rfl rfl dX12_summedUp_88 ?_
        refine G_iload 5 rfl dX12_summedUp_91 ?_
        refine G_iload 1 rfl dX12_summedUp_93 ?_
        refine G_if_ne (OKm.i hO 77 (v4 + (2 * v7)) (isLg_row (show shp 77 = (1, 2916, []) from rfl) _)) dX12_summedUp_95 (tgt := 104) (by decide) (fun c88 => ?_) (fun c88 => ?_)
        · have h := h.1 c88
          refine G_aload_n 2 rfl rfl dX12_summedUp_104 ?_
          refine G_get (k := 20) (kd := (2, 80)) (v := aR 80) gf_X12_32 rfl rfl rfl rfl dX12_summedUp_105 ?_
          refine G_iload 0 rfl dX12_summedUp_108 ?_
          obtain ⟨c89, h⟩ := h
          refine G_iald (n := 9) rfl c89.1 c89.2 dX12_summedUp_110 ?_
          refine G_i2l (OKm.i hO 80 ((σ 77 ((v4 + (2 * v7)) + 1))) (isLg_row (show shp 80 = (1, 9, []) from rfl) _)) dX12_summedUp_111 ?_
          obtain ⟨c90, h⟩ := h
          obtain ⟨σ91, e93⟩ : ∃ τ : Mem, τ = mset σ 81 v5 (σ 80 ((σ 77 ((v4 + (2 * v7)) + 1)))) := ⟨_, rfl⟩
          have h := h σ91 e93
          have o92 : OKm σ91 := by rw [e93]; exact OKm.setl hO _ _ _ (r32_64 (OKm.i hO 80 ((σ 77 ((v4 + (2 * v7)) + 1))) (isLg_row (show shp 80 = (1, 9, []) from rfl) _))) (isLg_rowL (show shp 81 = (2, 330, []) from rfl) _)
          refine G_last (n := 330) rfl c90.1 c90.2 dX12_summedUp_112 ?_
          rw [← e93]
          refine G_iinc (lv' := [(5, aI ((v5 + 1))), (9, aI (((σ 77 ((v4 + (2 * v7)) + 1))))), (8, aI ((σ 77 (v4 + (2 * v7))))), (0, aR (74)), (3, aI (v3)), (4, aI (v4)), (6, aI (v6)), (7, aI (v7))]) (k := 5) rfl rfl (by decide) dX12_summedUp_113 ?_
          refine G_goto (tgt := 400) dX12_summedUp_116 (by decide) ?_
          refine G_iinc (lv' := [(7, aI ((v7 + 1))), (5, aI ((v5 + 1))), (9, aI (((σ 77 ((v4 + (2 * v7)) + 1))))), (8, aI ((σ 77 (v4 + (2 * v7))))), (0, aR (74)), (3, aI (v3)), (4, aI (v4)), (6, aI (v6))]) (k := 7) rfl rfl (by decide) dX12_summedUp_400 ?_
          refine G_goto (tgt := 38) dX12_summedUp_403 (by decide) ?_
          obtain ⟨c94, h⟩ := h
          obtain ⟨c95, h⟩ := h
          exact G_pick [4, 5, 6, 1, 7, 0] rfl (h hv3 hv4 c94 hv6 c95 o92)
        · have h := h.2 c88
          refine G_iload 0 rfl dX12_summedUp_98 ?_
          refine G_i2l (OKm.i hO 77 ((v4 + (2 * v7)) + 1) (isLg_row (show shp 77 = (1, 2916, []) from rfl) _)) dX12_summedUp_100 ?_
          refine G_goto (tgt := 112) dX12_summedUp_101 (by decide) ?_
          obtain ⟨c96, h⟩ := h
          obtain ⟨σ97, e99⟩ : ∃ τ : Mem, τ = mset σ 81 v5 ((σ 77 ((v4 + (2 * v7)) + 1))) := ⟨_, rfl⟩
          have h := h σ97 e99
          have o98 : OKm σ97 := by rw [e99]; exact OKm.setl hO _ _ _ (r32_64 (OKm.i hO 77 ((v4 + (2 * v7)) + 1) (isLg_row (show shp 77 = (1, 2916, []) from rfl) _))) (isLg_rowL (show shp 81 = (2, 330, []) from rfl) _)
          refine G_last (n := 330) rfl c96.1 c96.2 dX12_summedUp_112 ?_
          rw [← e99]
          refine G_iinc (lv' := [(5, aI ((v5 + 1))), (9, aI (((σ 77 ((v4 + (2 * v7)) + 1))))), (8, aI ((σ 77 (v4 + (2 * v7))))), (0, aR (74)), (3, aI (v3)), (4, aI (v4)), (6, aI (v6)), (7, aI (v7))]) (k := 5) rfl rfl (by decide) dX12_summedUp_113 ?_
          refine G_goto (tgt := 400) dX12_summedUp_116 (by decide) ?_
          refine G_iinc (lv' := [(7, aI ((v7 + 1))), (5, aI ((v5 + 1))), (9, aI (((σ 77 ((v4 + (2 * v7)) + 1))))), (8, aI ((σ 77 (v4 + (2 * v7))))), (0, aR (74)), (3, aI (v3)), (4, aI (v4)), (6, aI (v6))]) (k := 7) rfl rfl (by decide) dX12_summedUp_400 ?_
          refine G_goto (tgt := 38) dX12_summedUp_403 (by decide) ?_
          obtain ⟨c100, h⟩ := h
          obtain ⟨c101, h⟩ := h
          exact G_pick [4, 5, 6, 1, 7, 0] rfl (h hv3 hv4 c100 hv6 c101 o98)
  · intro v3 v4 v5 v6 v7 v8 σ h hv3 hv4 hv5 hv6 hv7 hv8 hO
    have h := h hv3 hv4 hv5 hv6 hv7 hv8 hO
    refine G_aload_n 0 rfl rfl dX12_summedUp_172 ?_
    refine G_get (k := 21) (kd := (2, 81)) (v := aR 81) gf_X12_35 rfl rfl rfl rfl dX12_summedUp_173 ?_
    refine G_iload 3 rfl dX12_summedUp_176 ?_
    refine G_iconst dX12_summedUp_178 ?_
    refine G_isub dX12_summedUp_179 ?_
    refine G_iload 6 rfl dX12_summedUp_180 ?_
    refine G_iconst dX12_summedUp_182 ?_
    refine G_icmp_ne hv8 (rL 5 rfl) dX12_summedUp_183 (tgt := 199) (by decide) (fun c102 => ?_) (fun c102 => ?_)
    · have h := h.1 c102
      refine G_aload_n 0 rfl rfl dX12_summedUp_199 ?_
      refine G_aload_n 0 rfl rfl dX12_summedUp_200 ?_
      refine G_get (k := 21) (kd := (2, 81)) (v := aR 81) gf_X12_35 rfl rfl rfl rfl dX12_summedUp_201 ?_
      refine G_iload 3 rfl dX12_summedUp_204 ?_
      refine G_iconst dX12_summedUp_206 ?_
      refine G_isub dX12_summedUp_207 ?_
      obtain ⟨c103, h⟩ := h
      refine G_lald (n := 330) rfl c103.1 c103.2 dX12_summedUp_208 ?_
      obtain ⟨c104, h⟩ := h
      refine G_callV (as := [_]) cf_X12_279 rfl rfl rfl (sp_X12_roadsOf (d - 1) (by omega) _ hO _ (OKm.l hO 81 (v5 - 1) (isLg_rowL (show shp 81 = (2, 330, []) from rfl) _)) c104) (by omega) rfl rfl (Nat.le_of_ble_eq_true rfl) dX12_summedUp_209 ?_
      rintro _ _ ⟨_, rfl, rfl, rfl⟩ o106 r105
      obtain ⟨c107, h⟩ := h
      obtain ⟨σ108, e110⟩ : ∃ τ : Mem, τ = mset σ 81 (v5 - 1) (thk0 (σ 75 0) (fun r => σ 75 (11 + r)) (σ 81 (v5 - 1))) := ⟨_, rfl⟩
      have h := h σ108 e110
      have o109 : OKm σ108 := by rw [e110]; exact OKm.setl hO _ _ _ (r105 _ rfl) (isLg_rowL (show shp 81 = (2, 330, []) from rfl) _)
      refine G_last (n := 330) rfl c107.1 c107.2 dX12_summedUp_212 ?_
      rw [← e110]
      refine G_goto (tgt := 400) dX12_summedUp_213 (by decide) ?_
      refine G_iinc (lv' := [(7, aI ((v7 + 1))), (0, aR (74)), (3, aI (v3)), (4, aI (v4)), (5, aI (v5)), (6, aI (v6)), (8, aI (v8))]) (k := 5) rfl rfl (by decide) dX12_summedUp_400 ?_
      refine G_goto (tgt := 38) dX12_summedUp_403 (by decide) ?_
      obtain ⟨c111, h⟩ := h
      exact G_pick [1, 2, 3, 4, 5, 0] rfl (h hv3 hv4 hv5 hv6 c111 o109)
    · have h := h.2 c102
      refine G_aload_n 0 rfl rfl dX12_summedUp_186 ?_
      refine G_get (k := 21) (kd := (2, 81)) (v := aR 81) gf_X12_35 rfl rfl rfl rfl dX12_summedUp_187 ?_
      refine G_iload 3 rfl dX12_summedUp_190 ?_
      refine G_iconst dX12_summedUp_192 ?_
      refine G_isub dX12_summedUp_193 ?_
      obtain ⟨c112, h⟩ := h
      refine G_lald (n := 330) rfl c112.1 c112.2 dX12_summedUp_194 ?_
      refine G_lneg dX12_summedUp_195 ?_
      refine G_goto (tgt := 212) dX12_summedUp_196 (by decide) ?_
      obtain ⟨c113, h⟩ := h
      obtain ⟨c114, h⟩ := h
      obtain ⟨σ115, e117⟩ : ∃ τ : Mem, τ = mset σ 81 (v5 - 1) (-(σ 81 (v5 - 1))) := ⟨_, rfl⟩
      have h := h σ115 e117
      have o116 : OKm σ115 := by rw [e117]; exact OKm.setl hO _ _ _ c114 (isLg_rowL (show shp 81 = (2, 330, []) from rfl) _)
      refine G_last (n := 330) rfl c113.1 c113.2 dX12_summedUp_212 ?_
      rw [← e117]
      refine G_goto (tgt := 400) dX12_summedUp_213 (by decide) ?_
      refine G_iinc (lv' := [(7, aI ((v7 + 1))), (0, aR (74)), (3, aI (v3)), (4, aI (v4)), (5, aI (v5)), (6, aI (v6)), (8, aI (v8))]) (k := 5) rfl rfl (by decide) dX12_summedUp_400 ?_
      refine G_goto (tgt := 38) dX12_summedUp_403 (by decide) ?_
      obtain ⟨c118, h⟩ := h
      exact G_pick [1, 2, 3, 4, 5, 0] rfl (h hv3 hv4 hv5 hv6 c118 o116)

theorem sp_X12_summedUp (d : Nat) (hd : 2 ≤ d) (σ : Mem) (hO : OKm σ) (x1 : Int) (hx1 : R32 x1) (x2 : Int) (hx2 : R32 x2) (f : Env → Int) (hpre : (0 ≤ x1 ∧ x1 < 4) ∧ (0 ≤ x2 ∧ x2 < 24) ∧ 0 ≤ σ 77 (729 * x1 + 1 + 5 * x2 + 1) ∧ σ 77 (729 * x1 + 1 + 5 * x2 + 2) ≤ 304 ∧ FM (cdM σ x1) (ovM σ x1) (σ 77 (729 * x1 + 1 + 5 * x2 + 1)) (σ 77 (729 * x1 + 1 + 5 * x2 + 2)) f ∧ okE (envM σ) ∧ σ 75 0 ≤ 16) : Mt yX12_summedUp cX12_summedUp 10 (some .long) d [aR (74), aI (x1), aI (x2)] σ (QL (fun v σ' => v = f (envM σ) ∧ Fr [81, 82] σ σ')) := mt_X12_summedUp hd hx1 hx2 hO (by
  unfold wp_X12_summedUp
  intro P38 P172 h38 h172
  obtain ⟨hx1r, hx2r, ha, hb, hF, hE, h75⟩ := hpre
  have hab := hF.1
  have m7 : ∀ vs ts, mr2 σ vs ts 77 = σ 77 := fun vs ts => mr2_off (by omega)
  have m5 : ∀ vs ts, mr2 σ vs ts 75 = σ 75 := fun vs ts => mr2_off (by omega)
  have m8 : ∀ vs ts, mr2 σ vs ts 80 = σ 80 := fun vs ts => mr2_off (by omega)
  refine ⟨by unfold R32; omega, ?_⟩
  intro y ey
  rw [← ey] at ha hb hF hab
  refine ⟨by omega, by unfold R32; omega, ?_⟩
  generalize hcb : 729 * x1 + 121 = cb at *
  have hy : 0 ≤ y ∧ y + 5 < 2916 := by omega
  have hcbr : 0 ≤ cb ∧ cb ≤ 2308 := by omega
  have ecd : ∀ i, cdM σ x1 i = σ 77 (cb + 2 * i) := fun i => by unfold cdM; rw [hcb]
  have eov : ∀ i, ovM σ x1 i = σ 77 (cb + 2 * i + 1) := fun i => by unfold ovM; rw [hcb]
  have ewp : ∀ k, (envM σ).1 k = σ 80 k := fun k => rfl
  have e2p : ∀ q, (envM σ).2 q = thk0 (σ 75 0) (fun r => σ 75 (11 + r)) q := fun q => rfl
  have hB : BackM (cdM σ x1) (ovM σ x1) (envM σ) (σ 77 (y + 1)) (σ 77 (y + 2)) (fun a n m vs ts => P38 y cb n m a (mr2 σ vs ts)) := by
    refine ⟨fun a n m vs ts q1 q2 q3 q4 q5 q6 hs ht c1 K => ?_, fun a n m vs ts q1 q2 q3 q4 q5 q6 hs ht c1 c2 c3 K => ?_, fun a n m vs ts q1 q2 q3 q4 q5 q6 hs ht c1 K => ?_, fun a n m vs ts q1 q2 q3 q4 q5 q6 hs ht c1 K => ?_, fun a n m vs ts q1 q2 q3 q4 q5 q6 hs ht c1 K => ?_, fun a n m vs ts q1 q2 q3 q4 q5 q6 hs ht c1 K => ?_, fun a n m vs ts q1 q2 q3 q4 q5 q6 hs ht c1 K => ?_, fun a n m vs ts q1 q2 q3 q4 q5 q6 hs ht c1 K => ?_⟩ <;> simp only [ecd, eov, ewp, e2p] at * <;>
      have ra : R32 (a + 1) := by unfold R32; omega
    · refine h38 _ _ _ _ _ _ (fun _ _ _ _ _ _ => ?_)
      simp only [m7, m5, m8, mr2_81, mr2_82, mr2_s81, mr2_s82, c1]
      refine ⟨by omega, fun h => absurd h (by omega), fun _ => ⟨by omega, by omega, ?_⟩⟩
      intro z ez
      refine ⟨fun h => absurd h (by omega), fun _ => ⟨fun h => absurd rfl h, fun _ => ⟨by omega, ?_⟩⟩⟩
      intro _ e; subst e
      rw [ez]
      exact ⟨by unfold R32; omega, ra, K⟩
    · refine h38 _ _ _ _ _ _ (fun _ _ _ _ _ _ => ?_)
      simp only [m7, m5, m8, mr2_81, mr2_82, mr2_s81, mr2_s82, c1]
      refine ⟨by omega, fun h => absurd h (by omega), fun _ => ⟨by omega, by omega, ?_⟩⟩
      intro z ez
      rw [← ez] at c2 c3 K
      refine ⟨fun h => absurd h (by omega), fun _ => ⟨fun _ => ⟨by omega, by omega, ?_⟩, fun h => absurd h (by omega)⟩⟩
      intro _ e; subst e
      exact ⟨by unfold R32; omega, ra, K⟩
    · have hM := hs (n - 1) (by omega) (by omega)
      unfold Mil at hM
      refine h38 _ _ _ _ _ _ (fun _ _ _ _ _ _ => ?_)
      have hP : P172 y cb n m a (σ 77 (cb + 2 * a)) (mr2 σ vs ts) := by
        refine h172 _ _ _ _ _ _ _ (fun _ _ _ _ _ _ _ => ?_)
        simp only [m7, m5, m8, mr2_81, mr2_82, mr2_s81, mr2_s82]
        refine ⟨fun h5 => ⟨by omega, h75, by omega, ?_⟩, fun h5 => ⟨by omega, by omega, by unfold R64; omega, ?_⟩⟩
        · intro _ e; subst e
          rw [if_neg h5] at K
          exact ⟨ra, K⟩
        · intro _ e; subst e
          rw [if_pos h5] at K
          exact ⟨ra, K⟩
      simp only [m7, m5, m8, mr2_81, mr2_82, mr2_s81, mr2_s82]
      refine ⟨by omega, fun h => absurd h (by omega), fun _ => ⟨by omega, by omega, ?_⟩⟩
      intro z ez
      exact ⟨fun _ => ⟨fun _ => ⟨fun _ => hP, fun h5 => ⟨fun h => absurd h (by omega), fun _ => hP⟩⟩, fun h => absurd h (by omega)⟩, fun h => absurd h (by omega)⟩
    · refine h38 _ _ _ _ _ _ (fun _ _ _ _ _ _ => ?_)
      simp only [m7, m5, m8, mr2_81, mr2_82, mr2_s81, mr2_s82, c1, show n + -1 = n - 1 by omega, show n - 1 - 1 = n - 2 by omega, show m + -1 = m - 1 by omega]
      refine ⟨by omega, fun h => absurd h (by omega), fun _ => ⟨by omega, by omega, ?_⟩⟩
      intro z ez
      refine ⟨fun _ => ⟨fun h => absurd rfl h, fun _ => ⟨by omega, fun hz => ?_, fun hz => ⟨by omega, by omega, ?_⟩⟩⟩, fun h => absurd h (by omega)⟩
      · rw [if_neg hz] at K
        exact ⟨by unfold R32; omega, by unfold R32; omega, ra, K⟩
      · intro _ e; subst e
        rw [if_pos hz] at K
        exact ⟨by unfold R32; omega, by unfold R32; omega, ra, K⟩
    · have hM := hs (n - 1) (by omega) (by omega)
      have hM2 := hs (n - 2) (by omega) (by omega)
      unfold Mil at hM hM2
      refine h38 _ _ _ _ _ _ (fun _ _ _ _ _ _ => ?_)
      simp only [m7, m5, m8, mr2_81, mr2_82, mr2_s81, mr2_s82, show n + -1 = n - 1 by omega, show n - 1 - 1 = n - 2 by omega]
      refine ⟨by omega, fun h => absurd h (by omega), fun _ => ⟨by omega, by omega, ?_⟩⟩
      intro z ez
      refine ⟨fun _ => ⟨fun _ => ⟨fun h => absurd h (by omega), fun _ => ⟨fun _ => ⟨fun h => absurd h (by omega), fun _ => ⟨fun h4 => ⟨by omega, by omega, by omega, by omega, ?_⟩, fun h4 => ⟨by omega, by omega, by omega, by omega, ?_⟩⟩⟩, fun h => absurd h (by omega)⟩⟩, fun h => absurd h (by omega)⟩, fun h => absurd h (by omega)⟩
      · intro _ e; subst e
        rw [if_neg h4] at K
        exact ⟨by unfold R32; omega, ra, K⟩
      · intro _ e; subst e
        rw [if_pos h4] at K
        exact ⟨by unfold R32; omega, ra, K⟩
    · refine h38 _ _ _ _ _ _ (fun _ _ _ _ _ _ => ?_)
      simp only [m7, m5, m8, mr2_81, mr2_82, mr2_s81, mr2_s82, show n + -2 = n - 2 by omega, show n - 2 + 1 = n - 1 by omega]
      refine ⟨by omega, fun h => absurd h (by omega), fun _ => ⟨by omega, by omega, ?_⟩⟩
      intro z ez
      refine ⟨fun _ => ⟨fun _ => ⟨fun h => absurd h (by omega), fun _ => ⟨fun _ => ⟨fun _ => ⟨fun h => absurd h (by omega), fun _ => ⟨by omega, by omega, by omega, askI_01 _ _ _, ?_⟩⟩, fun h => absurd h (by omega)⟩, fun h => absurd h (by omega)⟩⟩, fun h => absurd h (by omega)⟩, fun h => absurd h (by omega)⟩
      intro _ e; subst e
      exact ⟨by unfold R32; omega, by unfold R32; omega, ra, K⟩
    · refine h38 _ _ _ _ _ _ (fun _ _ _ _ _ _ => ?_)
      simp only [m7, m5, m8, mr2_81, mr2_82, mr2_s81, mr2_s82, c1]
      refine ⟨by omega, fun h => absurd h (by omega), fun _ => ⟨by omega, by omega, ?_⟩⟩
      intro z ez
      refine ⟨fun _ => ⟨fun _ => ⟨fun h => absurd h (by omega), fun _ => ⟨fun _ => ⟨fun _ => ⟨fun _ => ⟨fun h => absurd rfl h, fun _ => ⟨by omega, fun hz => ⟨by omega, ?_⟩, fun hz => ⟨by omega, ?_⟩⟩⟩, fun h => absurd h (by omega)⟩, fun h => absurd h (by omega)⟩, fun h => absurd h (by omega)⟩⟩, fun h => absurd h (by omega)⟩, fun h => absurd h (by omega)⟩
      · intro _ e; subst e
        rw [if_neg hz] at K
        exact ⟨ra, K⟩
      · intro _ e; subst e
        rw [if_pos hz] at K
        exact ⟨ra, K⟩
    · have h01 := andI_01 (σ 77 (cb + 2 * a)) (ts (m - 2)) (ts (m - 1))
      unfold andI at K h01
      refine h38 _ _ _ _ _ _ (fun _ _ _ _ _ _ => ?_)
      simp only [m7, m5, m8, mr2_81, mr2_82, mr2_s81, mr2_s82, show m + -1 = m - 1 by omega, show m - 1 - 1 = m - 2 by omega]
      refine ⟨by omega, fun h => absurd h (by omega), fun _ => ⟨by omega, by omega, ?_⟩⟩
      intro z ez
      refine ⟨fun _ => ⟨fun _ => ⟨fun h => absurd h (by omega), fun _ => ⟨fun _ => ⟨fun _ => ⟨fun _ => ⟨fun _ => ⟨by omega, by omega, by omega, h01, ?_⟩, fun h => absurd h (by omega)⟩, fun h => absurd h (by omega)⟩, fun h => absurd h (by omega)⟩, fun h => absurd h (by omega)⟩⟩, fun h => absurd h (by omega)⟩, fun h => absurd h (by omega)⟩
      intro _ e; subst e
      exact ⟨by unfold R32; omega, ra, K⟩
  have hfin := hF.2 (envM σ) _ hE hB 0 0 (σ 81) (σ 82) (by omega) (by omega) (by omega) (by omega) (fun j h0 h1 => by omega) (fun j h0 h1 => by omega) (fun vs' ts' _ _ e1 _ _ => ?_)
  · rw [mr2_id] at hfin; exact hfin
  · refine h38 _ _ _ _ _ _ (fun _ _ _ _ _ _ => ?_)
    simp only [m7, mr2_81]
    refine ⟨by omega, fun _ => ⟨e1, fun q hq => ?_⟩, fun h => absurd h (by omega)⟩
    simp only [List.mem_cons, List.not_mem_nil, or_false, not_or] at hq
    exact mr2_off hq)
