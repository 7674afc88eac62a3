/-! LAWS: a stretch of code that leaves the value f above what was on the stack; in the way of goals (Φ: what holds from here on). -/
def iset (s : Int → Int) (k v : Int) : Int → Int := fun j => if j = k then v else s j
theorem iset_hit {s : Int → Int} {k v j : Int} (h : j = k) : iset s k v j = v := by unfold iset; rw [if_pos h]
theorem iset_miss {s : Int → Int} {k v j : Int} (h : j ≠ k) : iset s k v j = s j := by unfold iset; rw [if_neg h]
def Mil (x : Int) : Prop := -1000000 ≤ x ∧ x ≤ 1000000
def okE (e : Env) : Prop := (∀ k : Int, 0 ≤ k → k ≤ 8 → Mil (e.1 k)) ∧ ∀ q : Int, Mil (e.2 q)
def Bd (f : Env → Int) : Prop := ∀ e, okE e → Mil (f e)
def isB (f : Env → Int) : Prop := ∀ e, f e = 0 ∨ f e = 1
theorem isB.bd {f : Env → Int} (h : isB f) : Bd f := fun e _ => by unfold Mil; rcases h e with h | h <;> omega
def bdd (k : Int) (s : Int → Int) : Prop := ∀ j : Int, 0 ≤ j → j < k → Mil (s j)
theorem bdd.push {k : Int} {s : Int → Int} {v : Int} (h : bdd k s) (hv : Mil v) : bdd (k + 1) (iset s k v) := by
  intro j h0 h1
  by_cases e : j = k
  · rw [iset_hit e]; exact hv
  · rw [iset_miss e]; exact h j h0 (by omega)
theorem bdd.repl {k i : Int} {s : Int → Int} {v : Int} (h : bdd k s) (hv : Mil v) : bdd k (iset s i v) := by
  intro j h0 h1
  by_cases e : j = i
  · rw [iset_hit e]; exact hv
  · rw [iset_miss e]; exact h j h0 h1
theorem bdd.less {k k' : Int} {s : Int → Int} (h : bdd k s) (hk : k' ≤ k) : bdd k' s := fun j h0 h1 => h j h0 (by omega)
/-- goals go back over each code of the stretch lo .. hi - 1 -/
def BackC (cd op : Int → Int) (e : Env) (lo hi : Int) (Φ : Int → Int → (Int → Int) → Prop) : Prop :=
  (∀ a k s, lo ≤ a → a < hi → 0 ≤ k → k < 64 → bdd k s → cd a = 41 → Φ (a + 1) (k + 1) (iset s k (op a)) → Φ a k s) ∧
  (∀ a k s, lo ≤ a → a < hi → 0 ≤ k → k < 64 → bdd k s → 0 ≤ cd a → cd a ≤ 8 → Φ (a + 1) (k + 1) (iset s k (e.1 (cd a))) → Φ a k s) ∧
  (∀ a k s, lo ≤ a → a < hi → 1 ≤ k → k ≤ 64 → bdd k s → (cd a = 44 ∨ cd a = 27 ∨ cd a = 20) → Φ (a + 1) k (iset s (k - 1) (aln e.2 (cd a) (s (k - 1)))) → Φ a k s) ∧
  (∀ a k s, lo ≤ a → a < hi → 2 ≤ k → k ≤ 64 → bdd k s → (cd a = 18 ∨ 25 ≤ cd a ∧ cd a ≤ 26 ∨ 28 ≤ cd a ∧ cd a ≤ 40) → Φ (a + 1) (k - 1) (iset s (k - 2) (jn (cd a) (s (k - 2)) (s (k - 1)))) → Φ a k s) ∧
  (∀ a k s, lo ≤ a → a < hi → 1 ≤ k → k ≤ 64 → bdd k s → cd a = 22 → op a < hi → Φ (if s (k - 1) = 0 then max a (op a) + 1 else a + 1) (k - 1) s → Φ a k s) ∧
  (∀ a k s, lo ≤ a → a < hi → 0 ≤ k → k ≤ 64 → bdd k s → cd a = 23 → op a < hi → Φ (max a (op a) + 1) k s → Φ a k s)
theorem BackC.sub {cd op : Int → Int} {e : Env} {lo hi lo' hi' : Int} {Φ : Int → Int → (Int → Int) → Prop} (h : BackC cd op e lo hi Φ) (h1 : lo ≤ lo') (h2 : hi' ≤ hi) : BackC cd op e lo' hi' Φ :=
  ⟨fun a k s q1 q2 => h.1 a k s (by omega) (by omega), fun a k s q1 q2 => h.2.1 a k s (by omega) (by omega), fun a k s q1 q2 => h.2.2.1 a k s (by omega) (by omega), fun a k s q1 q2 => h.2.2.2.1 a k s (by omega) (by omega), fun a k s q1 q2 q3 q4 q5 q6 q7 => h.2.2.2.2.1 a k s (by omega) (by omega) q3 q4 q5 q6 (by omega), fun a k s q1 q2 q3 q4 q5 q6 q7 => h.2.2.2.2.2 a k s (by omega) (by omega) q3 q4 q5 q6 (by omega)⟩
/-- the stretch a .. b - 1 leaves f; it needs so many places -/
def Fg (cd op : Int → Int) (a b : Int) (need : Int) (f : Env → Int) : Prop :=
  a < b ∧ 1 ≤ need ∧ ∀ (e : Env) (Φ : Int → Int → (Int → Int) → Prop), okE e → BackC cd op e a b Φ → ∀ (k : Int) (s : Int → Int), 0 ≤ k → k + need ≤ 64 → bdd k s →
    (∀ s', bdd (k + 1) s' → s' k = f e → (∀ j, 0 ≤ j → j < k → s' j = s j) → Φ b (k + 1) s') → Φ a k s
theorem BackC.congr {cd op cd' op' : Int → Int} {e : Env} {lo hi : Int} {Φ : Int → Int → (Int → Int) → Prop} (h : BackC cd' op' e lo hi Φ) (hc : ∀ i, lo ≤ i → i < hi → cd' i = cd i ∧ op' i = op i) : BackC cd op e lo hi Φ := by
  refine ⟨fun a k s q1 q2 q3 q4 q5 q6 q7 => ?_, fun a k s q1 q2 q3 q4 q5 q6 q7 q8 => ?_, fun a k s q1 q2 q3 q4 q5 q6 q7 => ?_, fun a k s q1 q2 q3 q4 q5 q6 q7 => ?_, fun a k s q1 q2 q3 q4 q5 q6 q7 q8 => ?_, fun a k s q1 q2 q3 q4 q5 q6 q7 q8 => ?_⟩
  · have := hc a q1 q2; exact h.1 a k s q1 q2 q3 q4 q5 (by omega) (by rw [this.2]; exact q7)
  · have := hc a q1 q2; exact h.2.1 a k s q1 q2 q3 q4 q5 (by omega) (by omega) (by rw [this.1]; exact q8)
  · have := hc a q1 q2; exact h.2.2.1 a k s q1 q2 q3 q4 q5 (by omega) (by rw [this.1]; exact q7)
  · have := hc a q1 q2; exact h.2.2.2.1 a k s q1 q2 q3 q4 q5 (by omega) (by rw [this.1]; exact q7)
  · have := hc a q1 q2; exact h.2.2.2.2.1 a k s q1 q2 q3 q4 q5 (by omega) (by omega) (by rw [this.2]; exact q8)
  · have := hc a q1 q2; exact h.2.2.2.2.2 a k s q1 q2 q3 q4 q5 (by omega) (by omega) (by rw [this.2]; exact q8)
theorem Fg.congr {cd op cd' op' : Int → Int} {a b n : Int} {f : Env → Int} (h : Fg cd op a b n f) (hc : ∀ i, a ≤ i → i < b → cd' i = cd i ∧ op' i = op i) : Fg cd' op' a b n f :=
  ⟨h.1, h.2.1, fun e Φ he hB => h.2.2 e Φ he (hB.congr hc)⟩
theorem Fg.num {cd op : Int → Int} {a : Int} (h : cd a = 41) (hv : Mil (op a)) : Fg cd op a (a + 1) 1 (fun _ => op a) :=
  ⟨by omega, by omega, fun e Φ he hB k s h0 hk hs c => hB.1 a k s (by omega) (by omega) h0 (by omega) hs h (c _ (hs.push hv) (iset_hit rfl) (fun j _ hj => iset_miss (by omega)))⟩
theorem Fg.name {cd op : Int → Int} {a : Int} (h : 0 ≤ cd a ∧ cd a ≤ 8) : Fg cd op a (a + 1) 1 (fun e => e.1 (cd a)) :=
  ⟨by omega, by omega, fun e Φ he hB k s h0 hk hs c => hB.2.1 a k s (by omega) (by omega) h0 (by omega) hs h.1 h.2 (c _ (hs.push (he.1 _ h.1 h.2)) (iset_hit rfl) (fun j _ hj => iset_miss (by omega)))⟩
theorem Fg.alone {cd op : Int → Int} {a b n : Int} {f : Env → Int} (hf : Fg cd op a b n f) (h : cd b = 44 ∨ cd b = 27 ∨ cd b = 20) (hb : ∀ e, okE e → Mil (aln e.2 (cd b) (f e))) : Fg cd op a (b + 1) n (fun e => aln e.2 (cd b) (f e)) := by
  refine ⟨by have := hf.1; omega, hf.2.1, fun e Φ he hB k s h0 hk hs c => ?_⟩
  have hn := hf.2.1
  refine hf.2.2 e Φ he (hB.sub (by omega) (by omega)) k s h0 hk hs (fun s1 hs1 e1 e2 => ?_)
  refine hB.2.2.1 b (k + 1) s1 (by have := hf.1; omega) (by omega) (by omega) (by omega) hs1 h ?_
  rw [show k + 1 - 1 = k by omega, e1]
  exact c _ (hs1.repl (hb e he)) (iset_hit rfl) (fun j q1 q2 => by rw [iset_miss (by omega)]; exact e2 j q1 q2)
theorem Fg.join {cd op : Int → Int} {a b c n m : Int} {f g : Env → Int} (hf : Fg cd op a b n f) (hg : Fg cd op b c m g) (h : cd c = 18 ∨ 25 ≤ cd c ∧ cd c ≤ 26 ∨ 28 ≤ cd c ∧ cd c ≤ 40) (hb : ∀ e, okE e → Mil (jn (cd c) (f e) (g e))) : Fg cd op a (c + 1) (max n (m + 1)) (fun e => jn (cd c) (f e) (g e)) := by
  have h1 := hf.1
  have h2 := hg.1
  refine ⟨by omega, by have := hf.2.1; omega, fun e Φ he hB k s h0 hk hs cont => ?_⟩
  refine hf.2.2 e Φ he (hB.sub (by omega) (by omega)) k s h0 (by omega) hs (fun s1 hs1 e1 e2 => ?_)
  refine hg.2.2 e Φ he (hB.sub (by omega) (by omega)) (k + 1) s1 (by omega) (by omega) hs1 (fun s2 hs2 e3 e4 => ?_)
  have hm := hg.2.1
  refine hB.2.2.2.1 c (k + 1 + 1) s2 (by omega) (by omega) (by omega) (by omega) hs2 h ?_
  rw [show k + 1 + 1 - 2 = k by omega, show k + 1 + 1 - 1 = k + 1 by omega, e3, e4 k h0 (by omega), e1]
  exact cont _ ((hs2.less (by omega)).repl (hb e he)) (iset_hit rfl) (fun j q1 q2 => by rw [iset_miss (by omega), e4 j q1 (by omega)]; exact e2 j q1 q2)
theorem Fg.choice {cd op : Int → Int} {a b c d n m l : Int} {f g q : Env → Int} (hq : Fg cd op a b n q) (ht : cd b = 22) (hto : op b = c) (hf : Fg cd op (b + 1) c m f) (he' : cd c = 23) (heo : op c = d - 1) (hg : Fg cd op (c + 1) d l g) : Fg cd op a d (max n (max m l)) (fun e => if q e = 0 then g e else f e) := by
  have h1 := hq.1
  have h2 := hf.1
  have h3 := hg.1
  refine ⟨by omega, by have := hq.2.1; omega, fun e Φ he hB k s h0 hk hs cont => ?_⟩
  refine hq.2.2 e Φ he (hB.sub (by omega) (by omega)) k s h0 (by omega) hs (fun s1 hs1 e1 e2 => ?_)
  have hn := hq.2.1
  refine hB.2.2.2.2.1 b (k + 1) s1 (by omega) (by omega) (by omega) (by omega) hs1 ht (by omega) ?_
  rw [show k + 1 - 1 = k by omega, e1]
  by_cases hz : q e = 0
  · rw [if_pos hz, hto, show max b c + 1 = c + 1 by omega]
    refine hg.2.2 e Φ he (hB.sub (by omega) (by omega)) k s1 h0 (by omega) (hs1.less (by omega)) (fun s2 hs2 e3 e4 => ?_)
    exact cont s2 hs2 (by rw [e3]; simp only [if_pos hz]) (fun j q1 q2 => by rw [e4 j q1 q2]; exact e2 j q1 q2)
  · rw [if_neg hz]
    refine hf.2.2 e Φ he (hB.sub (by omega) (by omega)) k s1 h0 (by omega) (hs1.less (by omega)) (fun s2 hs2 e3 e4 => ?_)
    refine hB.2.2.2.2.2 c (k + 1) s2 (by omega) (by omega) (by omega) (by omega) hs2 he' (by omega) ?_
    rw [heo, show max c (d - 1) + 1 = d by omega]
    exact cont s2 hs2 (by rw [e3]; simp only [if_neg hz]) (fun j q1 q2 => by rw [e4 j q1 q2]; exact e2 j q1 q2)
def envC (σ : Mem) (g r : Int) : Env := (fun k => nmC σ k g r, thk0 (σ 1 8) (σ 11))

theorem mset_mrow {σ : Mem} {p : Nat} {s : Int → Int} {k v : Int} : mset (mrow σ p s) p k v = mrow σ p (iset s k v) := by
  funext q j
  unfold mset mrow iset
  by_cases h : q = p
  · simp [h]
  · simp [h]
theorem nmC_row {σ : Mem} {s : Int → Int} {k g r : Int} : nmC (mrow σ 37 s) k g r = nmC σ k g r := by
  unfold nmC; simp (disch := omega) only [mrow_off]
theorem mrow_id {σ : Mem} {p : Nat} : mrow σ p (σ p) = σ := by
  funext q j; unfold mrow; split
  · rename_i h; rw [h]
  · rfl

def wp_X2_value (t : Nat) (x2 : Int) (x3 : Int) (x4 : Int) (x5 : Int) (σ : Mem) (Q : Int → Mem → Prop) : Prop :=
 ∀ P6 : Int → Int → Int → Int → Int → Mem → Prop,
 (∀ (v3 : Int) (v4 : Int) (v5 : Int) (v6 : Int) (v7 : Int) (σ : Mem), (R32 v3 → R32 v4 → R32 v5 → R32 v6 → R32 v7 → OKm σ →
   ((v3 ≤ v7) →
     Q (σ 37 0) σ) ∧
    ((v7 < v3) →
     (0 ≤ v7 ∧ v7 < 300) ∧
     (0 ≤ v7 ∧ v7 < 300) ∧
     (((σ (t + 1) v7) ≠ 23) →
      (((σ (t + 1) v7) = 41) →
       ((64 ≤ v6) →
        R32 (v7 + 1) ∧ P6 v3 v4 v5 v6 (v7 + 1) σ) ∧
       ((v6 < 64) →
        (((σ (t + 1) v7) ≠ 41) →
         (0 ≤ v5 ∧ v5 < 16 ∧ σ 1 9 ≤ 6) ∧
         (0 ≤ v6 ∧ v6 < 64) ∧
         ∀ σ13 : Mem, σ13 = mset σ 37 v6 (nmC σ (σ (t + 1) v7) v4 v5) →
         R32 (v6 + 1) ∧ R32 (v7 + 1) ∧ P6 v3 v4 v5 (v6 + 1) (v7 + 1) σ13) ∧
        (((σ (t + 1) v7) = 41) →
         (0 ≤ v6 ∧ v6 < 64) ∧
         ∀ σ19 : Mem, σ19 = mset σ 37 v6 (σ (t + 2) v7) →
         R32 (v6 + 1) ∧ R32 (v7 + 1) ∧ P6 v3 v4 v5 (v6 + 1) (v7 + 1) σ19))) ∧
      (((σ (t + 1) v7) ≠ 41) →
       ((8 < (σ (t + 1) v7)) →
        (((σ (t + 1) v7) ≠ 22) →
         (((σ (t + 1) v7) = 44) →
          R32 (v6 - 1) ∧
          (0 ≤ (max 0 (v6 - 1)) ∧ (max 0 (v6 - 1)) < 64) ∧
          (-1000001 ≤ (σ 37 (max 0 (v6 - 1))) ∧ (σ 37 (max 0 (v6 - 1))) ≤ 1000001 ∧ σ 1 8 ≤ 16) ∧
          (0 ≤ (max 0 (v6 - 1)) ∧ (max 0 (v6 - 1)) < 64) ∧
          ∀ σ33 : Mem, σ33 = mset σ 37 (max 0 (v6 - 1)) (aln (thk0 (σ 1 8) (σ 11)) (σ (t + 1) v7) (σ 37 (max 0 (v6 - 1)))) →
          R32 (v7 + 1) ∧ P6 v3 v4 v5 v6 (v7 + 1) σ33) ∧
         (((σ (t + 1) v7) ≠ 44) →
          (((σ (t + 1) v7) = 27) →
           R32 (v6 - 1) ∧
           (0 ≤ (max 0 (v6 - 1)) ∧ (max 0 (v6 - 1)) < 64) ∧
           (-1000001 ≤ (σ 37 (max 0 (v6 - 1))) ∧ (σ 37 (max 0 (v6 - 1))) ≤ 1000001 ∧ σ 1 8 ≤ 16) ∧
           (0 ≤ (max 0 (v6 - 1)) ∧ (max 0 (v6 - 1)) < 64) ∧
           ∀ σ44 : Mem, σ44 = mset σ 37 (max 0 (v6 - 1)) (aln (thk0 (σ 1 8) (σ 11)) (σ (t + 1) v7) (σ 37 (max 0 (v6 - 1)))) →
           R32 (v7 + 1) ∧ P6 v3 v4 v5 v6 (v7 + 1) σ44) ∧
          (((σ (t + 1) v7) ≠ 27) →
           (((σ (t + 1) v7) ≠ 20) →
            ((v6 ≤ 1) →
             R32 (v7 + 1) ∧ P6 v3 v4 v5 v6 (v7 + 1) σ) ∧
            ((1 < v6) →
             (0 ≤ ((v6 + (-1)) - 1) ∧ ((v6 + (-1)) - 1) < 64) ∧
             (0 ≤ (v6 + (-1)) ∧ (v6 + (-1)) < 64) ∧
             (-1000001 ≤ (σ 37 ((v6 + (-1)) - 1)) ∧ (σ 37 ((v6 + (-1)) - 1)) ≤ 1000001 ∧ -1000001 ≤ (σ 37 (v6 + (-1))) ∧ (σ 37 (v6 + (-1))) ≤ 1000001) ∧
             (0 ≤ ((v6 + (-1)) - 1) ∧ ((v6 + (-1)) - 1) < 64) ∧
             ∀ σ57 : Mem, σ57 = mset σ 37 ((v6 + (-1)) - 1) (jn (σ (t + 1) v7) (σ 37 ((v6 + (-1)) - 1)) (σ 37 (v6 + (-1)))) →
             R32 (v6 + (-1)) ∧ R32 (v7 + 1) ∧ P6 v3 v4 v5 (v6 + (-1)) (v7 + 1) σ57)) ∧
           (((σ (t + 1) v7) = 20) →
            R32 (v6 - 1) ∧
            (0 ≤ (max 0 (v6 - 1)) ∧ (max 0 (v6 - 1)) < 64) ∧
            (-1000001 ≤ (σ 37 (max 0 (v6 - 1))) ∧ (σ 37 (max 0 (v6 - 1))) ≤ 1000001 ∧ σ 1 8 ≤ 16) ∧
            (0 ≤ (max 0 (v6 - 1)) ∧ (max 0 (v6 - 1)) < 64) ∧
            ∀ σ68 : Mem, σ68 = mset σ 37 (max 0 (v6 - 1)) (aln (thk0 (σ 1 8) (σ 11)) (σ (t + 1) v7) (σ 37 (max 0 (v6 - 1)))) →
            R32 (v7 + 1) ∧ P6 v3 v4 v5 v6 (v7 + 1) σ68)))) ∧
        (((σ (t + 1) v7) = 22) →
         R32 (v6 - 1) ∧
         (0 ≤ (max 0 (v6 - 1)) ∧ (max 0 (v6 - 1)) < 64) ∧
         (((σ 37 (max 0 (v6 - 1))) ≠ 0) →
          R32 (v7 + 1) ∧ P6 v3 v4 v5 (max 0 (v6 - 1)) (v7 + 1) σ) ∧
         (((σ 37 (max 0 (v6 - 1))) = 0) →
          R32 ((max v7 (σ (t + 2) v7)) + 1) ∧ P6 v3 v4 v5 (max 0 (v6 - 1)) ((max v7 (σ (t + 2) v7)) + 1) σ))) ∧
       (((σ (t + 1) v7) ≤ 8) →
        ((64 ≤ v6) →
         R32 (v7 + 1) ∧ P6 v3 v4 v5 v6 (v7 + 1) σ) ∧
        ((v6 < 64) →
         (((σ (t + 1) v7) ≠ 41) →
          (0 ≤ v5 ∧ v5 < 16 ∧ σ 1 9 ≤ 6) ∧
          (0 ≤ v6 ∧ v6 < 64) ∧
          ∀ σ84 : Mem, σ84 = mset σ 37 v6 (nmC σ (σ (t + 1) v7) v4 v5) →
          R32 (v6 + 1) ∧ R32 (v7 + 1) ∧ P6 v3 v4 v5 (v6 + 1) (v7 + 1) σ84) ∧
         (((σ (t + 1) v7) = 41) →
          (0 ≤ v6 ∧ v6 < 64) ∧
          ∀ σ90 : Mem, σ90 = mset σ 37 v6 (σ (t + 2) v7) →
          R32 (v6 + 1) ∧ R32 (v7 + 1) ∧ P6 v3 v4 v5 (v6 + 1) (v7 + 1) σ90))))) ∧
     (((σ (t + 1) v7) = 23) →
      R32 ((max v7 (σ (t + 2) v7)) + 1) ∧ P6 v3 v4 v5 v6 ((max v7 (σ (t + 2) v7)) + 1) σ))) → P6 v3 v4 v5 v6 v7 σ) →
  P6 x3 x4 x5 0 x2 σ
theorem mt_X2_value {d : Nat} (hd : 2 ≤ d) {t : Nat} {x2 : Int} {x3 : Int} {x4 : Int} {x5 : Int} {σ : Mem} {Q : Int → Mem → Prop} (ht : isText t) (hx2 : R32 x2) (hx3 : R32 x3) (hx4 : R32 x4) (hx5 : R32 x5) (hO : OKm σ) (h : wp_X2_value t x2 x3 x4 x5 σ Q) : Mt yX2_value cX2_value 11 (some .int) d [aR (36), aR (t), aI (x2), aI (x3), aI (x4), aI (x5)] σ (QI Q) := by
  refine Mt.intro (by decide +kernel) (Nat.le_of_ble_eq_true rfl) [(0, aR (36)), (1, aR (t)), (2, aI (x2)), (3, aI (x3)), (4, aI (x4)), (5, aI (x5))] rfl ?_
  unfold wp_X2_value at h
  have h := h (fun (v3 : Int) (v4 : Int) (v5 : Int) (v6 : Int) (v7 : Int) (σ : Mem) => R32 v3 → R32 v4 → R32 v5 → R32 v6 → R32 v7 → OKm σ → G yX2_value cX2_value 11 (some .int) d (QI Q) 6 [(0, aR (36)), (1, aR (t)), (3, aI (v3)), (4, aI (v4)), (5, aI (v5)), (6, aI (v6)), (7, aI (v7))] [] σ) ?_
  · refine G_iconst dX2_value_0 ?_
    refine G_istore (lv' := [(6, aI (0)), (0, aR (36)), (1, aR (t)), (2, aI (x2)), (3, aI (x3)), (4, aI (x4)), (5, aI (x5))]) rfl (by decide) dX2_value_1 ?_
    refine G_iload_n 3 rfl rfl dX2_value_3 ?_
    refine G_istore (lv' := [(7, aI (x2)), (6, aI (0)), (0, aR (36)), (1, aR (t)), (2, aI (x2)), (3, aI (x3)), (4, aI (x4)), (5, aI (x5))]) rfl (by decide) dX2_value_4 ?_
    exact G_pick [2, 3, 5, 6, 7, 1, 0] rfl (h hx3 hx4 hx5 (rL 0 rfl) hx2 hO)
  · intro v3 v4 v5 v6 v7 σ h hv3 hv4 hv5 hv6 hv7 hO
    have h := h hv3 hv4 hv5 hv6 hv7 hO
    refine G_iload 6 rfl dX2_value_6 ?_
    refine G_iload_n 2 rfl rfl dX2_value_8 ?_
    refine G_icmp_ge hv7 hv3 dX2_value_9 (tgt := 248) (by decide) (fun c1 => ?_) (fun c1 => ?_)
    · have h := h.1 c1
      refine G_aload_n 0 rfl rfl dX2_value_248 ?_
      refine G_get (k := 3) (kd := (3, 1)) (v := aR (37)) gf_X2_11 rfl rfl rfl rfl dX2_value_249 ?_
      refine G_iconst dX2_value_252 ?_
      refine G_iald (n := 64) rfl (by decide) (by decide) dX2_value_253 ?_
      exact G_iret rfl (OKm.i hO 37 0 (isLg_row (show shp 37 = (1, 64, []) from rfl) _)) dX2_value_254 ⟨_, rfl, h⟩ hO
    · have h := h.2 c1
      refine G_aload_n 1 rfl rfl dX2_value_12 ?_
      refine G_get (k := 0) (kd := (3, 1)) (v := aR ((t + 1))) gf_X2_92 rfl (shT ht) rfl rfl dX2_value_13 ?_
      refine G_iload 6 rfl dX2_value_16 ?_
      obtain ⟨c2, h⟩ := h
      refine G_iald (n := 300) (shT1 ht) c2.1 c2.2 dX2_value_18 ?_
      refine G_istore (lv' := [(8, aI ((σ (t + 1) v7))), (0, aR (36)), (1, aR (t)), (3, aI (v3)), (4, aI (v4)), (5, aI (v5)), (6, aI (v6)), (7, aI (v7))]) rfl (by decide) dX2_value_19 ?_
      refine G_aload_n 2 rfl rfl dX2_value_21 ?_
      refine G_get (k := 1) (kd := (3, 2)) (v := aR ((t + 2))) gf_X2_95 rfl (shT ht) rfl rfl dX2_value_22 ?_
      refine G_iload 7 rfl dX2_value_25 ?_
      obtain ⟨c3, h⟩ := h
      refine G_iald (n := 300) (shT2 ht) c3.1 c3.2 dX2_value_27 ?_
      refine G_istore (lv' := [(9, aI ((σ (t + 2) v7))), (8, aI ((σ (t + 1) v7))), (0, aR (36)), (1, aR (t)), (3, aI (v3)), (4, aI (v4)), (5, aI (v5)), (6, aI (v6)), (7, aI (v7))]) rfl (by decide) dX2_value_28 ?_
      refine G_iload 1 rfl dX2_value_30 ?_
      refine G_bipush (by decide) dX2_value_32 ?_
      refine G_icmp_ne (OKm.i hO (t + 1) v7 (isLg_row (shT1 ht) _)) (rL 23 rfl) dX2_value_34 (tgt := 49) (by decide) (fun c4 => ?_) (fun c4 => ?_)
      · have h := h.1 c4
        refine G_iload 1 rfl dX2_value_49 ?_
        refine G_bipush (by decide) dX2_value_51 ?_
        refine G_icmp_eq (OKm.i hO (t + 1) v7 (isLg_row (shT1 ht) _)) (rL 41 rfl) dX2_value_53 (tgt := 63) (by decide) (fun c5 => ?_) (fun c5 => ?_)
        · have h := h.1 c5
          refine G_iload 7 rfl dX2_value_63 ?_
          refine G_bipush (by decide) dX2_value_65 ?_
          refine G_icmp_ge hv6 (rL 64 rfl) dX2_value_67 (tgt := 242) (by decide) (fun c6 => ?_) (fun c6 => ?_)
          · have h := h.1 c6
            refine G_iinc (lv' := [(7, aI ((v7 + 1))), (9, aI ((σ (t + 2) v7))), (8, aI ((σ (t + 1) v7))), (0, aR (36)), (1, aR (t)), (3, aI (v3)), (4, aI (v4)), (5, aI (v5)), (6, aI (v6))]) (k := 8) rfl rfl (by decide) dX2_value_242 ?_
            refine G_goto (tgt := 6) dX2_value_245 (by decide) ?_
            obtain ⟨c7, h⟩ := h
            exact G_pick [3, 4, 5, 6, 7, 8, 0] rfl (h hv3 hv4 hv5 hv6 c7 hO)
          · have h := h.2 c6
            refine G_aload_n 2 rfl rfl dX2_value_70 ?_
            refine G_get (k := 3) (kd := (3, 1)) (v := aR (37)) gf_X2_11 rfl rfl rfl rfl dX2_value_71 ?_
            refine G_iload 7 rfl dX2_value_74 ?_
            refine G_iload 1 rfl dX2_value_76 ?_
            refine G_bipush (by decide) dX2_value_78 ?_
            refine G_icmp_ne (OKm.i hO (t + 1) v7 (isLg_row (shT1 ht) _)) (rL 41 rfl) dX2_value_80 (tgt := 88) (by decide) (fun c8 => ?_) (fun c8 => ?_)
            · have h := h.1 c8
              refine G_aload_n 2 rfl rfl dX2_value_88 ?_
              refine G_iload 1 rfl dX2_value_89 ?_
              refine G_iload 5 rfl dX2_value_91 ?_
              refine G_iload 6 rfl dX2_value_93 ?_
              obtain ⟨c9, h⟩ := h
              refine G_callV (as := [_, _, _]) cf_X2_100 rfl rfl rfl (sp_X2_named (d - 1) (by omega) _ hO _ (OKm.i hO (t + 1) v7 (isLg_row (shT1 ht) _)) _ hv4 _ hv5 c9) (by omega) rfl rfl (Nat.le_of_ble_eq_true rfl) dX2_value_95 ?_
              rintro _ _ ⟨_, rfl, rfl, rfl⟩ o11 r10
              obtain ⟨c12, h⟩ := h
              obtain ⟨σ13, e15⟩ : ∃ τ : Mem, τ = mset σ 37 v6 (nmC σ (σ (t + 1) v7) v4 v5) := ⟨_, rfl⟩
              have h := h σ13 e15
              have o14 : OKm σ13 := by rw [e15]; exact OKm.seti hO _ _ _ (r10 _ rfl) (isLg_row (show shp 37 = (1, 64, []) from rfl) _)
              refine G_iast (n := 64) rfl c12.1 c12.2 dX2_value_98 ?_
              rw [← e15]
              refine G_iinc (lv' := [(6, aI ((v6 + 1))), (9, aI ((σ (t + 2) v7))), (8, aI ((σ (t + 1) v7))), (0, aR (36)), (1, aR (t)), (3, aI (v3)), (4, aI (v4)), (5, aI (v5)), (7, aI (v7))]) (k := 7) rfl rfl (by decide) dX2_value_99 ?_
              refine G_goto (tgt := 242) dX2_value_102 (by decide) ?_
              refine G_iinc (lv' := [(7, aI ((v7 + 1))), (6, aI ((v6 + 1))), (9, aI ((σ (t + 2) v7))), (8, aI ((σ (t + 1) v7))), (0, aR (36)), (1, aR (t)), (3, aI (v3)), (4, aI (v4)), (5, aI (v5))]) (k := 8) rfl rfl (by decide) dX2_value_242 ?_
              refine G_goto (tgt := 6) dX2_value_245 (by decide) ?_
              obtain ⟨c16, h⟩ := h
              obtain ⟨c17, h⟩ := h
              exact G_pick [4, 5, 6, 7, 8, 1, 0] rfl (h hv3 hv4 hv5 c16 c17 o14)
            · have h := h.2 c8
              refine G_iload 0 rfl dX2_value_83 ?_
              refine G_goto (tgt := 98) dX2_value_85 (by decide) ?_
              obtain ⟨c18, h⟩ := h
              obtain ⟨σ19, e21⟩ : ∃ τ : Mem, τ = mset σ 37 v6 (σ (t + 2) v7) := ⟨_, rfl⟩
              have h := h σ19 e21
              have o20 : OKm σ19 := by rw [e21]; exact OKm.seti hO _ _ _ (OKm.i hO (t + 2) v7 (isLg_row (shT2 ht) _)) (isLg_row (show shp 37 = (1, 64, []) from rfl) _)
              refine G_iast (n := 64) rfl c18.1 c18.2 dX2_value_98 ?_
              rw [← e21]
              refine G_iinc (lv' := [(6, aI ((v6 + 1))), (9, aI ((σ (t + 2) v7))), (8, aI ((σ (t + 1) v7))), (0, aR (36)), (1, aR (t)), (3, aI (v3)), (4, aI (v4)), (5, aI (v5)), (7, aI (v7))]) (k := 7) rfl rfl (by decide) dX2_value_99 ?_
              refine G_goto (tgt := 242) dX2_value_102 (by decide) ?_
              refine G_iinc (lv' := [(7, aI ((v7 + 1))), (6, aI ((v6 + 1))), (9, aI ((σ (t + 2) v7))), (8, aI ((σ (t + 1) v7))), (0, aR (36)), (1, aR (t)), (3, aI (v3)), (4, aI (v4)), (5, aI (v5))]) (k := 8) rfl rfl (by decide) dX2_value_242 ?_
              refine G_goto (tgt := 6) dX2_value_245 (by decide) ?_
              obtain ⟨c22, h⟩ := h
              obtain ⟨c23, h⟩ := h
              exact G_pick [4, 5, 6, 7, 8, 1, 0] rfl (h hv3 hv4 hv5 c22 c23 o20)
        · have h := h.2 c5
          refine G_iload 1 rfl dX2_value_56 ?_
          refine G_bipush (by decide) dX2_value_58 ?_
          refine G_icmp_gt (OKm.i hO (t + 1) v7 (isLg_row (shT1 ht) _)) (rL 8 rfl) dX2_value_60 (tgt := 105) (by decide) (fun c24 => ?_) (fun c24 => ?_)
          · have h := h.1 c24
            refine G_iload 1 rfl dX2_value_105 ?_
            refine G_bipush (by decide) dX2_value_107 ?_
            refine G_icmp_ne (OKm.i hO (t + 1) v7 (isLg_row (shT1 ht) _)) (rL 22 rfl) dX2_value_109 (tgt := 149) (by decide) (fun c25 => ?_) (fun c25 => ?_)
            · have h := h.1 c25
              refine G_iload 1 rfl dX2_value_149 ?_
              refine G_bipush (by decide) dX2_value_151 ?_
              refine G_icmp_eq (OKm.i hO (t + 1) v7 (isLg_row (shT1 ht) _)) (rL 44 rfl) dX2_value_153 (tgt := 170) (by decide) (fun c26 => ?_) (fun c26 => ?_)
              · have h := h.1 c26
                refine G_iconst dX2_value_170 ?_
                refine G_iload 7 rfl dX2_value_171 ?_
                refine G_iconst dX2_value_173 ?_
                refine G_isub dX2_value_174 ?_
                obtain ⟨c27, h⟩ := h
                refine G_mmax rfl (rL 0 rfl) c27 (Nat.le_of_ble_eq_true rfl) sf_X2_55 dX2_value_175 ?_
                refine G_istore (lv' := [(10, aI ((max 0 (v6 - 1)))), (9, aI ((σ (t + 2) v7))), (8, aI ((σ (t + 1) v7))), (0, aR (36)), (1, aR (t)), (3, aI (v3)), (4, aI (v4)), (5, aI (v5)), (6, aI (v6)), (7, aI (v7))]) rfl (by decide) dX2_value_178 ?_
                refine G_aload_n 3 rfl rfl dX2_value_180 ?_
                refine G_get (k := 3) (kd := (3, 1)) (v := aR (37)) gf_X2_11 rfl rfl rfl rfl dX2_value_181 ?_
                refine G_iload 0 rfl dX2_value_184 ?_
                refine G_aload_n 3 rfl rfl dX2_value_186 ?_
                refine G_iload 2 rfl dX2_value_187 ?_
                refine G_aload_n 3 rfl rfl dX2_value_189 ?_
                refine G_get (k := 3) (kd := (3, 1)) (v := aR (37)) gf_X2_11 rfl rfl rfl rfl dX2_value_190 ?_
                refine G_iload 0 rfl dX2_value_193 ?_
                obtain ⟨c28, h⟩ := h
                refine G_iald (n := 64) rfl c28.1 c28.2 dX2_value_195 ?_
                obtain ⟨c29, h⟩ := h
                refine G_callV (as := [_, _]) cf_X2_103 rfl rfl rfl (sp_X2_alone (d - 1) (by omega) _ hO _ (OKm.i hO (t + 1) v7 (isLg_row (shT1 ht) _)) _ (OKm.i hO 37 (max 0 (v6 - 1)) (isLg_row (show shp 37 = (1, 64, []) from rfl) _)) c29) (by omega) rfl rfl (Nat.le_of_ble_eq_true rfl) dX2_value_196 ?_
                rintro _ _ ⟨_, rfl, rfl, rfl⟩ o31 r30
                obtain ⟨c32, h⟩ := h
                obtain ⟨σ33, e35⟩ : ∃ τ : Mem, τ = mset σ 37 (max 0 (v6 - 1)) (aln (thk0 (σ 1 8) (σ 11)) (σ (t + 1) v7) (σ 37 (max 0 (v6 - 1)))) := ⟨_, rfl⟩
                have h := h σ33 e35
                have o34 : OKm σ33 := by rw [e35]; exact OKm.seti hO _ _ _ (r30 _ rfl) (isLg_row (show shp 37 = (1, 64, []) from rfl) _)
                refine G_iast (n := 64) rfl c32.1 c32.2 dX2_value_199 ?_
                rw [← e35]
                refine G_goto (tgt := 242) dX2_value_200 (by decide) ?_
                refine G_iinc (lv' := [(7, aI ((v7 + 1))), (10, aI ((max 0 (v6 - 1)))), (9, aI ((σ (t + 2) v7))), (8, aI ((σ (t + 1) v7))), (0, aR (36)), (1, aR (t)), (3, aI (v3)), (4, aI (v4)), (5, aI (v5)), (6, aI (v6))]) (k := 9) rfl rfl (by decide) dX2_value_242 ?_
                refine G_goto (tgt := 6) dX2_value_245 (by decide) ?_
                obtain ⟨c36, h⟩ := h
                exact G_pick [4, 5, 6, 7, 8, 9, 0] rfl (h hv3 hv4 hv5 hv6 c36 o34)
              · have h := h.2 c26
                refine G_iload 1 rfl dX2_value_156 ?_
                refine G_bipush (by decide) dX2_value_158 ?_
                refine G_icmp_eq (OKm.i hO (t + 1) v7 (isLg_row (shT1 ht) _)) (rL 27 rfl) dX2_value_160 (tgt := 170) (by decide) (fun c37 => ?_) (fun c37 => ?_)
                · have h := h.1 c37
                  refine G_iconst dX2_value_170 ?_
                  refine G_iload 7 rfl dX2_value_171 ?_
                  refine G_iconst dX2_value_173 ?_
                  refine G_isub dX2_value_174 ?_
                  obtain ⟨c38, h⟩ := h
                  refine G_mmax rfl (rL 0 rfl) c38 (Nat.le_of_ble_eq_true rfl) sf_X2_55 dX2_value_175 ?_
                  refine G_istore (lv' := [(10, aI ((max 0 (v6 - 1)))), (9, aI ((σ (t + 2) v7))), (8, aI ((σ (t + 1) v7))), (0, aR (36)), (1, aR (t)), (3, aI (v3)), (4, aI (v4)), (5, aI (v5)), (6, aI (v6)), (7, aI (v7))]) rfl (by decide) dX2_value_178 ?_
                  refine G_aload_n 3 rfl rfl dX2_value_180 ?_
                  refine G_get (k := 3) (kd := (3, 1)) (v := aR (37)) gf_X2_11 rfl rfl rfl rfl dX2_value_181 ?_
                  refine G_iload 0 rfl dX2_value_184 ?_
                  refine G_aload_n 3 rfl rfl dX2_value_186 ?_
                  refine G_iload 2 rfl dX2_value_187 ?_
                  refine G_aload_n 3 rfl rfl dX2_value_189 ?_
                  refine G_get (k := 3) (kd := (3, 1)) (v := aR (37)) gf_X2_11 rfl rfl rfl rfl dX2_value_190 ?_
                  refine G_iload 0 rfl dX2_value_193 ?_
                  obtain ⟨c39, h⟩ := h
                  refine G_iald (n := 64) rfl c39.1 c39.2 dX2_value_195 ?_
                  obtain ⟨c40, h⟩ := h
                  refine G_callV (as := [_, _]) cf_X2_103 rfl rfl rfl (sp_X2_alone (d - 1) (by omega) _ hO _ (OKm.i hO (t + 1) v7 (isLg_row (shT1 ht) _)) _ (OKm.i hO 37 (max 0 (v6 - 1)) (isLg_row (show shp 37 = (1, 64, []) from rfl) _)) c40) (by omega) rfl rfl (Nat.le_of_ble_eq_true rfl) dX2_value_196 ?_
                  rintro _ _ ⟨_, rfl, rfl, rfl⟩ o42 r41
                  obtain ⟨c43, h⟩ := h
                  obtain ⟨σ44, e46⟩ : ∃ τ : Mem, τ = mset σ 37 (max 0 (v6 - 1)) (aln (thk0 (σ 1 8) (σ 11)) (σ (t + 1) v7) (σ 37 (max 0 (v6 - 1)))) := ⟨_, rfl⟩
                  have h := h σ44 e46
                  have o45 : OKm σ44 := by rw [e46]; exact OKm.seti hO _ _ _ (r41 _ rfl) (isLg_row (show shp 37 = (1, 64, []) from rfl) _)
                  refine G_iast (n := 64) rfl c43.1 c43.2 dX2_value_199 ?_
                  rw [← e46]
                  refine G_goto (tgt := 242) dX2_value_200 (by decide) ?_
                  refine G_iinc (lv' := [(7, aI ((v7 + 1))), (10, aI ((max 0 (v6 - 1)))), (9, aI ((σ (t + 2) v7))), (8, aI ((σ (t + 1) v7))), (0, aR (36)), (1, aR (t)), (3, aI (v3)), (4, aI (v4)), (5, aI (v5)), (6, aI (v6))]) (k := 9) rfl rfl (by decide) dX2_value_242 ?_
                  refine G_goto (tgt := 6) dX2_value_245 (by decide) ?_
                  obtain ⟨c47, h⟩ := h
                  exact G_pick [4, 5, 6, 7, 8, 9, 0] rfl (h hv3 hv4 hv5 hv6 c47 o45)
                · have h := h.2 c37
                  refine G_iload 1 rfl dX2_value_163 ?_
                  refine G_bipush (by decide) dX2_value_165 ?_
                  refine G_icmp_ne (OKm.i hO (t + 1) v7 (isLg_row (shT1 ht) _)) (rL 20 rfl) dX2_value_167 (tgt := 203) (by decide) (fun c48 => ?_) (fun c48 => ?_)
                  · have h := h.1 c48
                    refine G_iload 7 rfl dX2_value_203 ?_
                    refine G_iconst dX2_value_205 ?_
                    refine G_icmp_le hv6 (rL 1 rfl) dX2_value_206 (tgt := 242) (by decide) (fun c49 => ?_) (fun c49 => ?_)
                    · have h := h.1 c49
                      refine G_iinc (lv' := [(7, aI ((v7 + 1))), (9, aI ((σ (t + 2) v7))), (8, aI ((σ (t + 1) v7))), (0, aR (36)), (1, aR (t)), (3, aI (v3)), (4, aI (v4)), (5, aI (v5)), (6, aI (v6))]) (k := 8) rfl rfl (by decide) dX2_value_242 ?_
                      refine G_goto (tgt := 6) dX2_value_245 (by decide) ?_
                      obtain ⟨c50, h⟩ := h
                      exact G_pick [3, 4, 5, 6, 7, 8, 0] rfl (h hv3 hv4 hv5 hv6 c50 hO)
                    · have h := h.2 c49
                      refine G_iinc (lv' := [(6, aI ((v6 + (-1)))), (9, aI ((σ (t + 2) v7))), (8, aI ((σ (t + 1) v7))), (0, aR (36)), (1, aR (t)), (3, aI (v3)), (4, aI (v4)), (5, aI (v5)), (7, aI (v7))]) (k := 7) rfl rfl (by decide) dX2_value_209 ?_
                      refine G_aload_n 3 rfl rfl dX2_value_212 ?_
                      refine G_get (k := 3) (kd := (3, 1)) (v := aR (37)) gf_X2_11 rfl rfl rfl rfl dX2_value_213 ?_
                      refine G_iload 0 rfl dX2_value_216 ?_
                      refine G_iconst dX2_value_218 ?_
                      refine G_isub dX2_value_219 ?_
                      refine G_iload 2 rfl dX2_value_220 ?_
                      refine G_aload_n 3 rfl rfl dX2_value_222 ?_
                      refine G_get (k := 3) (kd := (3, 1)) (v := aR (37)) gf_X2_11 rfl rfl rfl rfl dX2_value_223 ?_
                      refine G_iload 0 rfl dX2_value_226 ?_
                      refine G_iconst dX2_value_228 ?_
                      refine G_isub dX2_value_229 ?_
                      obtain ⟨c51, h⟩ := h
                      refine G_iald (n := 64) rfl c51.1 c51.2 dX2_value_230 ?_
                      refine G_aload_n 3 rfl rfl dX2_value_231 ?_
                      refine G_get (k := 3) (kd := (3, 1)) (v := aR (37)) gf_X2_11 rfl rfl rfl rfl dX2_value_232 ?_
                      refine G_iload 0 rfl dX2_value_235 ?_
                      obtain ⟨c52, h⟩ := h
                      refine G_iald (n := 64) rfl c52.1 c52.2 dX2_value_237 ?_
                      obtain ⟨c53, h⟩ := h
                      refine G_callS (as := [_, _, _]) cf_X2_106 rfl (sp_X2_joined (d - 1) (by omega) _ hO _ (OKm.i hO (t + 1) v7 (isLg_row (shT1 ht) _)) _ (OKm.i hO 37 ((v6 + (-1)) - 1) (isLg_row (show shp 37 = (1, 64, []) from rfl) _)) _ (OKm.i hO 37 (v6 + (-1)) (isLg_row (show shp 37 = (1, 64, []) from rfl) _)) c53) (by omega) rfl rfl (Nat.le_of_ble_eq_true rfl) dX2_value_238 ?_
                      rintro _ _ ⟨_, rfl, rfl, rfl⟩ o55 r54
                      obtain ⟨c56, h⟩ := h
                      obtain ⟨σ57, e59⟩ : ∃ τ : Mem, τ = mset σ 37 ((v6 + (-1)) - 1) (jn (σ (t + 1) v7) (σ 37 ((v6 + (-1)) - 1)) (σ 37 (v6 + (-1)))) := ⟨_, rfl⟩
                      have h := h σ57 e59
                      have o58 : OKm σ57 := by rw [e59]; exact OKm.seti hO _ _ _ (r54 _ rfl) (isLg_row (show shp 37 = (1, 64, []) from rfl) _)
                      refine G_iast (n := 64) rfl c56.1 c56.2 dX2_value_241 ?_
                      rw [← e59]
                      refine G_iinc (lv' := [(7, aI ((v7 + 1))), (6, aI ((v6 + (-1)))), (9, aI ((σ (t + 2) v7))), (8, aI ((σ (t + 1) v7))), (0, aR (36)), (1, aR (t)), (3, aI (v3)), (4, aI (v4)), (5, aI (v5))]) (k := 8) rfl rfl (by decide) dX2_value_242 ?_
                      refine G_goto (tgt := 6) dX2_value_245 (by decide) ?_
                      obtain ⟨c60, h⟩ := h
                      obtain ⟨c61, h⟩ := h
                      exact G_pick [4, 5, 6, 7, 8, 1, 0] rfl (h hv3 hv4 hv5 c60 c61 o58)
                  · have h := h.2 c48
                    refine G_iconst dX2_value_170 ?_
                    refine G_iload 7 rfl dX2_value_171 ?_
                    refine G_iconst dX2_value_173 ?_
                    refine G_isub dX2_value_174 ?_
                    obtain ⟨c62, h⟩ := h
                    refine G_mmax rfl (rL 0 rfl) c62 (Nat.le_of_ble_eq_true rfl) sf_X2_55 dX2_value_175 ?_
                    refine G_istore (lv' := [(10, aI ((max 0 (v6 - 1)))), (9, aI ((σ (t + 2) v7))), (8, aI ((σ (t + 1) v7))), (0, aR (36)), (1, aR (t)), (3, aI (v3)), (4, aI (v4)), (5, aI (v5)), (6, aI (v6)), (7, aI (v7))]) rfl (by decide) dX2_value_178 ?_
                    refine G_aload_n 3 rfl rfl dX2_value_180 ?_
                    refine G_get (k := 3) (kd := (3, 1)) (v := aR (37)) gf_X2_11 rfl rfl rfl rfl dX2_value_181 ?_
                    refine G_iload 0 rfl dX2_value_184 ?_
                    refine G_aload_n 3 rfl rfl dX2_value_186 ?_
                    refine G_iload 2 rfl dX2_value_187 ?_
                    refine G_aload_n 3 rfl rfl dX2_value_189 ?_
                    refine G_get (k := 3) (kd := (3, 1)) (v := aR (37)) gf_X2_11 rfl rfl rfl rfl dX2_value_190 ?_
                    refine G_iload 0 rfl dX2_value_193 ?_
                    obtain ⟨c63, h⟩ := h
                    refine G_iald (n := 64) rfl c63.1 c63.2 dX2_value_195 ?_
                    obtain ⟨c64, h⟩ := h
                    refine G_callV (as := [_, _]) cf_X2_103 rfl rfl rfl (sp_X2_alone (d - 1) (by omega) _ hO _ (OKm.i hO (t + 1) v7 (isLg_row (shT1 ht) _)) _ (OKm.i hO 37 (max 0 (v6 - 1)) (isLg_row (show shp 37 = (1, 64, []) from rfl) _)) c64) (by omega) rfl rfl (Nat.le_of_ble_eq_true rfl) dX2_value_196 ?_
                    rintro _ _ ⟨_, rfl, rfl, rfl⟩ o66 r65
                    obtain ⟨c67, h⟩ := h
                    obtain ⟨σ68, e70⟩ : ∃ τ : Mem, τ = mset σ 37 (max 0 (v6 - 1)) (aln (thk0 (σ 1 8) (σ 11)) (σ (t + 1) v7) (σ 37 (max 0 (v6 - 1)))) := ⟨_, rfl⟩
                    have h := h σ68 e70
                    have o69 : OKm σ68 := by rw [e70]; exact OKm.seti hO _ _ _ (r65 _ rfl) (isLg_row (show shp 37 = (1, 64, []) from rfl) _)
                    refine G_iast (n := 64) rfl c67.1 c67.2 dX2_value_199 ?_
                    rw [← e70]
                    refine G_goto (tgt := 242) dX2_value_200 (by decide) ?_
                    refine G_iinc (lv' := [(7, aI ((v7 + 1))), (10, aI ((max 0 (v6 - 1)))), (9, aI ((σ (t + 2) v7))), (8, aI ((σ (t + 1) v7))), (0, aR (36)), (1, aR (t)), (3, aI (v3)), (4, aI (v4)), (5, aI (v5)), (6, aI (v6))]) (k := 9) rfl rfl (by decide) dX2_value_242 ?_
                    refine G_goto (tgt := 6) dX2_value_245 (by decide) ?_
                    obtain ⟨c71, h⟩ := h
                    exact G_pick [4, 5, 6, 7, 8, 9, 0] rfl (h hv3 hv4 hv5 hv6 c71 o69)
            · have h := h.2 c25
              refine G_iconst dX2_value_112 ?_
              refine G_iload 7 rfl dX2_value_113 ?_
              refine G_iconst dX2_value_115 ?_
              refine G_isub dX2_value_116 ?_
              obtain ⟨c72, h⟩ := h
              refine G_mmax rfl (rL 0 rfl) c72 (Nat.le_of_ble_eq_true rfl) sf_X2_55 dX2_value_117 ?_
              refine G_istore (lv' := [(6, aI ((max 0 (v6 - 1)))), (9, aI ((σ (t + 2) v7))), (8, aI ((σ (t + 1) v7))), (0, aR (36)), (1, aR (t)), (3, aI (v3)), (4, aI (v4)), (5, aI (v5)), (7, aI (v7))]) rfl (by decide) dX2_value_120 ?_
              refine G_aload_n 3 rfl rfl dX2_value_122 ?_
              refine G_get (k := 3) (kd := (3, 1)) (v := aR (37)) gf_X2_11 rfl rfl rfl rfl dX2_value_123 ?_
              refine G_iload 0 rfl dX2_value_126 ?_
              obtain ⟨c73, h⟩ := h
              refine G_iald (n := 64) rfl c73.1 c73.2 dX2_value_128 ?_
              refine G_if_ne (OKm.i hO 37 (max 0 (v6 - 1)) (isLg_row (show shp 37 = (1, 64, []) from rfl) _)) dX2_value_129 (tgt := 142) (by decide) (fun c74 => ?_) (fun c74 => ?_)
              · have h := h.1 c74
                refine G_iload 8 rfl dX2_value_142 ?_
                refine G_istore (lv' := [(7, aI (v7)), (6, aI ((max 0 (v6 - 1)))), (9, aI ((σ (t + 2) v7))), (8, aI ((σ (t + 1) v7))), (0, aR (36)), (1, aR (t)), (3, aI (v3)), (4, aI (v4)), (5, aI (v5))]) rfl (by decide) dX2_value_144 ?_
                refine G_goto (tgt := 242) dX2_value_146 (by decide) ?_
                refine G_iinc (lv' := [(7, aI ((v7 + 1))), (6, aI ((max 0 (v6 - 1)))), (9, aI ((σ (t + 2) v7))), (8, aI ((σ (t + 1) v7))), (0, aR (36)), (1, aR (t)), (3, aI (v3)), (4, aI (v4)), (5, aI (v5))]) (k := 0) rfl rfl (by decide) dX2_value_242 ?_
                refine G_goto (tgt := 6) dX2_value_245 (by decide) ?_
                obtain ⟨c75, h⟩ := h
                exact G_pick [4, 5, 6, 7, 8, 1, 0] rfl (h hv3 hv4 hv5 (r32_max (rL 0 rfl) c72) c75 hO)
              · have h := h.2 c74
                refine G_iload 8 rfl dX2_value_132 ?_
                refine G_iload 1 rfl dX2_value_134 ?_
                refine G_mmax rfl hv7 (OKm.i hO (t + 2) v7 (isLg_row (shT2 ht) _)) (Nat.le_of_ble_eq_true rfl) sf_X2_55 dX2_value_136 ?_
                refine G_goto (tgt := 144) dX2_value_139 (by decide) ?_
                refine G_istore (lv' := [(7, aI ((max v7 (σ (t + 2) v7)))), (6, aI ((max 0 (v6 - 1)))), (9, aI ((σ (t + 2) v7))), (8, aI ((σ (t + 1) v7))), (0, aR (36)), (1, aR (t)), (3, aI (v3)), (4, aI (v4)), (5, aI (v5))]) rfl (by decide) dX2_value_144 ?_
                refine G_goto (tgt := 242) dX2_value_146 (by decide) ?_
                refine G_iinc (lv' := [(7, aI (((max v7 (σ (t + 2) v7)) + 1))), (6, aI ((max 0 (v6 - 1)))), (9, aI ((σ (t + 2) v7))), (8, aI ((σ (t + 1) v7))), (0, aR (36)), (1, aR (t)), (3, aI (v3)), (4, aI (v4)), (5, aI (v5))]) (k := 0) rfl rfl (by decide) dX2_value_242 ?_
                refine G_goto (tgt := 6) dX2_value_245 (by decide) ?_
                obtain ⟨c76, h⟩ := h
                exact G_pick [4, 5, 6, 7, 8, 1, 0] rfl (h hv3 hv4 hv5 (r32_max (rL 0 rfl) c72) c76 hO)
          · have h := h.2 c24
            refine G_iload 7 rfl dX2_value_63 ?_
            refine G_bipush (by decide) dX2_value_65 ?_
            refine G_icmp_ge hv6 (rL 64 rfl) dX2_value_67 (tgt := 242) (by decide) (fun c77 => ?_) (fun c77 => ?_)
            · have h := h.1 c77
              refine G_iinc (lv' := [(7, aI ((v7 + 1))), (9, aI ((σ (t + 2) v7))), (8, aI ((σ (t + 1) v7))), (0, aR (36)), (1, aR (t)), (3, aI (v3)), (4, aI (v4)), (5, aI (v5)), (6, aI (v6))]) (k := 8) rfl rfl (by decide) dX2_value_242 ?_
              refine G_goto (tgt := 6) dX2_value_245 (by decide) ?_
              obtain ⟨c78, h⟩ := h
              exact G_pick [3, 4, 5, 6, 7, 8, 0] rfl (h hv3 hv4 hv5 hv6 c78 hO)
            · have h := h.2 c77
              refine G_aload_n 2 rfl rfl dX2_value_70 ?_
              refine G_get (k := 3) (kd := (3, 1)) (v := aR (37)) gf_X2_11 rfl rfl rfl rfl dX2_value_71 ?_
              refine G_iload 7 rfl dX2_value_74 ?_
              refine G_iload 1 rfl dX2_value_76 ?_
              refine G_bipush (by decide) dX2_value_78 ?_
              refine G_icmp_ne (OKm.i hO (t + 1) v7 (isLg_row (shT1 ht) _)) (rL 41 rfl) dX2_value_80 (tgt := 88) (by decide) (fun c79 => ?_) (fun c79 => ?_)
              · have h := h.1 c79
                refine G_aload_n 2 rfl rfl dX2_value_88 ?_
                refine G_iload 1 rfl dX2_value_89 ?_
                refine G_iload 5 rfl dX2_value_91 ?_
                refine G_iload 6 rfl dX2_value_93 ?_
                obtain ⟨c80, h⟩ := h
                refine G_callV (as := [_, _, _]) cf_X2_100 rfl rfl rfl (sp_X2_named (d - 1) (by omega) _ hO _ (OKm.i hO (t + 1) v7 (isLg_row (shT1 ht) _)) _ hv4 _ hv5 c80) (by omega) rfl rfl (Nat.le_of_ble_eq_true rfl) dX2_value_95 ?_
                rintro _ _ ⟨_, rfl, rfl, rfl⟩ o82 r81
                obtain ⟨c83, h⟩ := h
                obtain ⟨σ84, e86⟩ : ∃ τ : Mem, τ = mset σ 37 v6 (nmC σ (σ (t + 1) v7) v4 v5) := ⟨_, rfl⟩
                have h := h σ84 e86
                have o85 : OKm σ84 := by rw [e86]; exact OKm.seti hO _ _ _ (r81 _ rfl) (isLg_row (show shp 37 = (1, 64, []) from rfl) _)
                refine G_iast (n := 64) rfl c83.1 c83.2 dX2_value_98 ?_
                rw [← e86]
                refine G_iinc (lv' := [(6, aI ((v6 + 1))), (9, aI ((σ (t + 2) v7))), (8, aI ((σ (t + 1) v7))), (0, aR (36)), (1, aR (t)), (3, aI (v3)), (4, aI (v4)), (5, aI (v5)), (7, aI (v7))]) (k := 7) rfl rfl (by decide) dX2_value_99 ?_
                refine G_goto (tgt := 242) dX2_value_102 (by decide) ?_
                refine G_iinc (lv' := [(7, aI ((v7 + 1))), (6, aI ((v6 + 1))), (9, aI ((σ (t + 2) v7))), (8, aI ((σ (t + 1) v7))), (0, aR (36)), (1, aR (t)), (3, aI (v3)), (4, aI (v4)), (5, aI (v5))]) (k := 8) rfl rfl (by decide) dX2_value_242 ?_
                refine G_goto (tgt := 6) dX2_value_245 (by decide) ?_
                obtain ⟨c87, h⟩ := h
                obtain ⟨c88, h⟩ := h
                exact G_pick [4, 5, 6, 7, 8, 1, 0] rfl (h hv3 hv4 hv5 c87 c88 o85)
              · have h := h.2 c79
                refine G_iload 0 rfl dX2_value_83 ?_
                refine G_goto (tgt := 98) dX2_value_85 (by decide) ?_
                obtain ⟨c89, h⟩ := h
                obtain ⟨σ90, e92⟩ : ∃ τ : Mem, τ = mset σ 37 v6 (σ (t + 2) v7) := ⟨_, rfl⟩
                have h := h σ90 e92
                have o91 : OKm σ90 := by rw [e92]; exact OKm.seti hO _ _ _ (OKm.i hO (t + 2) v7 (isLg_row (shT2 ht) _)) (isLg_row (show shp 37 = (1, 64, []) from rfl) _)
                refine G_iast (n := 64) rfl c89.1 c89.2 dX2_value_98 ?_
                rw [← e92]
                refine G_iinc (lv' := [(6, aI ((v6 + 1))), (9, aI ((σ (t + 2) v7))), (8, aI ((σ (t + 1) v7))), (0, aR (36)), (1, aR (t)), (3, aI (v3)), (4, aI (v4)), (5, aI (v5)), (7, aI (v7))]) (k := 7) rfl rfl (by decide) dX2_value_99 ?_
                refine G_goto (tgt := 242) dX2_value_102 (by decide) ?_
                refine G_iinc (lv' := [(7, aI ((v7 + 1))), (6, aI ((v6 + 1))), (9, aI ((σ (t + 2) v7))), (8, aI ((σ (t + 1) v7))), (0, aR (36)), (1, aR (t)), (3, aI (v3)), (4, aI (v4)), (5, aI (v5))]) (k := 8) rfl rfl (by decide) dX2_value_242 ?_
                refine G_goto (tgt := 6) dX2_value_245 (by decide) ?_
                obtain ⟨c93, h⟩ := h
                obtain ⟨c94, h⟩ := h
                exact G_pick [4, 5, 6, 7, 8, 1, 0] rfl (h hv3 hv4 hv5 c93 c94 o91)
      · have h := h.2 c4
        refine G_iload 8 rfl dX2_value_37 ?_
        refine G_iload 0 rfl dX2_value_39 ?_
        refine G_mmax rfl hv7 (OKm.i hO (t + 2) v7 (isLg_row (shT2 ht) _)) (Nat.le_of_ble_eq_true rfl) sf_X2_55 dX2_value_41 ?_
        refine G_istore (lv' := [(7, aI ((max v7 (σ (t + 2) v7)))), (9, aI ((σ (t + 2) v7))), (8, aI ((σ (t + 1) v7))), (0, aR (36)), (1, aR (t)), (3, aI (v3)), (4, aI (v4)), (5, aI (v5)), (6, aI (v6))]) rfl (by decide) dX2_value_44 ?_
        refine G_goto (tgt := 242) dX2_value_46 (by decide) ?_
        refine G_iinc (lv' := [(7, aI (((max v7 (σ (t + 2) v7)) + 1))), (9, aI ((σ (t + 2) v7))), (8, aI ((σ (t + 1) v7))), (0, aR (36)), (1, aR (t)), (3, aI (v3)), (4, aI (v4)), (5, aI (v5)), (6, aI (v6))]) (k := 0) rfl rfl (by decide) dX2_value_242 ?_
        refine G_goto (tgt := 6) dX2_value_245 (by decide) ?_
        obtain ⟨c95, h⟩ := h
        exact G_pick [3, 4, 5, 6, 7, 8, 0] rfl (h hv3 hv4 hv5 hv6 c95 hO)

theorem sp_X2_value (d : Nat) (hd : 2 ≤ d) (σ : Mem) (hO : OKm σ) (t : Nat) (ht : isText t) (x2 : Int) (hx2 : R32 x2) (x3 : Int) (hx3 : R32 x3) (x4 : Int) (hx4 : R32 x4) (x5 : Int) (hx5 : R32 x5) (N : Int) (f : Env → Int) (hpre : Fg (σ (t + 1)) (σ (t + 2)) x2 x3 N f ∧ N ≤ 64 ∧ 0 ≤ x2 ∧ x3 ≤ 300 ∧ okE (envC σ x4 x5) ∧ (0 ≤ x5 ∧ x5 < 16) ∧ σ 1 9 ≤ 6 ∧ σ 1 8 ≤ 16) : Mt yX2_value cX2_value 11 (some .int) d [aR (36), aR (t), aI (x2), aI (x3), aI (x4), aI (x5)] σ (QI (fun v σ' => v = f (envC σ x4 x5) ∧ Fr [37] σ σ')) := mt_X2_value hd ht hx2 hx3 hx4 hx5 hO (by
  unfold wp_X2_value
  intro P6 h6
  obtain ⟨hF, hn, hx20, hx3e, hE, hx5, h19, h18⟩ := hpre
  have ht1 : t + 1 ≠ 37 := by unfold isText at ht; omega
  have ht2 : t + 2 ≠ 37 := by unfold isText at ht; omega
  have m1 : ∀ s, mrow σ 37 s (t + 1) = σ (t + 1) := fun s => mrow_ne ht1
  have m2 : ∀ s, mrow σ 37 s (t + 2) = σ (t + 2) := fun s => mrow_ne ht2
  have m3 : ∀ s : Int → Int, mrow σ 37 s 1 = σ 1 := fun s => mrow_ne (by omega)
  have m4 : ∀ s : Int → Int, mrow σ 37 s 11 = σ 11 := fun s => mrow_ne (by omega)
  have hr2 : ∀ a : Int, R32 (σ (t + 2) a) := fun a => hO.i _ _ (isLg_row (shT2 ht) a)
  have hab := hF.1
  have hB : BackC (σ (t + 1)) (σ (t + 2)) (envC σ x4 x5) x2 x3 (fun a k s => P6 x3 x4 x5 k a (mrow σ 37 s)) := by
    refine ⟨fun a k s q1 q2 q3 q4 q5 q6 q7 => ?_, fun a k s q1 q2 q3 q4 q5 q6 q7 q8 => ?_, fun a k s q1 q2 q3 q4 q5 q6 q7 => ?_, fun a k s q1 q2 q3 q4 q5 q6 q7 => ?_, fun a k s q1 q2 q3 q4 q5 q6 q7 q8 => ?_, fun a k s q1 q2 q3 q4 q5 q6 q7 q8 => ?_⟩
    · refine h6 _ _ _ _ _ _ (fun _ _ _ _ _ _ => ?_)
      simp only [m1, m2, q6, mset_mrow]
      have e1 : R32 (k + 1) := by unfold R32; omega
      have e2 : R32 (a + 1) := by unfold R32; omega
      refine ⟨fun h => absurd h (by omega), fun _ => ⟨by omega, by omega, fun _ => ⟨fun _ => ⟨fun h => absurd h (by omega), fun _ => ⟨fun h => absurd rfl h, fun _ => ⟨by omega, ?_⟩⟩⟩, fun h => absurd rfl h⟩, fun h => absurd h (by omega)⟩⟩
      intro _ e; subst e
      exact ⟨e1, e2, q7⟩
    · refine h6 _ _ _ _ _ _ (fun _ _ _ _ _ _ => ?_)
      simp only [m1, m2, m3, nmC_row, mset_mrow]
      have e1 : R32 (k + 1) := by unfold R32; omega
      have e2 : R32 (a + 1) := by unfold R32; omega
      refine ⟨fun h => absurd h (by omega), fun _ => ⟨by omega, by omega, fun _ => ⟨fun h => absurd h (by omega), fun _ => ⟨fun h => absurd h (by omega), fun _ => ⟨fun h => absurd h (by omega), fun _ => ⟨fun _ => ⟨by omega, by omega, ?_⟩, fun h => absurd h (by omega)⟩⟩⟩⟩, fun h => absurd h (by omega)⟩⟩
      intro _ e; subst e
      exact ⟨e1, e2, q8⟩
    · have hM := q5 (k - 1) (by omega) (by omega)
      unfold Mil at hM
      have e0 : R32 (k - 1) := by unfold R32; omega
      have e2 : R32 (a + 1) := by unfold R32; omega
      have e3 : max 0 (k - 1) = k - 1 := by omega
      have hfin : mrow σ 37 s 37 = s := mrow_self
      refine h6 _ _ _ _ _ _ (fun _ _ _ _ _ _ => ?_)
      simp only [m1, m2, m3, m4, mset_mrow, e3, hfin]
      refine ⟨fun h => absurd h (by omega), fun _ => ⟨by omega, by omega, fun _ => ⟨fun h => absurd h (by omega), fun _ => ⟨fun _ => ⟨fun _ => ⟨fun h44 => ?_, fun h44 => ⟨fun h27 => ?_, fun h27 => ⟨fun h => absurd h (by omega), fun h20 => ?_⟩⟩⟩, fun h => absurd h (by omega)⟩, fun h => absurd h (by omega)⟩⟩, fun h => absurd h (by omega)⟩⟩
      · refine ⟨e0, by omega, by omega, by omega, ?_⟩
        intro _ e; subst e
        exact ⟨e2, q7⟩
      · refine ⟨e0, by omega, by omega, by omega, ?_⟩
        intro _ e; subst e
        exact ⟨e2, q7⟩
      · refine ⟨e0, by omega, by omega, by omega, ?_⟩
        intro _ e; subst e
        exact ⟨e2, q7⟩
    · have hM := q5 (k - 1) (by omega) (by omega)
      have hM2 := q5 (k - 2) (by omega) (by omega)
      unfold Mil at hM hM2
      have e0 : R32 (k + -1) := by unfold R32; omega
      have e2 : R32 (a + 1) := by unfold R32; omega
      have e3 : k + -1 - 1 = k - 2 := by omega
      have e4 : k + -1 = k - 1 := by omega
      have hfin : mrow σ 37 s 37 = s := mrow_self
      refine h6 _ _ _ _ _ _ (fun _ _ _ _ _ _ => ?_)
      simp only [m1, m2, m3, m4, mset_mrow, e3, hfin]
      refine ⟨fun h => absurd h (by omega), fun _ => ⟨by omega, by omega, fun _ => ⟨fun h => absurd h (by omega), fun _ => ⟨fun _ => ⟨fun _ => ⟨fun h => absurd h (by omega), fun _ => ⟨fun h => absurd h (by omega), fun _ => ⟨fun _ => ⟨fun h => absurd h (by omega), fun _ => ?_⟩, fun h => absurd h (by omega)⟩⟩⟩, fun h => absurd h (by omega)⟩, fun h => absurd h (by omega)⟩⟩, fun h => absurd h (by omega)⟩⟩
      rw [e4] at e0 ⊢
      refine ⟨by omega, by omega, by omega, by omega, ?_⟩
      intro _ e; subst e
      exact ⟨e0, e2, q7⟩
    · have e0 : R32 (k - 1) := by unfold R32; omega
      have e2 : R32 (a + 1) := by unfold R32; omega
      have e3 : max 0 (k - 1) = k - 1 := by omega
      have hfin : mrow σ 37 s 37 = s := mrow_self
      have hop := hr2 a
      refine h6 _ _ _ _ _ _ (fun _ _ _ _ _ _ => ?_)
      simp only [m1, m2, m3, m4, mset_mrow, e3, hfin, q6]
      refine ⟨fun h => absurd h (by omega), fun _ => ⟨by omega, by omega, fun _ => ⟨fun h => absurd h (by omega), fun _ => ⟨fun _ => ⟨fun h => absurd rfl h, fun _ => ⟨e0, by omega, fun hz => ?_, fun hz => ?_⟩⟩, fun h => absurd h (by omega)⟩⟩, fun h => absurd h (by omega)⟩⟩
      · rw [if_neg hz] at q8; exact ⟨e2, q8⟩
      · rw [if_pos hz] at q8; exact ⟨by unfold R32 at *; omega, q8⟩
    · have hop := hr2 a
      refine h6 _ _ _ _ _ _ (fun _ _ _ _ _ _ => ?_)
      simp only [m1, m2, q6]
      exact ⟨fun h => absurd h (by omega), fun _ => ⟨by omega, by omega, fun h => absurd rfl h, fun _ => ⟨by unfold R32 at *; omega, q8⟩⟩⟩
  have hfin := hF.2.2 (envC σ x4 x5) _ hE hB 0 (σ 37) (by omega) (by omega) (fun j h0 h1 => by omega) (fun s' _ e1 _ => ?_)
  · rw [mrow_id] at hfin; exact hfin
  · refine h6 _ _ _ _ _ _ (fun _ _ _ _ _ _ => ⟨fun _ => ?_, fun h => absurd h (by omega)⟩)
    rw [mrow_self]
    exact ⟨e1, (Fr.rf _ _).row (by simp)⟩)
