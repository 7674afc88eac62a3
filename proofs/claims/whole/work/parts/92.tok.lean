/-! THE TOKENS, one after the other: where token i begins, its kind (as the class numbers it), its number -/
def ps (b : Int → Int) (N : Int) : Nat → Int
  | 0 => skN b N 0
  | i + 1 => skN b N (psM b N (ps b N i))
def kd (b : Int → Int) (N : Int) (i : Nat) : Int := if b (ps b N i) < 0 then 43 else kdC b N (ps b N i)
def nu (b : Int → Int) (N : Int) (i : Nat) : Int := nuC b N (ps b N i)
theorem isTp.neg {b : Int → Int} {N s : Int} (hB : isTp b N) (h0 : 0 ≤ s) (h1 : s ≤ N) : b s < 0 ↔ s = N := by
  constructor
  · intro h
    rcases Int.lt_or_le s N with q | q
    · have := hB.2.1 s h0 q; omega
    · omega
  · intro h; have := hB.2.2 s (by omega); omega
theorem psM_gt {b : Int → Int} {N s : Int} (hB : isTp b N) (h0 : 0 ≤ s) (h1 : s < N) : s + 1 ≤ psM b N s := by
  have hb := hB.2.1 s h0 h1
  by_cases hf : fig (b s) = true
  · rw [psM_fig hf h1]; exact (spn_r _ _ _ _).1
  · by_cases hl : ltr (b s) = true
    · rw [psM_ltr hl h1]; exact (spn_r _ _ _ _).1
    · unfold psM
      rw [if_neg (by omega), if_neg hf, if_neg hl]
      split <;> omega
theorem skN_r {b : Int → Int} {N i : Int} (h : i ≤ N) : i ≤ skN b N i ∧ skN b N i ≤ N := spn_N h
theorem skN_N {b : Int → Int} {N : Int} : skN b N N = N := by unfold skN; rw [show (N - N).toNat = 0 by omega]; rfl
theorem psM_N {b : Int → Int} {N : Int} (hB : isTp b N) : psM b N N = N := by
  unfold psM; rw [if_pos (by have := hB.2.2 N (Int.le_refl _); omega)]
theorem skN_s {b : Int → Int} {N i : Int} (h : i < N) (hb : blk (b i) = true) : skN b N i = skN b N (i + 1) := by
  unfold skN
  rw [show (N - i).toNat = (N - (i + 1)).toNat + 1 by omega]
  show (if blk (b i) = true then _ else _) = _
  rw [if_pos hb]
theorem skN_z {b : Int → Int} {N i : Int} (h : i < N) (hb : blk (b i) = false) : skN b N i = i := by
  unfold skN
  rw [show (N - i).toNat = (N - (i + 1)).toNat + 1 by omega]
  show (if blk (b i) = true then _ else _) = _
  rw [hb]; rfl
theorem ps_r {b : Int → Int} {N : Int} (hB : isTp b N) : ∀ i : Nat, 0 ≤ ps b N i ∧ ps b N i ≤ N
  | 0 => by
    have := skN_r (b := b) (N := N) (i := 0) (by have := hB.1; omega)
    show 0 ≤ skN b N 0 ∧ skN b N 0 ≤ N
    exact this
  | i + 1 => by
    have h := ps_r hB i
    have h1 := psM_r hB h.1 h.2
    have := skN_r (b := b) (N := N) (i := psM b N (ps b N i)) h1.2
    show 0 ≤ skN b N _ ∧ skN b N _ ≤ N
    omega
theorem ps_i {b : Int → Int} {N : Int} (hB : isTp b N) : ∀ i : Nat, ps b N i < N → (i : Int) ≤ ps b N i
  | 0, _ => (ps_r hB 0).1
  | i + 1, h => by
    have h0 := ps_r hB i
    have h1 := psM_r hB h0.1 h0.2
    have h2 := skN_r (b := b) (N := N) (i := psM b N (ps b N i)) h1.2
    have e : ps b N (i + 1) = skN b N (psM b N (ps b N i)) := rfl
    rw [e] at h ⊢
    have hlt : ps b N i < N := by omega
    have := ps_i hB i hlt
    have := psM_gt hB h0.1 hlt
    omega
theorem ps_end {b : Int → Int} {N : Int} (hB : isTp b N) {i : Nat} (h : ps b N i = N) : ∀ j : Nat, ps b N (i + j) = N
  | 0 => h
  | j + 1 => by
    show skN b N (psM b N (ps b N (i + j))) = N
    rw [ps_end hB h j, psM_N hB, skN_N]
/-- the words, in the order of their numbers -/
def wL : List (List Int) := [[100, 97, 121], [114, 97, 105, 110], [119, 97, 121], [108, 111, 110, 103], [116, 104, 105, 99, 107], [109, 111, 117, 116, 104], [119, 104, 111], [119, 101, 110, 116], [102, 105, 114, 115, 116], [115, 117, 99, 107, 115], [115, 119, 101, 108, 108, 115], [114, 111, 97, 100], [116, 111], [103, 111, 101, 114], [103, 111], [98, 121], [114, 101, 108, 97, 121], [99, 111, 105, 108], [99, 111, 109, 109, 111, 110], [111, 102], [114, 111, 97, 100, 115], [105, 102], [116, 104, 101, 110], [101, 108, 115, 101], [101, 110, 100], [111, 114], [97, 110, 100], [110, 111, 116]]
def wCh : List Int := wL.flatMap (fun L => L ++ [32])
theorem wCh_len : wCh.length = 132 := by decide +kernel
theorem wCh_at : ∀ k : Nat, k < 132 → wCh[k]? = some (chW (k : Int)) := by decide +kernel
def scL (f : Int → Int) (a p : Int) : List Int → Int → Int → Int
  | [], _, _ => 42
  | c :: r, w, al => if c = 32 then (if al = p - a then w else scL f a p r (w + 1) 0) else scL f a p r w (if 0 ≤ al ∧ a + al < p ∧ f (a + al) = c then al + 1 else -1)
theorem wdF_scL (f : Int → Int) (a p : Int) : ∀ (n k : Nat) (w al : Int), k + n = 132 → wdF f a p n (k : Int) w al = scL f a p (wCh.drop k) w al
  | 0, k, w, al, h => by
    rw [List.drop_eq_nil_of_le (by rw [wCh_len]; omega)]; rfl
  | n + 1, k, w, al, h => by
    have hk : k < wCh.length := by rw [wCh_len]; omega
    have hc : wCh[k] = chW (k : Int) := by
      have := wCh_at k (by omega)
      rw [List.getElem?_eq_getElem hk] at this
      exact Option.some.inj this
    rw [List.drop_eq_getElem_cons hk, hc]
    unfold wdF scL
    rw [show ((k : Int) + 1) = ((k + 1 : Nat) : Int) by omega, wdF_scL f a p n (k + 1) _ _ (by omega), wdF_scL f a p n (k + 1) _ _ (by omega)]
theorem scL_word (f : Int → Int) (a p : Int) (hp : a ≤ p) (r : List Int) (w : Int) : ∀ (L : List Int) (al : Int), -1 ≤ al → (∀ c ∈ L, c ≠ 32) →
    scL f a p (L ++ 32 :: r) w al = if 0 ≤ al ∧ al + L.length = p - a ∧ (∀ j : Nat, (hj : j < L.length) → f (a + al + j) = L[j]) then w else scL f a p r (w + 1) 0
  | [], al, hal, _ => by
    show (if (32 : Int) = 32 then (if al = p - a then w else scL f a p r (w + 1) 0) else _) = _
    rw [if_pos rfl]
    by_cases h : al = p - a
    · rw [if_pos h, if_pos ⟨by omega, by simp; omega, fun j hj => absurd hj (by simp)⟩]
    · rw [if_neg h, if_neg (fun q => h (by have := q.2.1; simp at this; omega))]
  | c :: L, al, hal, hc => by
    show (if c = 32 then _ else scL f a p (L ++ 32 :: r) w (if 0 ≤ al ∧ a + al < p ∧ f (a + al) = c then al + 1 else -1)) = _
    rw [if_neg (hc c (by simp))]
    have ih := fun al' h => scL_word f a p hp r w L al' h (fun c' hc' => hc c' (List.mem_cons_of_mem _ hc'))
    by_cases h : 0 ≤ al ∧ a + al < p ∧ f (a + al) = c
    · rw [if_pos h, ih (al + 1) (by omega)]
      by_cases q : 0 ≤ al ∧ al + (c :: L).length = p - a ∧ (∀ j : Nat, (hj : j < (c :: L).length) → f (a + al + j) = (c :: L)[j])
      · rw [if_pos q, if_pos ⟨by omega, by have := q.2.1; simp at this ⊢; omega, fun j hj => by
          have := q.2.2 (j + 1) (by simp; omega)
          simp at this
          rw [← this]; congr 1; omega⟩]
      · rw [if_neg q, if_neg (fun z => q ⟨h.1, by have := z.2.1; simp at this ⊢; omega, fun j hj => by
          cases j with
          | zero => simp; exact h.2.2
          | succ j =>
            have := z.2.2 j (by simp at hj; omega)
            simp
            rw [← this]; congr 1; omega⟩)]
    · rw [if_neg h, ih (-1) (by omega), if_neg (fun q => by omega), if_neg (fun q => h ⟨q.1, by have := q.2.1; simp at this; omega, by have := q.2.2 0 (by simp); simpa using this⟩)]
/-- the letters from a to p -/
def ltL (f : Int → Int) (a p : Int) : List Int := (List.range (p - a).toNat).map (fun j : Nat => f (a + (j : Int)))
def fdL (X : List Int) : List (List Int) → Int → Int
  | [], _ => 42
  | L :: r, w => if X = L then w else fdL X r (w + 1)
theorem ltL_eq {f : Int → Int} {a p : Int} (hp : a ≤ p) (L : List Int) : (0 ≤ (0 : Int) ∧ (0 : Int) + L.length = p - a ∧ (∀ j : Nat, (hj : j < L.length) → f (a + 0 + j) = L[j])) ↔ ltL f a p = L := by
  constructor
  · intro ⟨_, h1, h2⟩
    apply List.ext_getElem
    · simp [ltL]; omega
    · intro j q1 q2
      simp [ltL]
      rw [← h2 j q2]; congr 1; omega
  · intro h
    subst h
    refine ⟨by omega, by simp [ltL]; omega, fun j hj => ?_⟩
    simp [ltL]
theorem scL_fd {f : Int → Int} {a p : Int} (hp : a ≤ p) : ∀ (ws : List (List Int)) (w : Int), (∀ L ∈ ws, ∀ c ∈ L, c ≠ 32) → scL f a p (ws.flatMap (fun L => L ++ [32])) w 0 = fdL (ltL f a p) ws w
  | [], w, _ => rfl
  | L :: ws, w, h => by
    have e : (L :: ws).flatMap (fun L => L ++ [32]) = L ++ 32 :: ws.flatMap (fun L => L ++ [32]) := by simp
    rw [e, scL_word f a p hp _ w L 0 (by omega) (h L (by simp)), scL_fd hp ws (w + 1) (fun L' h' => h L' (List.mem_cons_of_mem _ h'))]
    show _ = if ltL f a p = L then w else fdL (ltL f a p) ws (w + 1)
    by_cases q : ltL f a p = L
    · rw [if_pos q, if_pos ((ltL_eq hp L).mpr q)]
    · rw [if_neg q, if_neg (fun z => q ((ltL_eq hp L).mp z))]
theorem wL_no32 : ∀ L ∈ wL, ∀ c ∈ L, c ≠ 32 := by decide +kernel
theorem wdC_fd {f : Int → Int} {a p : Int} (hp : a ≤ p) : wdC f a p = fdL (ltL f a p) wL 0 := by
  unfold wdC
  rw [show (0 : Int) = ((0 : Nat) : Int) from rfl, wdF_scL f a p 132 0 _ _ (by omega)]
  exact scL_fd hp wL 0 wL_no32
theorem fdL_r (X : List Int) : ∀ (ws : List (List Int)) (w : Int), (w ≤ fdL X ws w ∧ fdL X ws w < w + ws.length) ∨ fdL X ws w = 42
  | [], w => .inr rfl
  | L :: r, w => by
    have e : fdL X (L :: r) w = if X = L then w else fdL X r (w + 1) := rfl
    have el : ((L :: r).length : Int) = r.length + 1 := by simp
    rw [e, el]
    by_cases h : X = L
    · rw [if_pos h]; left; omega
    · rw [if_neg h]
      rcases fdL_r X r (w + 1) with q | q
      · left; omega
      · right; exact q
theorem fdL_at {X : List Int} : ∀ (ws : List (List Int)) (w : Int) (k : Nat) (L : List Int), ws.Nodup → w + ws.length ≤ 42 → ws[k]? = some L → (fdL X ws w = w + k ↔ X = L)
  | [], w, k, L, _, _, h => by simp at h
  | L0 :: r, w, k, L, hn, hw, h => by
    have hn2 := (List.nodup_cons.mp hn)
    have e0 : fdL X (L0 :: r) w = if X = L0 then w else fdL X r (w + 1) := rfl
    rw [e0]
    cases k with
    | zero =>
      simp at h; subst h
      by_cases q : X = L0
      · rw [if_pos q]; simp [q]
      · rw [if_neg q]
        have := fdL_r X r (w + 1)
        simp at hw
        constructor
        · intro e; exfalso; simp at e; omega
        · intro e; exact absurd e q
    | succ k =>
      simp at h
      have hm : L ∈ r := List.mem_of_getElem? h
      by_cases q : X = L0
      · rw [if_pos q]
        constructor
        · intro e; exfalso; omega
        · intro e; exfalso; rw [q] at e; rw [e] at hn2; exact hn2.1 hm
      · rw [if_neg q]
        have := fdL_at (X := X) r (w + 1) k L hn2.2 (by simp at hw; omega) h
        rw [← this]
        constructor <;> intro e <;> omega
theorem wL_nd : wL.Nodup := by decide +kernel
/-- a word as one number -/
def wv (L : List Int) : Int := L.foldl (fun a c => a * 256 + c) 0
def mfL (L : List Int) (a : Int) : Int := L.foldl (fun a c => if a < 281474976710656 then a * 256 + c else 1152921504606846976) a
theorem mwF_mfL {b : Int → Int} : ∀ (n : Nat) (i a : Int), mwF b n i a = mfL (ltL b i (spn ltr b n i)) a
  | 0, i, a => by
    show a = _
    rw [show spn ltr b 0 i = i from rfl]; unfold ltL; rw [show (i - i).toNat = 0 by omega]; rfl
  | n + 1, i, a => by
    show (if ltr (b i) = true then _ else _) = _
    by_cases h : ltr (b i) = true
    · have e : spn ltr b (n + 1) i = spn ltr b n (i + 1) := by show (if ltr (b i) = true then _ else _) = _; rw [if_pos h]
      rw [if_pos h, mwF_mfL n, e]
      have hr := spn_r ltr b n (i + 1)
      have e2 : ltL b i (spn ltr b n (i + 1)) = b i :: ltL b (i + 1) (spn ltr b n (i + 1)) := by
        unfold ltL
        rw [show (spn ltr b n (i + 1) - i).toNat = (spn ltr b n (i + 1) - (i + 1)).toNat + 1 by omega, List.range_succ_eq_map]
        simp [Function.comp_def]
        intro j _
        congr 1; omega
      rw [e2]; rfl
    · have e : spn ltr b (n + 1) i = i := by show (if ltr (b i) = true then _ else _) = _; rw [if_neg h]
      rw [if_neg h, e]; unfold ltL; rw [show (i - i).toNat = 0 by omega]; rfl
theorem wv_snoc (L : List Int) (c : Int) : wv (L ++ [c]) = wv L * 256 + c := by unfold wv; rw [List.foldl_append]; rfl
theorem mfL_snoc (L : List Int) (a c : Int) : mfL (L ++ [c]) a = if mfL L a < 281474976710656 then mfL L a * 256 + c else 1152921504606846976 := by unfold mfL; rw [List.foldl_append]; rfl
theorem mfL_pos : ∀ (n : Nat) (X : List Int), X.length = n → (∀ c ∈ X, 1 ≤ c ∧ c < 256) → 0 ≤ mfL X 0 ∧ (X ≠ [] → 1 ≤ mfL X 0) := by
  intro n
  induction n with
  | zero => intro X h _; have := List.eq_nil_of_length_eq_zero h; subst this; exact ⟨by decide, fun h => absurd rfl h⟩
  | succ n ih =>
    intro X h hc
    obtain ⟨Y, c, rfl⟩ : ∃ Y c, X = Y ++ [c] := ⟨X.dropLast, X.getLast (by intro q; simp [q] at h), (List.dropLast_concat_getLast _).symm⟩
    have := ih Y (by simp at h; omega) (fun d hd => hc d (by simp [hd]))
    have h2 := hc c (by simp)
    rw [mfL_snoc]
    constructor
    · split <;> omega
    · intro _; split <;> omega
theorem mf_wv : ∀ (n : Nat) (X L : List Int), L.length = n → (∀ c ∈ X, 1 ≤ c ∧ c < 256) → (∀ c ∈ L, 1 ≤ c ∧ c < 256) → 0 ≤ wv L → wv L < 281474976710656 → (mfL X 0 = wv L ↔ X = L) := by
  intro n
  induction n with
  | zero =>
    intro X L h hx hl h0 h1
    have := List.eq_nil_of_length_eq_zero h; subst this
    have hp := mfL_pos X.length X rfl hx
    constructor
    · intro e
      by_cases q : X = []
      · exact q
      · have := hp.2 q
        rw [e] at this
        exact absurd this (by decide)
    · intro e; subst e; rfl
  | succ n ih =>
    intro X L h hx hl h0 h1
    obtain ⟨M, c, rfl⟩ : ∃ Y c, L = Y ++ [c] := ⟨L.dropLast, L.getLast (by intro q; simp [q] at h), (List.dropLast_concat_getLast _).symm⟩
    have hc := hl c (by simp)
    rw [wv_snoc] at h0 h1 ⊢
    by_cases q : X = []
    · subst q
      constructor
      · intro e
        have e2 : mfL [] 0 = 0 := rfl
        rw [e2] at e; omega
      · intro e; simp at e
    · obtain ⟨Y, d, rfl⟩ : ∃ Y c, X = Y ++ [c] := ⟨X.dropLast, X.getLast q, (List.dropLast_concat_getLast _).symm⟩
      have hd := hx d (by simp)
      have hp := mfL_pos Y.length Y rfl (fun d hd => hx d (by simp [hd]))
      have hI := ih Y M (by simp at h; omega) (fun d hd => hx d (by simp [hd])) (fun d hd => hl d (by simp [hd])) (by omega) (by omega)
      rw [mfL_snoc]
      constructor
      · intro e
        split at e
        · have e1 : d = c := by omega
          have e2 : mfL Y 0 = wv M := by omega
          rw [hI.mp e2, e1]
        · omega
      · intro e
        have e1 := List.append_inj' e rfl
        have e2 : d = c := by simpa using e1.2
        have e3 := hI.mpr e1.1
        rw [if_pos (by omega), e3, e2]
theorem wL_ok : ∀ L ∈ wL, (∀ c ∈ L, 1 ≤ c ∧ c < 256) ∧ 0 ≤ wv L ∧ wv L < 281474976710656 := by decide +kernel
def sgT (c : Int) : Int := if c = 60 then 0 else if c = 62 then 1 else if c = 61 then 2 else if c = 35 then 3 else if c = 43 then 4 else if c = 45 then 5 else if c = 42 then 6 else if c = 47 then 7 else if c = 40 then 8 else if c = 41 then 9 else if c = 59 then 10 else -1
theorem ixF_nat : ∀ c : Nat, c < 256 → ixF (c : Int) 11 0 = sgT (c : Int) := by decide +kernel
theorem ixF_sg {c : Int} (h : 0 ≤ c ∧ c ≤ 255) : ixF c 11 0 = sgT c := by
  have := ixF_nat c.toNat (by omega)
  rw [show ((c.toNat : Nat) : Int) = c by omega] at this
  exact this
theorem nb_nm {b : Int → Int} : ∀ (n : Nat) (i a : Int), 0 ≤ a → nbF b (spn fig b n i - i).toNat i (min 10000 a) = min 10000 (nmF b n i a) ∧ 0 ≤ nmF b n i a
  | 0, i, a, h => by
    rw [show spn fig b 0 i = i from rfl, show (i - i).toNat = 0 by omega]; exact ⟨rfl, h⟩
  | n + 1, i, a, h => by
    by_cases q : fig (b i) = true
    · have e : spn fig b (n + 1) i = spn fig b n (i + 1) := by show (if fig (b i) = true then _ else _) = _; rw [if_pos q]
      have e2 : nmF b (n + 1) i a = nmF b n (i + 1) (if 99999 < a then a else 10 * a + b i - 48) := by show (if fig (b i) = true then _ else _) = _; rw [if_pos q]
      have hr := spn_r fig b n (i + 1)
      have q2 := q
      unfold fig at q2; rw [decide_eq_true_eq] at q2
      rw [e, e2, show (spn fig b n (i + 1) - i).toNat = (spn fig b n (i + 1) - (i + 1)).toNat + 1 by omega]
      show nbF b _ (i + 1) (min 10000 (min 10000 a * 10 + b i - 48)) = _ ∧ _
      have ih := nb_nm (b := b) n (i + 1) (if 99999 < a then a else 10 * a + b i - 48) (by split <;> omega)
      rw [← ih.1]
      refine ⟨?_, ih.2⟩
      congr 1
      split <;> omega
    · have e : spn fig b (n + 1) i = i := by show (if fig (b i) = true then _ else _) = _; rw [if_neg q]
      have e2 : nmF b (n + 1) i a = a := by show (if fig (b i) = true then _ else _) = _; rw [if_neg q]
      rw [e, e2, show (i - i).toNat = 0 by omega]; exact ⟨rfl, h⟩
def tokR (k n t m w : Int) : Prop := ((t = 0 ↔ k = 43) ∧ (t = 1 ↔ k = 41) ∧ (t = 1 → n = min 10000 m ∧ 0 ≤ m) ∧ (∀ (q : Nat) (L : List Int), wL[q]? = some L → ((t = 2 ∧ w = wv L) ↔ k = (q : Int)))) ∧ ((t = 4 ↔ k = 39) ∧ (t = 5 ↔ k = 40) ∧ (t = 60 ↔ k = 28) ∧ (t = 62 ↔ k = 29) ∧ (t = 61 ↔ k = 30) ∧ (t = 35 ↔ k = 31) ∧ (t = 43 ↔ k = 32) ∧ (t = 45 ↔ k = 33) ∧ (t = 42 ↔ k = 34) ∧ (t = 47 ↔ k = 35) ∧ (t = 40 ↔ k = 36) ∧ (t = 41 ↔ k = 37) ∧ (t = 59 ↔ k = 38)) ∧ 0 ≤ k ∧ k ≤ 43
theorem tok_rel {b : Int → Int} {N : Int} (hB : isTp b N) (i : Nat) : tokR (kd b N i) (nu b N i) (tokM b (ps b N i)) (nmM b N (ps b N i)) (mwM b N (ps b N i)) := by
  have hs := ps_r hB i
  unfold kd nu
  generalize ps b N i = s at *
  by_cases h0 : b s < 0
  · rw [if_pos h0, show tokM b s = 0 by unfold tokM; rw [if_pos h0]]
    refine ⟨⟨by simp, by simp, by simp, fun q L hq => ?_⟩, by simp, by simp⟩
    have := (List.getElem?_eq_some_iff.mp hq).1
    have e : wL.length = 28 := by decide +kernel
    constructor
    · intro h; simp at h
    · intro h; omega
  · rw [if_neg h0]
    have hlt : s < N := by
      rcases Int.lt_or_le s N with q | q
      · exact q
      · have := hB.2.2 s q; omega
    have hb := hB.2.1 s hs.1 hlt
    have hps := psM_r hB hs.1 hs.2
    have hwl : wL.length = 28 := by decide +kernel
    by_cases hf : fig (b s) = true
    · have hl : ltr (b s) = false := by
        unfold fig at hf; rw [decide_eq_true_eq] at hf
        unfold ltr; rw [decide_eq_false_iff_not]; omega
      have e1 : tokM b s = 1 := by unfold tokM; rw [if_neg h0, if_pos hf]
      have e2 : kdC b N s = 41 := by unfold kdC; rw [hl, if_pos hf]; rfl
      rw [e1, e2]
      refine ⟨⟨by simp, by simp, fun _ => ?_, fun q L hq => ?_⟩, by simp, by simp⟩
      · have := nb_nm (b := b) (N - s).toNat s 0 (by omega)
        have ep : psM b N s = spn fig b (N - s).toNat s := by unfold psM; rw [if_neg h0, if_pos hf]
        unfold nuC nbC nmM
        rw [if_pos hf, ep]
        exact this
      · have := (List.getElem?_eq_some_iff.mp hq).1
        constructor
        · intro h; simp at h
        · intro h; omega
    · have hf' : fig (b s) = false := by simpa using hf
      by_cases hl : ltr (b s) = true
      · have e1 : tokM b s = 2 := by unfold tokM; rw [if_neg h0, hf', if_pos hl]; rfl
        have e2 : kdC b N s = fdL (ltL b s (psM b N s)) wL 0 := by unfold kdC; rw [if_pos hl, wdC_fd hps.1]
        have hr := fdL_r (ltL b s (psM b N s)) wL 0
        rw [hwl] at hr
        rw [e1, e2]
        have hw : ∀ (q : Nat) (L : List Int), wL[q]? = some L → ((2 : Int) = 2 ∧ mwM b N s = wv L ↔ fdL (ltL b s (psM b N s)) wL 0 = (q : Int)) := fun q L hq => by
          have h1 := fdL_at (X := ltL b s (psM b N s)) wL 0 q L wL_nd (by rw [hwl]; omega) hq
          rw [Int.zero_add] at h1
          have hok := wL_ok L (List.mem_of_getElem? hq)
          have ep : psM b N s = spn ltr b (N - s).toNat s := by unfold psM; rw [if_neg h0, hf', if_pos hl]; rfl
          have h2 : mwM b N s = mfL (ltL b s (psM b N s)) 0 := by unfold mwM; rw [mwF_mfL, ep]
          rw [h1, h2, mf_wv L.length _ L rfl (fun c hc => ?_) hok.1 hok.2.1 hok.2.2]
          · simp
          · unfold ltL at hc
            simp at hc
            obtain ⟨j, hj, rfl⟩ := hc
            have := hB.2.1 (s + j) (by omega) (by omega)
            have hh : ltr (b (s + j)) = true := spn_all (N - s).toNat s (s + j) (by omega) (by rw [← ep]; omega)
            unfold ltr at hh; rw [decide_eq_true_eq] at hh
            omega
        refine ⟨⟨⟨fun h => by omega, fun h => by omega⟩, ⟨fun h => by omega, fun h => by omega⟩, fun h => by omega, hw⟩, ?_, by omega, by omega⟩
        refine ⟨?_, ?_, ?_, ?_, ?_, ?_, ?_, ?_, ?_, ?_, ?_, ?_, ?_⟩ <;> (constructor <;> intro h <;> omega)
      · have hl' : ltr (b s) = false := by simpa using hl
        have nw : ∀ (t k : Int), t ≠ 2 → 28 ≤ k → ∀ (q : Nat) (L : List Int), wL[q]? = some L → ((t = 2 ∧ mwM b N s = wv L) ↔ k = (q : Int)) := fun t k ht hk q L hq => by
          have := (List.getElem?_eq_some_iff.mp hq).1
          constructor
          · intro h; exact absurd h.1 ht
          · intro h; omega
        by_cases h2 : two2 b s = true
        · have e1 : tokM b s = if b s = 60 then 4 else 5 := by unfold tokM; rw [if_neg h0, hf', hl', if_pos h2]; rfl
          have e2 : kdC b N s = if b s = 60 then 39 else 40 := by unfold kdC; rw [hl', hf', if_pos h2]; rfl
          rw [e1, e2]
          by_cases h6 : b s = 60
          · rw [if_pos h6, if_pos h6]
            exact ⟨⟨by simp, by simp, by simp, nw _ _ (by omega) (by omega)⟩, by simp, by simp⟩
          · rw [if_neg h6, if_neg h6]
            exact ⟨⟨by simp, by simp, by simp, nw _ _ (by omega) (by omega)⟩, by simp, by simp⟩
        · have h2' : two2 b s = false := by simpa using h2
          have e1 : tokM b s = if sgn (b s) = true then b s else 3 := by unfold tokM; rw [if_neg h0, hf', hl', h2']; rfl
          have e2 : kdC b N s = if sgT (b s) < 0 then 42 else 28 + sgT (b s) := by unfold kdC; rw [hl', hf', h2', ixF_sg hb]; rfl
          rw [e1, e2]
          unfold fig at hf'
          unfold ltr at hl'
          rw [decide_eq_false_iff_not] at hf' hl'
          have key : ∀ c : Int, b s = c → sgn c = true → 0 ≤ sgT c → sgT c ≤ 10 → c ≠ 2 → c ≠ 1 → c ≠ 0 → ((c = 4 ↔ 28 + sgT c = 39) ∧ (c = 5 ↔ 28 + sgT c = 40) ∧ (c = 60 ↔ 28 + sgT c = 28) ∧ (c = 62 ↔ 28 + sgT c = 29) ∧ (c = 61 ↔ 28 + sgT c = 30) ∧ (c = 35 ↔ 28 + sgT c = 31) ∧ (c = 43 ↔ 28 + sgT c = 32) ∧ (c = 45 ↔ 28 + sgT c = 33) ∧ (c = 42 ↔ 28 + sgT c = 34) ∧ (c = 47 ↔ 28 + sgT c = 35) ∧ (c = 40 ↔ 28 + sgT c = 36) ∧ (c = 41 ↔ 28 + sgT c = 37) ∧ (c = 59 ↔ 28 + sgT c = 38)) → tokR (if sgT (b s) < 0 then 42 else 28 + sgT (b s)) (nuC b N s) (if sgn (b s) = true then b s else 3) (nmM b N s) (mwM b N s) := by
            intro c hc h1 h3 h4 q2 q1 q0 hx
            rw [hc, if_neg (by omega), if_pos h1]
            refine ⟨⟨⟨fun h => by omega, fun h => by omega⟩, ⟨fun h => by omega, fun h => by omega⟩, fun h => by omega, nw _ _ q2 (by omega)⟩, hx, by omega, by omega⟩
          by_cases c1 : b s = 60
          · exact key 60 c1 (by decide) (by decide) (by decide) (by decide) (by decide) (by decide) (by decide)
          by_cases c2 : b s = 62
          · exact key 62 c2 (by decide) (by decide) (by decide) (by decide) (by decide) (by decide) (by decide)
          by_cases c3 : b s = 61
          · exact key 61 c3 (by decide) (by decide) (by decide) (by decide) (by decide) (by decide) (by decide)
          by_cases c4 : b s = 35
          · exact key 35 c4 (by decide) (by decide) (by decide) (by decide) (by decide) (by decide) (by decide)
          by_cases c5 : b s = 43
          · exact key 43 c5 (by decide) (by decide) (by decide) (by decide) (by decide) (by decide) (by decide)
          by_cases c6 : b s = 45
          · exact key 45 c6 (by decide) (by decide) (by decide) (by decide) (by decide) (by decide) (by decide)
          by_cases c7 : b s = 42
          · exact key 42 c7 (by decide) (by decide) (by decide) (by decide) (by decide) (by decide) (by decide)
          by_cases c8 : b s = 47
          · exact key 47 c8 (by decide) (by decide) (by decide) (by decide) (by decide) (by decide) (by decide)
          by_cases c9 : b s = 40
          · exact key 40 c9 (by decide) (by decide) (by decide) (by decide) (by decide) (by decide) (by decide)
          by_cases c10 : b s = 41
          · exact key 41 c10 (by decide) (by decide) (by decide) (by decide) (by decide) (by decide) (by decide)
          by_cases c11 : b s = 59
          · exact key 59 c11 (by decide) (by decide) (by decide) (by decide) (by decide) (by decide) (by decide)
          have e3 : sgT (b s) = -1 := by unfold sgT; rw [if_neg c1, if_neg c2, if_neg c3, if_neg c4, if_neg c5, if_neg c6, if_neg c7, if_neg c8, if_neg c9, if_neg c10, if_neg c11]
          rw [e3, if_pos (by decide)]
          have fin : ∀ t : Int, (t = 58 ∨ t = 3) → tokR 42 (nuC b N s) t (nmM b N s) (mwM b N s) := by
            intro t ht
            refine ⟨⟨⟨fun h => by omega, fun h => by omega⟩, ⟨fun h => by omega, fun h => by omega⟩, fun h => by omega, nw _ _ (by omega) (by omega)⟩, ?_, by omega, by omega⟩
            refine ⟨?_, ?_, ?_, ?_, ?_, ?_, ?_, ?_, ?_, ?_, ?_, ?_, ?_⟩ <;> (constructor <;> intro h <;> omega)
          apply fin
          by_cases h58 : b s = 58
          · left; rw [if_pos (by rw [h58]; decide)]; exact h58
          · right
            rw [if_neg]
            unfold sgn; rw [decide_eq_true_eq]; omega
theorem kd_lt {b : Int → Int} {N : Int} (hB : isTp b N) {i : Nat} (h : kd b N i ≠ 43) : (i : Int) < 300 ∧ ps b N i < N := by
  have hs := ps_r hB i
  have hn := hB.1
  have : ¬ b (ps b N i) < 0 := fun q => h (by unfold kd; rw [if_pos q])
  have hlt : ps b N i < N := by
    rcases Int.lt_or_le (ps b N i) N with q | q
    · exact q
    · have := hB.2.2 _ q; omega
  have := ps_i hB i hlt
  omega
theorem kd_end {b : Int → Int} {N : Int} (hB : isTp b N) {i : Nat} (h : ps b N i = N) : kd b N i = 43 := by
  unfold kd; rw [if_pos (by rw [h]; have := hB.2.2 N (Int.le_refl _); omega)]
theorem kd_far {b : Int → Int} {N : Int} (hB : isTp b N) {i j : Nat} (h : kd b N i = 43) (hj : i ≤ j) : kd b N j = 43 := by
  have hs := ps_r hB i
  have ht := tok_rel hB i
  have : tokM b (ps b N i) = 0 := ht.1.1.mpr h
  have hb : b (ps b N i) < 0 := by
    rcases Int.lt_or_le (b (ps b N i)) 0 with q | q
    · exact q
    · exfalso
      unfold kd at h; rw [if_neg (by omega)] at h
      unfold tokM at this; rw [if_neg (by omega)] at this
      split at this
      · omega
      · split at this
        · omega
        · split at this
          · split at this <;> omega
          · split at this
            · rename_i h1 h2 h3 h4
              unfold sgn at h4; rw [decide_eq_true_eq] at h4; omega
            · omega
  have e := (hB.neg hs.1 hs.2).mp hb
  have := ps_end hB e (j - i)
  rw [show i + (j - i) = j by omega] at this
  exact kd_end hB this
