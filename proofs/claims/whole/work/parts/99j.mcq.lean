theorem askA_inv {G : List Int} (h : askA G = true) : opP G = 42 ∧ lowR 4 G ∧ G.head? ≠ some 41 ∧ cmpd G = false := by
  unfold askA at h
  rw [Bool.and_eq_true, decide_eq_true_eq] at h
  obtain ⟨h1, h2⟩ := h
  cases G with
  | nil => cases h2
  | cons x r =>
    have h3 : 40 ≤ x ∨ (1 ≤ rankS x ∧ rankS x ≤ 3) := of_decide_eq_true h2
    have h4 : rankS x < 4 := by
      rcases h3 with q | q
      · have : rankS x = 0 := by unfold rankS; rw [if_pos q]
        omega
      · omega
    refine ⟨h1, lowR.cons h4, fun q => ?_, ?_⟩
    · have : x = 41 := by simpa using q
      subst this
      exact absurd h1 (by show ¬ ((41 : Int) = 42); decide)
    · show (if 4 < rankS x then cmpd r else decide (rankS x = 4)) = false
      rw [if_neg (by omega)]; exact decide_eq_false (by omega)
theorem askA_cons {x : Int} {G : List Int} (h : opP G = 42) (hx : x < 40) (hr : 1 ≤ rankS x ∧ rankS x ≤ 3) : askA (x :: G) = true := by
  unfold askA
  rw [Bool.and_eq_true, decide_eq_true_eq]
  refine ⟨?_, decide_eq_true (.inr hr)⟩
  show (if 40 ≤ x then x else opP G) = 42
  rw [if_neg (by omega)]; exact h
theorem btw_n {k : Int} {p : List Int} (h : nAr k) : btw k p = if opP p ≠ 42 then -1 else if cmpd p = false then cmO k else if k = 26 then 21 else if k = 25 then 22 else -1 := by
  unfold btw; rw [if_neg h.1, if_neg h.2.1, if_neg h.2.2.1, if_neg h.2.2.2]
theorem cmO_y {k : Int} (h : (28 ≤ k ∧ k ≤ 31) ∨ (39 ≤ k ∧ k ≤ 40)) : (10 ≤ cmO k ∧ cmO k ≤ 15) ∧ mcC (cmO k) = k ∧ rankS (cmO k) = 4 := by
  have : k = 28 ∨ k = 29 ∨ k = 30 ∨ k = 31 ∨ k = 39 ∨ k = 40 := by omega
  rcases this with rfl | rfl | rfl | rfl | rfl | rfl <;> decide
theorem cmO_n {k : Int} (h : ¬ ((28 ≤ k ∧ k ≤ 31) ∨ (39 ≤ k ∧ k ≤ 40))) : cmO k = -1 := by
  unfold cmO; rw [if_neg (by omega), if_neg (by omega), if_neg (by omega), if_neg (by omega), if_neg (by omega), if_neg (by omega)]
theorem beh_cm {K : Nat → Int} {Z : List Int → Int → Bool → Nat → SK → Prop} {Fl : Int → Nat → Prop} {Dn : Nat → SK → Prop} {p : List Int} {o : Int} {i : Nat} {s : SK} (h : nAr (K i)) (h1 : opP p = 42) (h2 : cmpd p = false) (h3 : (28 ≤ K i ∧ K i ≤ 31) ∨ (39 ≤ K i ∧ K i ≤ 40)) (hh : Z (cmO (K i) :: (stlS 5 p o s).1) (stlS 5 p o s).2.1 false (i + 1) (stlS 5 p o s).2.2) : behP K Z Fl Dn p o i s := by
  have hb : btw (K i) p = cmO (K i) := by rw [btw_n h, if_neg (fun q => q h1), if_pos h2]
  have hc := cmO_y h3
  unfold behP
  rw [hb, if_pos (by omega), if_pos hc.2.2]; exact hh
theorem beh_lo {K : Nat → Int} {Z : List Int → Int → Bool → Nat → SK → Prop} {Fl : Int → Nat → Prop} {Dn : Nat → SK → Prop} {p : List Int} {o c r : Int} {i : Nat} {s : SK} (h1 : opP p = 42) (h2 : cmpd p = true) (h3 : (K i = 26 ∧ c = 21 ∧ r = 2) ∨ (K i = 25 ∧ c = 22 ∧ r = 1)) (hh : Z (c :: (stlS r p o s).1) (stlS r p o s).2.1 false (i + 1) (stlS r p o s).2.2) : behP K Z Fl Dn p o i s := by
  have hn : nAr (K i) := by unfold nAr; omega
  have hb : btw (K i) p = c := by
    rw [btw_n hn, if_neg (fun q => q h1), if_neg (by rw [h2]; decide)]
    rcases h3 with q | q
    · rw [if_pos q.1]; exact q.2.1.symm
    · rw [if_neg (by omega), if_pos q.1]; exact q.2.1.symm
  have hr : rankS c = r := by
    rcases h3 with q | q
    · rw [q.2.1, q.2.2]; decide
    · rw [q.2.1, q.2.2]; decide
  unfold behP
  rw [hb, if_pos (by omega), hr, if_neg (by omega)]; exact hh
theorem beh_er {K : Nat → Int} {Z : List Int → Int → Bool → Nat → SK → Prop} {Fl : Int → Nat → Prop} {Dn : Nat → SK → Prop} {p : List Int} {o : Int} {i : Nat} {s : SK} (h1 : btw (K i) p < 0) (h2 : prt (K i) p < 0) (h3 : 0 ≤ opP p) (hh : Fl 1 i) : behP K Z Fl Dn p o i s := by
  unfold behP
  rw [if_neg (by omega), if_pos h2, if_pos h3]; exact hh
theorem beh_pt {K : Nat → Int} {Z : List Int → Int → Bool → Nat → SK → Prop} {Fl : Int → Nat → Prop} {Dn : Nat → SK → Prop} {p : List Int} {o : Int} {i : Nat} {s : SK} (h1 : btw (K i) p < 0) (h2 : 0 < prt (K i) p) (hh : Z (prt (K i) p :: (stlS 1 p o s).1.tail) (stlS 1 p o s).2.1 false (i + 1) (stlS 1 p o s).2.2) : behP K Z Fl Dn p o i s := by
  unfold behP
  rw [if_neg (by omega), if_neg (by omega), if_neg (by omega)]; exact hh
theorem beh_sh {K : Nat → Int} {Z : List Int → Int → Bool → Nat → SK → Prop} {Fl : Int → Nat → Prop} {Dn : Nat → SK → Prop} {p : List Int} {o : Int} {i : Nat} {s : SK} (h1 : btw (K i) p < 0) (h2 : prt (K i) p = 0) (hh : eo K Z Fl (stlS 1 p o s).1.tail ((stlS 1 p o s).2.1 - 1) (i + 1) (if opP p = 44 then em 3 0 (stlS 1 p o s).2.2 else (stlS 1 p o s).2.2)) : behP K Z Fl Dn p o i s := by
  unfold behP
  rw [if_neg (by omega), if_neg (by omega), if_pos h2]; exact hh
theorem ask_of {K M : Nat → Int} {lw : Int} {Z : List Int → Int → Bool → Nat → SK → Prop} {Fl : Int → Nat → Prop} {Dn : Nat → SK → Prop} {n : Nat} (hM : ∀ i, K i = 41 → 0 ≤ M i) (hK : ∀ j, 301 ≤ j → K j = 43) (hC : CLo K M lw Z Fl Dn) (h0 : ∀ m, n = m + 1 → AskP K M lw Z Fl m) (h1 : SumP K M lw Z Fl n) : AskP K M lw Z Fl n := by
  intro G o i l ho hl hA hE hO
  have hG := askA_inv hA
  by_cases q : K i = 27
  · refine hC.1 G o i (some l) (by omega) ?_
    unfold begP
    rw [if_neg (by omega), if_neg (by omega), if_neg (by omega), if_neg (by omega), if_neg (by omega), if_neg (by omega), if_neg (by omega), if_pos ⟨q, hA⟩]
    unfold opn
    cases n with
    | zero => rw [if_pos (by omega)]; exact hE 3 i (pA_deep q)
    | succ m =>
      rw [if_neg (by omega)]
      refine h0 m rfl (20 :: G) (o + 1) (i + 1) l (by omega) (by simp; omega) (askA_cons hG.1 (by decide) (by decide)) (fun c k e => hE c k (by rw [pA_not q, pB_er e])) (fun f j e p' o' s' hs h42 hcm hp => hO _ j (by rw [pA_not q, pB_ok e]) p' o' s' ?_ h42 hcm (by simp at hp; omega))
      rw [hs, stl_pop (by decide), em_no, if_pos (.inr rfl), show o + 1 - 1 = o by omega]
  · have hp := pA_cmp (K := K) (M := M) (lw := lw) (n := n) q
    refine h1 G o i l ho (by omega) (fun z => absurd z q) (hG.2.1.mono (by omega)) hG.2.2.1 (fun c k e => hE c k (by rw [hp, pB_er e])) (fun f j e p1 o1 s1 hs1 hl1 => ?_)
    have hn := endS (lw := lw) hM hK n _ _ _ e
    have h42 : opP p1 = 42 := by rw [opP_stl (by omega) hs1]; exact hG.1
    have hcm : cmpd p1 = false := by rw [cmpd_stl hs1]; exact hG.2.2.2
    rw [pB_ok e] at hp
    by_cases r : (28 ≤ K j ∧ K j ≤ 31) ∨ (39 ≤ K j ∧ K j ≤ 40)
    · rw [if_pos r] at hp
      have hc := cmO_y r
      refine hC.2 p1 o1 j s1 (by omega) (beh_cm hn h42 hcm r ?_)
      rw [hs1]
      refine h1 _ _ _ _ ho (by simp; omega) (fun _ => askA_no (by omega)) (lowR.cons (by omega)) (by simp; omega) (fun c k e2 => hE c k (by rw [hp, pB_er e2])) (fun g j2 e2 p2 o2 s2 hs2 hl2 => ?_)
      refine hO _ j2 (by rw [hp, pB_ok e2]) p2 o2 s2 ?_ ?_ ?_ (by simp at hl2; omega)
      · rw [stl_eq (show (3 : Int) ≤ 5 by omega) hs2, stl_pop (by omega), em_cm hc.1, hc.2.1, if_neg (by omega)]
      · rw [opP_stl (by omega) hs2]
        show (if 40 ≤ cmO (K j) then _ else opP G) = 42
        rw [if_neg (by omega)]; exact hG.1
      · rw [cmpd_stl hs2]
        show (if 4 < rankS (cmO (K j)) then _ else decide (rankS (cmO (K j)) = 4)) = true
        rw [if_neg (by omega)]; exact decide_eq_true hc.2.2
    · rw [if_neg r] at hp
      refine hC.2 p1 o1 j s1 (by omega) (beh_er ?_ ?_ (by omega) (hE 1 j hp))
      · rw [btw_n hn, if_neg (fun z => z h42), if_pos hcm, cmO_n r]; decide
      · unfold prt; rw [h42, if_neg (by decide), if_pos rfl, if_neg (by rw [hcm]; simp)]; decide
theorem bot_of {K M : Nat → Int} {lw : Int} {Z : List Int → Int → Bool → Nat → SK → Prop} {Fl : Int → Nat → Prop} {Dn : Nat → SK → Prop} {n : Nat} (hC : CLo K M lw Z Fl Dn) (h1 : AskP K M lw Z Fl n) : BotP K M lw Z Fl n := by
  intro G o i l ho hl hA hlow hE hO
  have hG := askA_inv hA
  have T : ∀ (k : Nat) (f : Env → Int) (j : Nat) (p' : List Int) (o' : Int) (s' : SK), pBt K M lw n i = pTl K oAn (pA K M lw n) k f j → stlS 2 p' o' s' = (G, o, some ((true, f) :: l)) → opP p' = 42 → cmpd p' = true → p'.length ≤ G.length + 4 + n → Z p' o' true j s' := by
    intro k
    induction k with
    | zero => intro f j p' o' s' he hs h42 hcm hp; exact hO f j he p' o' s' hs h42 hcm hp
    | succ k ih =>
      intro f j p' o' s' he hs h42 hcm hp
      by_cases q : oAn (K j) = true
      · have he2 : pTl K oAn (pA K M lw n) (k + 1) f j = pB (pA K M lw n (j + 1)) (fun g j' => pTl K oAn (pA K M lw n) k (fun e => jn (K j) (f e) (g e)) j') := by
          show (if oAn (K j) = true then _ else _) = _; rw [if_pos q]
        have q2 : K j = 26 := of_decide_eq_true q
        refine hC.2 p' o' j s' (by omega) (beh_lo (c := 21) (r := 2) h42 hcm (.inl ⟨q2, rfl, rfl⟩) ?_)
        rw [hs]
        refine h1 _ _ _ _ ho (by simp; omega) (askA_cons hG.1 (by decide) (by decide)) (fun c k' e => hE c k' (by rw [he, he2, pB_er e])) (fun g j' e p2 o2 s2 hs2 h422 hcm2 hp2 => ih _ j' _ _ _ (by rw [he, he2, pB_ok e]) ?_ h422 hcm2 (by simp at hp2; omega))
        rw [stl_eq2 (show (2 : Int) ≤ 3 by omega) hs2, stl_pop (by decide), em_an (.inl rfl), if_neg (by decide), q2]
        exact stl_low hlow
      · exact hO f j (by rw [he]; show (if oAn (K j) = true then _ else _) = _; rw [if_neg q]) p' o' s' hs h42 hcm hp
  refine h1 G o i l ho (by omega) hA (fun c k e => hE c k (by rw [pBt_eq]; exact pB_er e)) (fun f j e p2 o2 s2 hs2 h42 hcm hp2 => T 300 f j p2 o2 s2 (by rw [pBt_eq]; exact pB_ok e) (by rw [stl_eq2 (show (2 : Int) ≤ 3 by omega) hs2]; exact stl_low hlow) h42 hcm (by omega))
theorem eit_of {K M : Nat → Int} {lw : Int} {Z : List Int → Int → Bool → Nat → SK → Prop} {Fl : Int → Nat → Prop} {Dn : Nat → SK → Prop} {n : Nat} (hC : CLo K M lw Z Fl Dn) (h1 : BotP K M lw Z Fl n) : EitP K M lw Z Fl n := by
  intro G o i l ho hl hA hlow hE hO
  have hG := askA_inv hA
  have T : ∀ (k : Nat) (f : Env → Int) (j : Nat) (p' : List Int) (o' : Int) (s' : SK), pE K M lw n i = pTl K oOr (pBt K M lw n) k f j → stlS 1 p' o' s' = (G, o, some ((true, f) :: l)) → opP p' = 42 → cmpd p' = true → p'.length ≤ G.length + 5 + n → Z p' o' true j s' := by
    intro k
    induction k with
    | zero => intro f j p' o' s' he hs h42 hcm hp; exact hO f j he p' o' s' hs h42 hcm hp
    | succ k ih =>
      intro f j p' o' s' he hs h42 hcm hp
      by_cases q : oOr (K j) = true
      · have he2 : pTl K oOr (pBt K M lw n) (k + 1) f j = pB (pBt K M lw n (j + 1)) (fun g j' => pTl K oOr (pBt K M lw n) k (fun e => jn (K j) (f e) (g e)) j') := by
          show (if oOr (K j) = true then _ else _) = _; rw [if_pos q]
        have q2 : K j = 25 := of_decide_eq_true q
        refine hC.2 p' o' j s' (by omega) (beh_lo (c := 22) (r := 1) h42 hcm (.inr ⟨q2, rfl, rfl⟩) ?_)
        rw [hs]
        refine h1 _ _ _ _ ho (by simp; omega) (askA_cons hG.1 (by decide) (by decide)) (lowR.cons (by decide)) (fun c k' e => hE c k' (by rw [he, he2, pB_er e])) (fun g j' e p2 o2 s2 hs2 h422 hcm2 hp2 => ih _ j' _ _ _ (by rw [he, he2, pB_ok e]) ?_ h422 hcm2 (by simp at hp2; omega))
        rw [stl_eq (show (1 : Int) ≤ 2 by omega) hs2, stl_pop (by decide), em_an (.inr rfl), if_neg (by decide), q2]
        exact stl_low hlow
      · exact hO f j (by rw [he]; show (if oOr (K j) = true then _ else _) = _; rw [if_neg q]) p' o' s' hs h42 hcm hp
  refine h1 G o i l ho (by omega) hA (hlow.mono (by omega)) (fun c k e => hE c k (by rw [pE_eq]; exact pB_er e)) (fun f j e p2 o2 s2 hs2 h42 hcm hp2 => T 300 f j p2 o2 s2 (by rw [pE_eq]; exact pB_ok e) (by rw [stl_eq (show (1 : Int) ≤ 2 by omega) hs2]; exact stl_low hlow) h42 hcm (by omega))
theorem cho_of {K M : Nat → Int} {lw : Int} {Z : List Int → Int → Bool → Nat → SK → Prop} {Fl : Int → Nat → Prop} {Dn : Nat → SK → Prop} {n : Nat} (hM : ∀ i, K i = 41 → 0 ≤ M i) (hK : ∀ j, 301 ≤ j → K j = 43) (hC : CLo K M lw Z Fl Dn) (h1 : SumP K M lw Z Fl n) (h2 : EitP K M lw Z Fl n) : ChoP K M lw Z Fl n := by
  intro G o i l ho hl hE hO
  have hp := pC_i (K := K) (M := M) (lw := lw) (n := n) (i := i)
  have nb : ∀ (k : Int) (p : List Int), nAr k → opP p ≠ 42 → btw k p < 0 := fun k p hn h => by rw [btw_n hn, if_pos h]; decide
  refine h2 (42 :: G) o i l ho (by simp; omega) rfl (lowR.cons (by decide)) (fun c k e => hE c k (by rw [hp, pB_er e])) (fun q j e p1 o1 s1 hs1 h42 hcm hl1 => ?_)
  have hn := endE (lw := lw) hM hK n _ _ _ e
  rw [pB_ok e] at hp
  have hb1 : btw (K j) p1 < 0 := by rw [btw_n hn.1, if_neg (fun z => z h42), if_neg (by rw [hcm]; decide), if_neg hn.2.1, if_neg hn.2.2]; decide
  simp at hl1
  by_cases k1 : K j = 22
  · rw [if_pos k1] at hp
    have hpr : prt (K j) p1 = 43 := by unfold prt; rw [h42, if_neg (by decide), if_pos rfl, if_pos ⟨k1, hcm⟩]
    refine hC.2 p1 o1 j s1 (by omega) (beh_pt hb1 (by omega) ?_)
    rw [hpr, hs1]
    refine h1 (43 :: G) o (j + 1) ((true, q) :: l) ho (by simp; omega) (fun _ => rfl) (lowR.cons (by decide)) (by simp) (fun c k e2 => hE c k (by rw [hp, pB_er e2])) (fun f j2 e2 p2 o2 s2 hs2 hl2 => ?_)
    have hn2 := endS (lw := lw) hM hK n _ _ _ e2
    rw [pB_ok e2] at hp
    simp at hl2
    have h43 : opP p2 = 43 := opP_stl (by omega) hs2
    have hb2 := nb (K j2) p2 hn2 (by omega)
    by_cases k2 : K j2 = 23
    · rw [if_pos k2] at hp
      have hpr2 : prt (K j2) p2 = 44 := by unfold prt; rw [h43, if_neg (by decide), if_neg (by decide), if_pos rfl, if_pos k2]
      refine hC.2 p2 o2 j2 s2 (by omega) (beh_pt hb2 (by omega) ?_)
      rw [hpr2, stl_eq (show (1 : Int) ≤ 5 by omega) hs2, stl_low (lowR.cons (by decide))]
      refine h1 (44 :: G) o (j2 + 1) ((false, f) :: (true, q) :: l) ho (by simp; omega) (fun _ => rfl) (lowR.cons (by decide)) (by simp) (fun c k e3 => hE c k (by rw [hp, pB_er e3])) (fun g j3 e3 p3 o3 s3 hs3 hl3 => ?_)
      have hn3 := endS (lw := lw) hM hK n _ _ _ e3
      rw [pB_ok e3] at hp
      simp at hl3
      have h44 : opP p3 = 44 := opP_stl (by omega) hs3
      have hb3 := nb (K j3) p3 hn3 (by omega)
      by_cases k3 : K j3 = 24
      · rw [if_pos k3] at hp
        have hpr3 : prt (K j3) p3 = 0 := by unfold prt; rw [h44, if_neg (by decide), if_neg (by decide), if_neg (by decide), if_pos rfl, if_pos k3]
        refine hC.2 p3 o3 j3 s3 (by omega) (beh_sh hb3 hpr3 ?_)
        rw [if_pos h44, stl_eq (show (1 : Int) ≤ 5 by omega) hs3, stl_low (lowR.cons (by decide)), em_se]
        exact hO _ _ hp
      · rw [if_neg k3] at hp
        refine hC.2 p3 o3 j3 s3 (by omega) (beh_er hb3 ?_ (by omega) (hE 1 j3 hp))
        unfold prt; rw [h44, if_neg (by decide), if_neg (by decide), if_neg (by decide), if_pos rfl, if_neg k3]; decide
    · rw [if_neg k2] at hp
      refine hC.2 p2 o2 j2 s2 (by omega) (beh_er hb2 ?_ (by omega) (hE 1 j2 hp))
      unfold prt; rw [h43, if_neg (by decide), if_neg (by decide), if_pos rfl, if_neg k2]; decide
  · rw [if_neg k1] at hp
    refine hC.2 p1 o1 j s1 (by omega) (beh_er hb1 ?_ (by omega) (hE 1 j hp))
    unfold prt; rw [h42, if_neg (by decide), if_pos rfl, if_neg (fun z => k1 z.1)]; decide
theorem one_of {K M : Nat → Int} {lw : Int} {Z : List Int → Int → Bool → Nat → SK → Prop} {Fl : Int → Nat → Prop} {Dn : Nat → SK → Prop} {n : Nat} (hM : ∀ i, K i = 41 → 0 ≤ M i) (hK : ∀ j, 301 ≤ j → K j = 43) (hC : CLo K M lw Z Fl Dn) (h0 : ∀ m, n = m + 1 → SumP K M lw Z Fl m ∧ OneP K M lw Z Fl m ∧ ChoP K M lw Z Fl m) : OneP K M lw Z Fl n := by
  intro G o i l ho hl hna hE hO
  refine hC.1 G o i (some l) (by omega) ?_
  unfold begP
  by_cases c0 : K i = 41
  · rw [if_pos c0]
    have hp := pO_num (K := K) (M := M) (lw := lw) (n := n) c0
    by_cases q : 9999 < M i
    · rw [if_pos q] at hp ⊢; exact hE _ _ hp
    · rw [if_neg q] at hp ⊢; rw [em_nu]; exact hO _ _ hp
  rw [if_neg c0]
  by_cases c1 : 0 ≤ K i ∧ K i ≤ 8
  · rw [if_pos c1]
    have hp := pO_name (K := K) (M := M) (lw := lw) (n := n) c1
    by_cases q : (0 ≤ K i ∧ K i ≤ 4) ∨ (lw = 9 ∧ 5 ≤ K i ∧ K i ≤ 7) ∨ (lw ≠ 9 ∧ K i = 8)
    · rw [if_pos q] at hp ⊢; rw [em_na]; exact hO _ _ hp
    · rw [if_neg q] at hp ⊢; exact hE _ _ hp
  rw [if_neg c1]
  by_cases co : K i = 36 ∨ K i = 33 ∨ K i = 18 ∨ K i = 20 ∨ K i = 21
  · cases n with
    | zero =>
      have hp := pO_deep (K := K) (M := M) (lw := lw) co
      have hf := hE _ _ hp
      have : ∀ c, opn Z Fl c G o i (some l) := fun c => by unfold opn; rw [if_pos (by omega)]; exact hf
      split
      · exact this _
      · split
        · exact this _
        · split
          · exact this _
          · split
            · exact this _
            · split
              · exact this _
              · omega
    | succ m =>
      obtain ⟨hS, h1, hCh⟩ := h0 m rfl
      have op : ∀ c, Z (c :: G) (o + 1) false (i + 1) (some l) → opn Z Fl c G o i (some l) := fun c h => by unfold opn; rw [if_neg (by omega)]; exact h
      by_cases k1 : K i = 36
      · rw [if_pos k1]
        have hp := pO_par (K := K) (M := M) (lw := lw) (n := m) k1
        refine op 40 (hS _ _ _ _ (by omega) (by simp; omega) (fun _ => rfl) (lowR.cons (by decide)) (by simp) (fun c k e => hE c k (by rw [hp, pB_er e])) (fun f j e p1 o1 s1 hs1 hl1 => ?_))
        have hn := endS (lw := lw) hM hK m _ _ _ e
        rw [pB_ok e] at hp
        simp at hl1
        have h40 : opP p1 = 40 := opP_stl (by omega) hs1
        have hb : btw (K j) p1 < 0 := by rw [btw_n hn, if_pos (by omega)]; decide
        by_cases k37 : K j = 37
        · rw [if_pos k37] at hp
          refine hC.2 p1 o1 j s1 (by omega) (beh_sh hb (by unfold prt; rw [if_pos h40, if_pos k37]) ?_)
          rw [if_neg (by omega), stl_eq (show (1 : Int) ≤ 5 by omega) hs1, stl_low (lowR.cons (by decide))]
          show eo K Z Fl G (o + 1 - 1) (j + 1) _
          rw [show o + 1 - 1 = o by omega]
          exact hO _ _ hp
        · rw [if_neg k37] at hp
          exact hC.2 p1 o1 j s1 (by omega) (beh_er hb (by unfold prt; rw [if_pos h40, if_neg k37]; decide) (by omega) (hE 1 j hp))
      rw [if_neg k1]
      by_cases k2 : K i = 33
      · rw [if_pos k2]
        have hp := pO_neg (K := K) (M := M) (lw := lw) (n := m) k2
        refine op 5 (h1 _ _ _ _ (by omega) (by simp; omega) (fun _ => askA_no (by decide)) (fun c k e => hE c k (by rw [hp, pB_er e])) (fun f j e => eo_pop (by decide) ?_))
        rw [em_mi, show o + 1 - 1 = o by omega]
        exact hO _ _ (by rw [hp, pB_ok e])
      rw [if_neg k2]
      by_cases k3 : K i = 18
      · rw [if_pos k3]
        have hp := pO_com (K := K) (M := M) (lw := lw) (n := m) k3
        refine op 41 (h1 _ _ _ _ (by omega) (by simp; omega) (fun _ => rfl) (fun c k e => hE c k (by rw [hp, pB_er e])) (fun f j e => eo_com (fun k19 => ?_) (fun k19 => hE 1 j (by rw [hp, pB_ok e, if_neg k19]))))
        rw [pB_ok e, if_pos k19] at hp
        refine h1 _ _ _ _ (by omega) (by simp; omega) (fun _ => askA_no (by decide)) (fun c k e2 => hE c k (by rw [hp, pB_er e2])) (fun g j2 e2 => eo_pop (by decide) ?_)
        rw [em_jn (.inl rfl), show o + 1 - 1 = o by omega]
        exact hO _ _ (by rw [hp, pB_ok e2]; rfl)
      rw [if_neg k3]
      by_cases k4 : K i = 20
      · rw [if_pos k4]
        have hp := pO_rds (K := K) (M := M) (lw := lw) (n := m) k4
        refine op 2 (h1 _ _ _ _ (by omega) (by simp; omega) (fun _ => askA_no (by decide)) (fun c k e => hE c k (by rw [hp, pB_er e])) (fun f j e => eo_pop (by decide) ?_))
        rw [em_ro, show o + 1 - 1 = o by omega]
        exact hO _ _ (by rw [hp, pB_ok e])
      rw [if_neg k4]
      have k5 : K i = 21 := by omega
      rw [if_pos k5]
      have hp := pO_if (K := K) (M := M) (lw := lw) (n := m) k5
      refine op 42 (hCh _ _ _ _ (by omega) (by omega) (fun c k e => hE c k (by rw [hp, e])) (fun f j e => ?_))
      rw [show o + 1 - 1 = o by omega]
      exact hO _ _ (by rw [hp, e])
  · have hp := pO_cant (K := K) (M := M) (lw := lw) (n := n) c0 c1 co
    rw [if_neg (by omega), if_neg (by omega), if_neg (by omega), if_neg (by omega), if_neg (by omega), if_neg (fun z => by rw [hna z.1] at z; exact absurd z.2 (by decide))]
    exact hE _ _ hp
theorem mch_all {K M : Nat → Int} {lw : Int} {Z : List Int → Int → Bool → Nat → SK → Prop} {Fl : Int → Nat → Prop} {Dn : Nat → SK → Prop} (hM : ∀ i, K i = 41 → 0 ≤ M i) (hK : ∀ j, 301 ≤ j → K j = 43) (hC : CLo K M lw Z Fl Dn) : ∀ n, SumP K M lw Z Fl n ∧ OneP K M lw Z Fl n ∧ AskP K M lw Z Fl n ∧ ChoP K M lw Z Fl n
  | 0 => by
    have h1 : OneP K M lw Z Fl 0 := one_of hM hK hC (fun m e => by omega)
    have h2 := sum_of hC (pro_of hC h1)
    have h3 : AskP K M lw Z Fl 0 := ask_of hM hK hC (fun m e => by omega) h2
    exact ⟨h2, h1, h3, cho_of hM hK hC h2 (eit_of hC (bot_of hC h3))⟩
  | n + 1 => by
    obtain ⟨i1, i2, i3, i4⟩ := mch_all hM hK hC n
    have h1 : OneP K M lw Z Fl (n + 1) := one_of hM hK hC (fun m e => by cases e; exact ⟨i1, i2, i4⟩)
    have h2 := sum_of hC (pro_of hC h1)
    have h3 : AskP K M lw Z Fl (n + 1) := ask_of hM hK hC (fun m e => by cases e; exact i3) h2
    exact ⟨h2, h1, h3, cho_of hM hK hC h2 (eit_of hC (bot_of hC h3))⟩
/-- the whole of it: from the start to a fault, or to the end with the law's meaning -/
theorem mch_run {K M : Nat → Int} {lw : Int} {Z : List Int → Int → Bool → Nat → SK → Prop} {Fl : Int → Nat → Prop} {Dn : Nat → SK → Prop} (hM : ∀ i, K i = 41 → 0 ≤ M i) (hK : ∀ j, 301 ≤ j → K j = 43) (hC : CLo K M lw Z Fl Dn) (i : Nat) (hE : ∀ c k, pS K M lw 8 i = .inl (c, k) → Fl c k) (hO : ∀ f j, pS K M lw 8 i = .inr (f, j) → Dn j (some [(false, f)])) : Z [] 0 false i (some []) := by
  refine (mch_all hM hK hC 8).1 [] 0 i [] (by omega) (by simp) (fun _ => rfl) (fun x r e => by cases e) (by simp) hE (fun f j e p o s hs hl => ?_)
  have hn := endS (lw := lw) hM hK 8 _ _ _ e
  have hop : opP p = -1 := opP_stl (by omega) hs
  simp at hl
  refine hC.2 p o j s (by omega) ?_
  unfold behP
  rw [if_neg (by rw [btw_n hn, if_pos (by omega)]; decide), if_pos (by unfold prt; rw [hop, if_neg (by omega), if_neg (by omega), if_neg (by omega), if_neg (by omega)]; omega), if_neg (by omega), stl_eq (show (1 : Int) ≤ 5 by omega) hs]
  exact hO f j e
