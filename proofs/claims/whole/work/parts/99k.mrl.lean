/-! THE REFERENCE'S READER OF LAWS, in memory -/
theorem FM.ext {cd ov : Int → Int} {a b : Int} {f g : Env → Int} (h : FM cd ov a b f) (he : ∀ e, okE e → f e = g e) : FM cd ov a b g := ⟨h.1, fun e Φ oe hB n m vs ts q0 q1 q2 q3 q4 q5 c => h.2 e Φ oe hB n m vs ts q0 q1 q2 q3 q4 q5 (fun vs' ts' z1 z2 z3 => c vs' ts' z1 z2 (by rw [z3]; exact he e oe))⟩
theorem FB.ext {cd ov : Int → Int} {a b : Int} {f g : Env → Int} (h : FB cd ov a b f) (he : ∀ e, okE e → f e = g e) : FB cd ov a b g := ⟨h.1, fun e Φ oe hB n m vs ts q0 q1 q2 q3 q4 q5 c => h.2 e Φ oe hB n m vs ts q0 q1 q2 q3 q4 q5 (fun vs' ts' z1 z2 z3 => c vs' ts' z1 z2 (by rw [z3]; exact he e oe))⟩
def sgE (cd ov : Int → Int) (y z : Int) (x : SE) : Prop := match x with
  | (true, f) => FB cd ov y z f ∧ isB f
  | (false, f) => FM cd ov y z f ∧ Bd f
def SG (cd ov : Int → Int) (a : Int) : List SE → Int → Prop
  | [], z => z = a
  | x :: r, z => ∃ y, SG cd ov a r y ∧ sgE cd ov y z x
def SGO (cd ov : Int → Int) (a z : Int) : SK → Prop
  | none => a ≤ z
  | some l => SG cd ov a l z
theorem sgE.lt {cd ov : Int → Int} {y z : Int} {x : SE} (h : sgE cd ov y z x) : y < z := by
  obtain ⟨t, f⟩ := x
  cases t
  · exact h.1.1
  · exact h.1.1
theorem SG.le {cd ov : Int → Int} {a : Int} : ∀ {l : List SE} {z : Int}, SG cd ov a l z → a ≤ z
  | [], z, h => by have : z = a := h; omega
  | x :: r, z, ⟨y, h1, h2⟩ => by have := SG.le h1; have := h2.lt; omega
theorem sgE.congr {cd ov cd' ov' : Int → Int} {y z : Int} {x : SE} (h : sgE cd ov y z x) (hc : ∀ j, y ≤ j → j < z → cd' j = cd j ∧ ov' j = ov j) : sgE cd' ov' y z x := by
  obtain ⟨t, f⟩ := x
  cases t
  · exact ⟨h.1.congr hc, h.2⟩
  · exact ⟨h.1.congr hc, h.2⟩
theorem SG.congr {cd ov cd' ov' : Int → Int} {a : Int} : ∀ {l : List SE} {z : Int}, SG cd ov a l z → (∀ j, a ≤ j → j < z → cd' j = cd j ∧ ov' j = ov j) → SG cd' ov' a l z
  | [], z, h, _ => h
  | x :: r, z, ⟨y, h1, h2⟩, hc => ⟨y, SG.congr h1 (fun j q1 q2 => hc j q1 (by have := h2.lt; omega)), h2.congr (fun j q1 q2 => hc j (by have := h1.le; omega) q2)⟩
theorem SGO.le {cd ov : Int → Int} {a z : Int} {s : SK} (h : SGO cd ov a z s) : a ≤ z := by
  cases s with
  | none => exact h
  | some l => exact SG.le h
theorem SGO.congr {cd ov cd' ov' : Int → Int} {a z : Int} {s : SK} (h : SGO cd ov a z s) (hc : ∀ j, a ≤ j → j < z → cd' j = cd j ∧ ov' j = ov j) : SGO cd' ov' a z s := by
  cases s with
  | none => exact h
  | some l => exact SG.congr h hc
theorem two_jn {o x y : Int} (ho : o = 4 ∨ 6 ≤ o ∧ o ≤ 9) (hx : Mil x) (hy : Mil y) : (if o = 4 then gcdI (iabs x) (iabs y) else two' o x y) = jn (mcC o) x y := by
  have : o = 4 ∨ o = 6 ∨ o = 7 ∨ o = 8 ∨ o = 9 := by omega
  rcases this with rfl | rfl | rfl | rfl | rfl
  · rfl
  · rfl
  · rfl
  · rfl
  · show (if y = 0 then 0 else clip (Int.tdiv x y)) = if y = 0 then 0 else Int.tdiv x y
    split
    · rfl
    · have h1 : (Int.tdiv x y).natAbs ≤ 1000000 := by
        rw [Int.natAbs_tdiv]
        unfold Mil at hx
        exact Nat.le_trans (Nat.div_le_self _ _) (by omega)
      unfold clip; omega
theorem ask_jn {o x y : Int} (ho : 10 ≤ o ∧ o ≤ 15) : askI o x y = jn (mcC o) x y := by
  have : o = 10 ∨ o = 11 ∨ o = 12 ∨ o = 13 ∨ o = 14 ∨ o = 15 := by omega
  rcases this with rfl | rfl | rfl | rfl | rfl | rfl <;> rfl
theorem and_jn {o x y : Int} (ho : o = 21 ∨ o = 22) (hx : x = 0 ∨ x = 1) (hy : y = 0 ∨ y = 1) : andI o x y = jn (mcC o) x y := by
  rcases ho with rfl | rfl <;> rcases hx with rfl | rfl <;> rcases hy with rfl | rfl <;> decide +kernel
theorem mcC_j {o : Int} (ho : o = 4 ∨ 6 ≤ o ∧ o ≤ 9) : mcC o = 18 ∨ 32 ≤ mcC o ∧ mcC o ≤ 35 := by
  have : o = 4 ∨ o = 6 ∨ o = 7 ∨ o = 8 ∨ o = 9 := by omega
  rcases this with rfl | rfl | rfl | rfl | rfl <;> decide
theorem mcC_a {o : Int} (ho : 10 ≤ o ∧ o ≤ 15) : (28 ≤ mcC o ∧ mcC o ≤ 31) ∨ (39 ≤ mcC o ∧ mcC o ≤ 40) := by
  have : o = 10 ∨ o = 11 ∨ o = 12 ∨ o = 13 ∨ o = 14 ∨ o = 15 := by omega
  rcases this with rfl | rfl | rfl | rfl | rfl | rfl <;> decide
theorem sg_em1 {cd ov : Int → Int} {a z o v : Int} {l : List SE} (h : SG cd ov a l z) (h1 : cd z = o) (h2 : ov z = v) (h3 : o = 0 → Mil v) (h4 : o = 1 → 0 ≤ v ∧ v ≤ 8) : SGO cd ov a (z + 1) (em1 o v l) := by
  have hle := h.le
  have hno : SGO cd ov a (z + 1) none := (show a ≤ z + 1 by omega)
  unfold em1
  by_cases c0 : o = 0
  · rw [if_pos c0]
    refine ⟨z, h, ?_, fun e _ => h3 c0⟩
    have := FM.num (cd := cd) (ov := ov) (a := z) (by omega) (by rw [h2]; exact h3 c0)
    rw [h2] at this; exact this
  rw [if_neg c0]
  by_cases c1 : o = 1
  · rw [if_pos c1]
    have hv := h4 c1
    refine ⟨z, h, ?_, fun e he => he.1 v hv.1 hv.2⟩
    have := FM.name (cd := cd) (ov := ov) (a := z) (by omega) (by rw [h2]; exact hv)
    rw [h2] at this; exact this
  rw [if_neg c1]
  by_cases c5 : o = 5 ∨ o = 2
  · rw [if_pos c5]
    match l, h with
    | [], _ => exact hno
    | (true, f) :: r, _ => exact hno
    | (false, f) :: r, ⟨y, g1, g2, g3⟩ =>
      have hq : ∀ e, okE e → (if cd z = 5 then -(f e) else e.2 (f e)) = aln e.2 (if o = 5 then 44 else 20) (f e) ∧ Mil (if cd z = 5 then -(f e) else e.2 (f e)) := fun e he => by
        rw [h1]
        rcases c5 with q | q
        · rw [q]
          exact ⟨rfl, by have := g3 e he; unfold Mil at *; simp; omega⟩
        · rw [q]
          exact ⟨rfl, he.2 _⟩
      exact ⟨y, g1, (g2.alone (by rw [h1]; exact c5) (fun e he => (hq e he).2)).ext (fun e he => (hq e he).1), fun e he => by have := hq e he; rw [this.1] at this; exact this.2⟩
  rw [if_neg c5]
  by_cases c3 : o = 3
  · rw [if_pos c3]
    split
    · rename_i g f q r
      obtain ⟨y, ⟨y1, ⟨y2, k1, k2⟩, k3⟩, k4⟩ := h
      exact ⟨y2, k1, FM.select k2.1 k3.1 k4.1 (by omega), fun e he => by show Mil (if q e = 0 then g e else f e); split; exact k4.2 e he; exact k3.2 e he⟩
    · exact hno
  rw [if_neg c3]
  by_cases c20 : o = 20
  · rw [if_pos c20]
    match l, h with
    | [], _ => exact hno
    | (false, f) :: r, _ => exact hno
    | (true, f) :: r, ⟨y, g1, g2, g3⟩ =>
      have hq : ∀ e : Env, (if f e = 0 then 1 else 0) = aln e.2 27 (f e) := fun e => by
        show _ = 1 - f e
        rcases g3 e with q | q <;> rw [q] <;> rfl
      exact ⟨y, g1, (g2.not (by omega)).ext (fun e _ => hq e), fun e => by show aln e.2 27 (f e) = 0 ∨ aln e.2 27 (f e) = 1; rw [← hq e]; split <;> simp⟩
  rw [if_neg c20]
  by_cases cj : o = 4 ∨ 6 ≤ o ∧ o ≤ 9
  · rw [if_pos cj]
    split
    · rename_i g f r
      obtain ⟨y, ⟨y1, k1, k2⟩, k3⟩ := h
      have hq : ∀ e, okE e → (if cd z = 4 then gcdI (iabs (f e)) (iabs (g e)) else two' (cd z) (f e) (g e)) = jn (mcC o) (f e) (g e) ∧ Mil (jn (mcC o) (f e) (g e)) := fun e he => ⟨by rw [h1]; exact two_jn cj (k2.2 e he) (k3.2 e he), jn_mil (mcC_j cj) (k2.2 e he) (k3.2 e he)⟩
      exact ⟨y1, k1, (k2.1.join k3.1 (by rw [h1]; exact cj) (fun e he => by rw [(hq e he).1]; exact (hq e he).2)).ext (fun e he => (hq e he).1), fun e he => (hq e he).2⟩
    · exact hno
  rw [if_neg cj]
  by_cases ca : 10 ≤ o ∧ o ≤ 15
  · rw [if_pos ca]
    split
    · rename_i g f r
      obtain ⟨y, ⟨y1, k1, k2⟩, k3⟩ := h
      exact ⟨y1, k1, (FB.cmp k2.1 k3.1 (by rw [h1]; exact ca)).ext (fun e _ => by rw [h1]; exact ask_jn ca), fun e => jn_ask (mcC_a ca)⟩
    · exact hno
  rw [if_neg ca]
  by_cases cb : o = 21 ∨ o = 22
  · rw [if_pos cb]
    split
    · rename_i g f r
      obtain ⟨y, ⟨y1, k1, k2⟩, k3⟩ := h
      exact ⟨y1, k1, (k2.1.and k3.1 (by rw [h1]; exact cb)).ext (fun e _ => by rw [h1]; exact and_jn cb (k2.2 e) (k3.2 e)), fun e => by show jn (mcC o) (f e) (g e) = 0 ∨ jn (mcC o) (f e) (g e) = 1; rw [← and_jn cb (k2.2 e) (k3.2 e)]; exact andI_01 _ _ _⟩
    · exact hno
  rw [if_neg cb]
  exact hno
theorem sgo_em {cd ov cd' ov' : Int → Int} {a z o v : Int} {s : SK} (h : SGO cd ov a z s) (hc : ∀ j, a ≤ j → j < z → cd' j = cd j ∧ ov' j = ov j) (h1 : cd' z = o) (h2 : ov' z = v) (h3 : o = 0 → Mil v) (h4 : o = 1 → 0 ≤ v ∧ v ≤ 8) : SGO cd' ov' a (z + 1) (em o v s) := by
  have h' := h.congr hc
  have hle := h.le
  cases s with
  | none => exact (show a ≤ z + 1 by omega)
  | some l => exact sg_em1 h' h1 h2 h3 h4
/-- the token at hand -/
def tkM (σ : Mem) (b : Int → Int) (N : Int) (i : Nat) : Prop := isTp b N ∧ σ 74 4 = N ∧ (∀ j : Int, 0 ≤ j → j < N → σ 78 j = b j) ∧ σ 74 8 = ps b N i ∧ σ 74 7 = psM b N (ps b N i) ∧ σ 74 9 = tokM b (ps b N i) ∧ (tokM b (ps b N i) = 1 → σ 74 10 = nmM b N (ps b N i)) ∧ (tokM b (ps b N i) = 2 → σ 74 11 = mwM b N (ps b N i))
theorem tkM.congr {σ σ' : Mem} {b : Int → Int} {N : Int} {i : Nat} (h : tkM σ b N i) (h1 : ∀ j : Int, 4 ≤ j → j ≤ 11 → σ' 74 j = σ 74 j) (h2 : σ' 78 = σ 78) : tkM σ' b N i := by
  unfold tkM at *
  rw [h1 4 (by omega) (by omega), h1 8 (by omega) (by omega), h1 7 (by omega) (by omega), h1 9 (by omega) (by omega), h1 10 (by omega) (by omega), h1 11 (by omega) (by omega), h2]; exact h
theorem sp_X12_nextTokenK (d : Nat) (hd : 1 ≤ d) (σ : Mem) (hO : OKm σ) (b : Int → Int) (N : Int) (i : Nat) (hpre : tkM σ b N i) : Mt yX12_nextToken cX12_nextToken 2 none d [aR (74)] σ (QV (fun σ' => tkM σ' b N (i + 1) ∧ (∀ j : Int, j ≠ 7 → j ≠ 8 → j ≠ 9 → j ≠ 10 → j ≠ 11 → σ' 74 j = σ 74 j) ∧ Fr [74] σ σ')) := by
  obtain ⟨hB, h4, h78, h8, h7, h9, h10, h11⟩ := hpre
  have hs := ps_r hB i
  have hp := psM_r hB hs.1 hs.2
  have h := sp_X12_nextToken d hd σ hO b N ⟨hB, h4, by rw [h7]; omega, h78⟩
  refine h.mono (fun r σ' hr => ?_)
  obtain ⟨e, g8, g7, g9, g10, g11, gj, gF⟩ := hr
  rw [h7] at g8 g7 g9 g10 g11
  refine ⟨e, ⟨hB, by rw [gj 4 (by omega) (by omega) (by omega) (by omega) (by omega)]; exact h4, fun j q1 q2 => by rw [gF 78 (by simp)]; exact h78 j q1 q2, g8, g7, g9, g10, g11⟩, gj, gF⟩
theorem tk_word {σ : Mem} {b : Int → Int} {N : Int} {i : Nat} (h : tkM σ b N i) (q : Nat) (L : List Int) (c : Int) (hq : wL[q]? = some L) (hc : wv L = c) : (σ 74 9 = 2 ∧ σ 74 11 = c) ↔ kd b N i = (q : Int) := by
  have ht := (tok_rel h.1 i).1.2.2.2 q L hq
  obtain ⟨hB, h4, h78, h8, h7, h9, h10, h11⟩ := h
  rw [← ht, h9, hc]
  constructor
  · intro w; exact ⟨w.1, by rw [← h11 w.1]; exact w.2⟩
  · intro w; exact ⟨w.1, by rw [h11 w.1]; exact w.2⟩
theorem tk_num {σ : Mem} {b : Int → Int} {N : Int} {i : Nat} (h : tkM σ b N i) : (σ 74 9 = 1 ↔ kd b N i = 41) ∧ (kd b N i = 41 → nu b N i = min 10000 (σ 74 10) ∧ 0 ≤ σ 74 10) := by
  have ht := (tok_rel h.1 i).1
  obtain ⟨hB, h4, h78, h8, h7, h9, h10, h11⟩ := h
  refine ⟨by rw [h9]; exact ht.2.1, fun q => ?_⟩
  have t1 := ht.2.1.mpr q
  rw [h10 t1]; exact ht.2.2.1 t1
theorem tk_sg {σ : Mem} {b : Int → Int} {N : Int} {i : Nat} (h : tkM σ b N i) : (σ 74 9 = 0 ↔ kd b N i = 43) ∧ ((σ 74 9 = 4 ↔ kd b N i = 39) ∧ (σ 74 9 = 5 ↔ kd b N i = 40) ∧ (σ 74 9 = 60 ↔ kd b N i = 28) ∧ (σ 74 9 = 62 ↔ kd b N i = 29) ∧ (σ 74 9 = 61 ↔ kd b N i = 30) ∧ (σ 74 9 = 35 ↔ kd b N i = 31) ∧ (σ 74 9 = 43 ↔ kd b N i = 32) ∧ (σ 74 9 = 45 ↔ kd b N i = 33) ∧ (σ 74 9 = 42 ↔ kd b N i = 34) ∧ (σ 74 9 = 47 ↔ kd b N i = 35) ∧ (σ 74 9 = 40 ↔ kd b N i = 36) ∧ (σ 74 9 = 41 ↔ kd b N i = 37) ∧ (σ 74 9 = 59 ↔ kd b N i = 38)) ∧ 0 ≤ kd b N i ∧ kd b N i ≤ 43 := by
  have ht := tok_rel h.1 i
  rw [h.2.2.2.2.2.1]
  exact ⟨ht.1.1, ht.2⟩

theorem tkw_day {σ : Mem} {b : Int → Int} {N : Int} {i : Nat} (h : tkM σ b N i) : (σ 74 9 = 2 ∧ σ 74 11 = (((100 : Int) * 256 + (97 : Int)) * 256 + (121 : Int))) ↔ kd b N i = 0 := tk_word h 0 _ _ rfl (by decide +kernel)
theorem tkw_rain {σ : Mem} {b : Int → Int} {N : Int} {i : Nat} (h : tkM σ b N i) : (σ 74 9 = 2 ∧ σ 74 11 = ((((114 : Int) * 256 + (97 : Int)) * 256 + (105 : Int)) * 256 + (110 : Int))) ↔ kd b N i = 1 := tk_word h 1 _ _ rfl (by decide +kernel)
theorem tkw_way {σ : Mem} {b : Int → Int} {N : Int} {i : Nat} (h : tkM σ b N i) : (σ 74 9 = 2 ∧ σ 74 11 = (((119 : Int) * 256 + (97 : Int)) * 256 + (121 : Int))) ↔ kd b N i = 2 := tk_word h 2 _ _ rfl (by decide +kernel)
theorem tkw_long {σ : Mem} {b : Int → Int} {N : Int} {i : Nat} (h : tkM σ b N i) : (σ 74 9 = 2 ∧ σ 74 11 = ((((108 : Int) * 256 + (111 : Int)) * 256 + (110 : Int)) * 256 + (103 : Int))) ↔ kd b N i = 3 := tk_word h 3 _ _ rfl (by decide +kernel)
theorem tkw_thick {σ : Mem} {b : Int → Int} {N : Int} {i : Nat} (h : tkM σ b N i) : (σ 74 9 = 2 ∧ σ 74 11 = (((((116 : Int) * 256 + (104 : Int)) * 256 + (105 : Int)) * 256 + (99 : Int)) * 256 + (107 : Int))) ↔ kd b N i = 4 := tk_word h 4 _ _ rfl (by decide +kernel)
theorem tkw_mouth {σ : Mem} {b : Int → Int} {N : Int} {i : Nat} (h : tkM σ b N i) : (σ 74 9 = 2 ∧ σ 74 11 = (((((109 : Int) * 256 + (111 : Int)) * 256 + (117 : Int)) * 256 + (116 : Int)) * 256 + (104 : Int))) ↔ kd b N i = 5 := tk_word h 5 _ _ rfl (by decide +kernel)
theorem tkw_who {σ : Mem} {b : Int → Int} {N : Int} {i : Nat} (h : tkM σ b N i) : (σ 74 9 = 2 ∧ σ 74 11 = (((119 : Int) * 256 + (104 : Int)) * 256 + (111 : Int))) ↔ kd b N i = 6 := tk_word h 6 _ _ rfl (by decide +kernel)
theorem tkw_went {σ : Mem} {b : Int → Int} {N : Int} {i : Nat} (h : tkM σ b N i) : (σ 74 9 = 2 ∧ σ 74 11 = ((((119 : Int) * 256 + (101 : Int)) * 256 + (110 : Int)) * 256 + (116 : Int))) ↔ kd b N i = 7 := tk_word h 7 _ _ rfl (by decide +kernel)
theorem tkw_first {σ : Mem} {b : Int → Int} {N : Int} {i : Nat} (h : tkM σ b N i) : (σ 74 9 = 2 ∧ σ 74 11 = (((((102 : Int) * 256 + (105 : Int)) * 256 + (114 : Int)) * 256 + (115 : Int)) * 256 + (116 : Int))) ↔ kd b N i = 8 := tk_word h 8 _ _ rfl (by decide +kernel)
theorem tkw_sucks {σ : Mem} {b : Int → Int} {N : Int} {i : Nat} (h : tkM σ b N i) : (σ 74 9 = 2 ∧ σ 74 11 = (((((115 : Int) * 256 + (117 : Int)) * 256 + (99 : Int)) * 256 + (107 : Int)) * 256 + (115 : Int))) ↔ kd b N i = 9 := tk_word h 9 _ _ rfl (by decide +kernel)
theorem tkw_swells {σ : Mem} {b : Int → Int} {N : Int} {i : Nat} (h : tkM σ b N i) : (σ 74 9 = 2 ∧ σ 74 11 = ((((((115 : Int) * 256 + (119 : Int)) * 256 + (101 : Int)) * 256 + (108 : Int)) * 256 + (108 : Int)) * 256 + (115 : Int))) ↔ kd b N i = 10 := tk_word h 10 _ _ rfl (by decide +kernel)
theorem tkw_road {σ : Mem} {b : Int → Int} {N : Int} {i : Nat} (h : tkM σ b N i) : (σ 74 9 = 2 ∧ σ 74 11 = ((((114 : Int) * 256 + (111 : Int)) * 256 + (97 : Int)) * 256 + (100 : Int))) ↔ kd b N i = 11 := tk_word h 11 _ _ rfl (by decide +kernel)
theorem tkw_to {σ : Mem} {b : Int → Int} {N : Int} {i : Nat} (h : tkM σ b N i) : (σ 74 9 = 2 ∧ σ 74 11 = ((116 : Int) * 256 + (111 : Int))) ↔ kd b N i = 12 := tk_word h 12 _ _ rfl (by decide +kernel)
theorem tkw_goer {σ : Mem} {b : Int → Int} {N : Int} {i : Nat} (h : tkM σ b N i) : (σ 74 9 = 2 ∧ σ 74 11 = ((((103 : Int) * 256 + (111 : Int)) * 256 + (101 : Int)) * 256 + (114 : Int))) ↔ kd b N i = 13 := tk_word h 13 _ _ rfl (by decide +kernel)
theorem tkw_go {σ : Mem} {b : Int → Int} {N : Int} {i : Nat} (h : tkM σ b N i) : (σ 74 9 = 2 ∧ σ 74 11 = ((103 : Int) * 256 + (111 : Int))) ↔ kd b N i = 14 := tk_word h 14 _ _ rfl (by decide +kernel)
theorem tkw_by {σ : Mem} {b : Int → Int} {N : Int} {i : Nat} (h : tkM σ b N i) : (σ 74 9 = 2 ∧ σ 74 11 = ((98 : Int) * 256 + (121 : Int))) ↔ kd b N i = 15 := tk_word h 15 _ _ rfl (by decide +kernel)
theorem tkw_relay {σ : Mem} {b : Int → Int} {N : Int} {i : Nat} (h : tkM σ b N i) : (σ 74 9 = 2 ∧ σ 74 11 = (((((114 : Int) * 256 + (101 : Int)) * 256 + (108 : Int)) * 256 + (97 : Int)) * 256 + (121 : Int))) ↔ kd b N i = 16 := tk_word h 16 _ _ rfl (by decide +kernel)
theorem tkw_coil {σ : Mem} {b : Int → Int} {N : Int} {i : Nat} (h : tkM σ b N i) : (σ 74 9 = 2 ∧ σ 74 11 = ((((99 : Int) * 256 + (111 : Int)) * 256 + (105 : Int)) * 256 + (108 : Int))) ↔ kd b N i = 17 := tk_word h 17 _ _ rfl (by decide +kernel)
theorem tkw_common {σ : Mem} {b : Int → Int} {N : Int} {i : Nat} (h : tkM σ b N i) : (σ 74 9 = 2 ∧ σ 74 11 = ((((((99 : Int) * 256 + (111 : Int)) * 256 + (109 : Int)) * 256 + (109 : Int)) * 256 + (111 : Int)) * 256 + (110 : Int))) ↔ kd b N i = 18 := tk_word h 18 _ _ rfl (by decide +kernel)
theorem tkw_of {σ : Mem} {b : Int → Int} {N : Int} {i : Nat} (h : tkM σ b N i) : (σ 74 9 = 2 ∧ σ 74 11 = ((111 : Int) * 256 + (102 : Int))) ↔ kd b N i = 19 := tk_word h 19 _ _ rfl (by decide +kernel)
theorem tkw_roads {σ : Mem} {b : Int → Int} {N : Int} {i : Nat} (h : tkM σ b N i) : (σ 74 9 = 2 ∧ σ 74 11 = (((((114 : Int) * 256 + (111 : Int)) * 256 + (97 : Int)) * 256 + (100 : Int)) * 256 + (115 : Int))) ↔ kd b N i = 20 := tk_word h 20 _ _ rfl (by decide +kernel)
theorem tkw_if {σ : Mem} {b : Int → Int} {N : Int} {i : Nat} (h : tkM σ b N i) : (σ 74 9 = 2 ∧ σ 74 11 = ((105 : Int) * 256 + (102 : Int))) ↔ kd b N i = 21 := tk_word h 21 _ _ rfl (by decide +kernel)
theorem tkw_then {σ : Mem} {b : Int → Int} {N : Int} {i : Nat} (h : tkM σ b N i) : (σ 74 9 = 2 ∧ σ 74 11 = ((((116 : Int) * 256 + (104 : Int)) * 256 + (101 : Int)) * 256 + (110 : Int))) ↔ kd b N i = 22 := tk_word h 22 _ _ rfl (by decide +kernel)
theorem tkw_else {σ : Mem} {b : Int → Int} {N : Int} {i : Nat} (h : tkM σ b N i) : (σ 74 9 = 2 ∧ σ 74 11 = ((((101 : Int) * 256 + (108 : Int)) * 256 + (115 : Int)) * 256 + (101 : Int))) ↔ kd b N i = 23 := tk_word h 23 _ _ rfl (by decide +kernel)
theorem tkw_end {σ : Mem} {b : Int → Int} {N : Int} {i : Nat} (h : tkM σ b N i) : (σ 74 9 = 2 ∧ σ 74 11 = (((101 : Int) * 256 + (110 : Int)) * 256 + (100 : Int))) ↔ kd b N i = 24 := tk_word h 24 _ _ rfl (by decide +kernel)
theorem tkw_or {σ : Mem} {b : Int → Int} {N : Int} {i : Nat} (h : tkM σ b N i) : (σ 74 9 = 2 ∧ σ 74 11 = ((111 : Int) * 256 + (114 : Int))) ↔ kd b N i = 25 := tk_word h 25 _ _ rfl (by decide +kernel)
theorem tkw_and {σ : Mem} {b : Int → Int} {N : Int} {i : Nat} (h : tkM σ b N i) : (σ 74 9 = 2 ∧ σ 74 11 = (((97 : Int) * 256 + (110 : Int)) * 256 + (100 : Int))) ↔ kd b N i = 26 := tk_word h 26 _ _ rfl (by decide +kernel)
theorem tkw_not {σ : Mem} {b : Int → Int} {N : Int} {i : Nat} (h : tkM σ b N i) : (σ 74 9 = 2 ∧ σ 74 11 = (((110 : Int) * 256 + (111 : Int)) * 256 + (116 : Int))) ↔ kd b N i = 27 := tk_word h 27 _ _ rfl (by decide +kernel)
def nmS (t w : Int) : Int := if t = 2 then (if w = (((100 : Int) * 256 + (97 : Int)) * 256 + (121 : Int)) then 0 else if w = ((((114 : Int) * 256 + (97 : Int)) * 256 + (105 : Int)) * 256 + (110 : Int)) then 1 else if w = (((119 : Int) * 256 + (97 : Int)) * 256 + (121 : Int)) then 2 else if w = ((((108 : Int) * 256 + (111 : Int)) * 256 + (110 : Int)) * 256 + (103 : Int)) then 3 else if w = (((((116 : Int) * 256 + (104 : Int)) * 256 + (105 : Int)) * 256 + (99 : Int)) * 256 + (107 : Int)) then 4 else if w = (((((109 : Int) * 256 + (111 : Int)) * 256 + (117 : Int)) * 256 + (116 : Int)) * 256 + (104 : Int)) then 5 else if w = (((119 : Int) * 256 + (104 : Int)) * 256 + (111 : Int)) then 6 else if w = ((((119 : Int) * 256 + (101 : Int)) * 256 + (110 : Int)) * 256 + (116 : Int)) then 7 else if w = (((((102 : Int) * 256 + (105 : Int)) * 256 + (114 : Int)) * 256 + (115 : Int)) * 256 + (116 : Int)) then 8 else -1) else -1
theorem nmS_kd {σ : Mem} {b : Int → Int} {N : Int} {i : Nat} (h : tkM σ b N i) : nmS (σ 74 9) (σ 74 11) = if 0 ≤ kd b N i ∧ kd b N i ≤ 8 then kd b N i else -1 := by
  unfold nmS
  by_cases t2 : σ 74 9 = 2
  · rw [if_pos t2]
    by_cases a0 : σ 74 11 = (((100 : Int) * 256 + (97 : Int)) * 256 + (121 : Int))
    · have e := (tkw_day h).mp ⟨t2, a0⟩; rw [if_pos a0, e]; rfl
    rw [if_neg a0]
    by_cases a1 : σ 74 11 = ((((114 : Int) * 256 + (97 : Int)) * 256 + (105 : Int)) * 256 + (110 : Int))
    · have e := (tkw_rain h).mp ⟨t2, a1⟩; rw [if_pos a1, e]; rfl
    rw [if_neg a1]
    by_cases a2 : σ 74 11 = (((119 : Int) * 256 + (97 : Int)) * 256 + (121 : Int))
    · have e := (tkw_way h).mp ⟨t2, a2⟩; rw [if_pos a2, e]; rfl
    rw [if_neg a2]
    by_cases a3 : σ 74 11 = ((((108 : Int) * 256 + (111 : Int)) * 256 + (110 : Int)) * 256 + (103 : Int))
    · have e := (tkw_long h).mp ⟨t2, a3⟩; rw [if_pos a3, e]; rfl
    rw [if_neg a3]
    by_cases a4 : σ 74 11 = (((((116 : Int) * 256 + (104 : Int)) * 256 + (105 : Int)) * 256 + (99 : Int)) * 256 + (107 : Int))
    · have e := (tkw_thick h).mp ⟨t2, a4⟩; rw [if_pos a4, e]; rfl
    rw [if_neg a4]
    by_cases a5 : σ 74 11 = (((((109 : Int) * 256 + (111 : Int)) * 256 + (117 : Int)) * 256 + (116 : Int)) * 256 + (104 : Int))
    · have e := (tkw_mouth h).mp ⟨t2, a5⟩; rw [if_pos a5, e]; rfl
    rw [if_neg a5]
    by_cases a6 : σ 74 11 = (((119 : Int) * 256 + (104 : Int)) * 256 + (111 : Int))
    · have e := (tkw_who h).mp ⟨t2, a6⟩; rw [if_pos a6, e]; rfl
    rw [if_neg a6]
    by_cases a7 : σ 74 11 = ((((119 : Int) * 256 + (101 : Int)) * 256 + (110 : Int)) * 256 + (116 : Int))
    · have e := (tkw_went h).mp ⟨t2, a7⟩; rw [if_pos a7, e]; rfl
    rw [if_neg a7]
    by_cases a8 : σ 74 11 = (((((102 : Int) * 256 + (105 : Int)) * 256 + (114 : Int)) * 256 + (115 : Int)) * 256 + (116 : Int))
    · have e := (tkw_first h).mp ⟨t2, a8⟩; rw [if_pos a8, e]; rfl
    rw [if_neg a8]
    have b0 : kd b N i ≠ 0 := fun e => a0 ((tkw_day h).mpr e).2
    have b1 : kd b N i ≠ 1 := fun e => a1 ((tkw_rain h).mpr e).2
    have b2 : kd b N i ≠ 2 := fun e => a2 ((tkw_way h).mpr e).2
    have b3 : kd b N i ≠ 3 := fun e => a3 ((tkw_long h).mpr e).2
    have b4 : kd b N i ≠ 4 := fun e => a4 ((tkw_thick h).mpr e).2
    have b5 : kd b N i ≠ 5 := fun e => a5 ((tkw_mouth h).mpr e).2
    have b6 : kd b N i ≠ 6 := fun e => a6 ((tkw_who h).mpr e).2
    have b7 : kd b N i ≠ 7 := fun e => a7 ((tkw_went h).mpr e).2
    have b8 : kd b N i ≠ 8 := fun e => a8 ((tkw_first h).mpr e).2
    rw [if_neg (by omega)]
  · rw [if_neg t2]
    have b0 : kd b N i ≠ 0 := fun e => t2 ((tkw_day h).mpr e).1
    have b1 : kd b N i ≠ 1 := fun e => t2 ((tkw_rain h).mpr e).1
    have b2 : kd b N i ≠ 2 := fun e => t2 ((tkw_way h).mpr e).1
    have b3 : kd b N i ≠ 3 := fun e => t2 ((tkw_long h).mpr e).1
    have b4 : kd b N i ≠ 4 := fun e => t2 ((tkw_thick h).mpr e).1
    have b5 : kd b N i ≠ 5 := fun e => t2 ((tkw_mouth h).mpr e).1
    have b6 : kd b N i ≠ 6 := fun e => t2 ((tkw_who h).mpr e).1
    have b7 : kd b N i ≠ 7 := fun e => t2 ((tkw_went h).mpr e).1
    have b8 : kd b N i ≠ 8 := fun e => t2 ((tkw_first h).mpr e).1
    rw [if_neg (by omega)]

def wp_X12_nameOf  (σ : Mem) (Q : Int → Mem → Prop) : Prop :=
  (((σ 74 9) = 2) →
    ((0 ≤ (100 : Int) ∧ (100 : Int) < 256) ∧ (0 ≤ (97 : Int) ∧ (97 : Int) < 256) ∧ (0 ≤ (121 : Int) ∧ (121 : Int) < 256)) ∧
    (((σ 74 11) ≠ (((100 : Int) * 256 + (97 : Int)) * 256 + (121 : Int))) →
     ((0 ≤ (114 : Int) ∧ (114 : Int) < 256) ∧ (0 ≤ (97 : Int) ∧ (97 : Int) < 256) ∧ (0 ≤ (105 : Int) ∧ (105 : Int) < 256) ∧ (0 ≤ (110 : Int) ∧ (110 : Int) < 256)) ∧
     (((σ 74 11) ≠ ((((114 : Int) * 256 + (97 : Int)) * 256 + (105 : Int)) * 256 + (110 : Int))) →
      ((0 ≤ (119 : Int) ∧ (119 : Int) < 256) ∧ (0 ≤ (97 : Int) ∧ (97 : Int) < 256) ∧ (0 ≤ (121 : Int) ∧ (121 : Int) < 256)) ∧
      (((σ 74 11) ≠ (((119 : Int) * 256 + (97 : Int)) * 256 + (121 : Int))) →
       ((0 ≤ (108 : Int) ∧ (108 : Int) < 256) ∧ (0 ≤ (111 : Int) ∧ (111 : Int) < 256) ∧ (0 ≤ (110 : Int) ∧ (110 : Int) < 256) ∧ (0 ≤ (103 : Int) ∧ (103 : Int) < 256)) ∧
       (((σ 74 11) ≠ ((((108 : Int) * 256 + (111 : Int)) * 256 + (110 : Int)) * 256 + (103 : Int))) →
        ((0 ≤ (116 : Int) ∧ (116 : Int) < 256) ∧ (0 ≤ (104 : Int) ∧ (104 : Int) < 256) ∧ (0 ≤ (105 : Int) ∧ (105 : Int) < 256) ∧ (0 ≤ (99 : Int) ∧ (99 : Int) < 256) ∧ (0 ≤ (107 : Int) ∧ (107 : Int) < 256)) ∧
        (((σ 74 11) ≠ (((((116 : Int) * 256 + (104 : Int)) * 256 + (105 : Int)) * 256 + (99 : Int)) * 256 + (107 : Int))) →
         ((0 ≤ (109 : Int) ∧ (109 : Int) < 256) ∧ (0 ≤ (111 : Int) ∧ (111 : Int) < 256) ∧ (0 ≤ (117 : Int) ∧ (117 : Int) < 256) ∧ (0 ≤ (116 : Int) ∧ (116 : Int) < 256) ∧ (0 ≤ (104 : Int) ∧ (104 : Int) < 256)) ∧
         (((σ 74 11) ≠ (((((109 : Int) * 256 + (111 : Int)) * 256 + (117 : Int)) * 256 + (116 : Int)) * 256 + (104 : Int))) →
          ((0 ≤ (119 : Int) ∧ (119 : Int) < 256) ∧ (0 ≤ (104 : Int) ∧ (104 : Int) < 256) ∧ (0 ≤ (111 : Int) ∧ (111 : Int) < 256)) ∧
          (((σ 74 11) ≠ (((119 : Int) * 256 + (104 : Int)) * 256 + (111 : Int))) →
           ((0 ≤ (119 : Int) ∧ (119 : Int) < 256) ∧ (0 ≤ (101 : Int) ∧ (101 : Int) < 256) ∧ (0 ≤ (110 : Int) ∧ (110 : Int) < 256) ∧ (0 ≤ (116 : Int) ∧ (116 : Int) < 256)) ∧
           (((σ 74 11) ≠ ((((119 : Int) * 256 + (101 : Int)) * 256 + (110 : Int)) * 256 + (116 : Int))) →
            ((0 ≤ (102 : Int) ∧ (102 : Int) < 256) ∧ (0 ≤ (105 : Int) ∧ (105 : Int) < 256) ∧ (0 ≤ (114 : Int) ∧ (114 : Int) < 256) ∧ (0 ≤ (115 : Int) ∧ (115 : Int) < 256) ∧ (0 ≤ (116 : Int) ∧ (116 : Int) < 256)) ∧
            (((σ 74 11) ≠ (((((102 : Int) * 256 + (105 : Int)) * 256 + (114 : Int)) * 256 + (115 : Int)) * 256 + (116 : Int))) →
             Q (-1) σ) ∧
            (((σ 74 11) = (((((102 : Int) * 256 + (105 : Int)) * 256 + (114 : Int)) * 256 + (115 : Int)) * 256 + (116 : Int))) →
             Q 8 σ)) ∧
           (((σ 74 11) = ((((119 : Int) * 256 + (101 : Int)) * 256 + (110 : Int)) * 256 + (116 : Int))) →
            Q 7 σ)) ∧
          (((σ 74 11) = (((119 : Int) * 256 + (104 : Int)) * 256 + (111 : Int))) →
           Q 6 σ)) ∧
         (((σ 74 11) = (((((109 : Int) * 256 + (111 : Int)) * 256 + (117 : Int)) * 256 + (116 : Int)) * 256 + (104 : Int))) →
          Q 5 σ)) ∧
        (((σ 74 11) = (((((116 : Int) * 256 + (104 : Int)) * 256 + (105 : Int)) * 256 + (99 : Int)) * 256 + (107 : Int))) →
         Q 4 σ)) ∧
       (((σ 74 11) = ((((108 : Int) * 256 + (111 : Int)) * 256 + (110 : Int)) * 256 + (103 : Int))) →
        Q 3 σ)) ∧
      (((σ 74 11) = (((119 : Int) * 256 + (97 : Int)) * 256 + (121 : Int))) →
       Q 2 σ)) ∧
     (((σ 74 11) = ((((114 : Int) * 256 + (97 : Int)) * 256 + (105 : Int)) * 256 + (110 : Int))) →
      Q 1 σ)) ∧
    (((σ 74 11) = (((100 : Int) * 256 + (97 : Int)) * 256 + (121 : Int))) →
     Q 0 σ)) ∧
   (((σ 74 9) ≠ 2) →
    Q (-1) σ)
theorem mt_X12_nameOf {d : Nat} (hd : 4 ≤ d)  {σ : Mem} {Q : Int → Mem → Prop}  (hO : OKm σ) (h : wp_X12_nameOf  σ Q) : Mt yX12_nameOf cX12_nameOf 1 (some .int) d [aR (74)] σ (QI Q) := by
  refine Mt.intro (by decide +kernel) (Nat.le_of_ble_eq_true rfl) [(0, aR (74))] rfl ?_
  unfold wp_X12_nameOf at h
  refine G_aload_n 0 rfl rfl dX12_nameOf_0 ?_
  refine G_get (k := 9) (kd := (0, 0)) (v := aI (σ 74 9)) gf_X12_113 rfl rfl rfl rfl dX12_nameOf_1 ?_
  refine G_iconst dX12_nameOf_4 ?_
  refine G_icmp_eq (OKm.i hO 74 9 rfl) (rL 2 rfl) dX12_nameOf_5 (tgt := 10) (by decide) (fun c1 => ?_) (fun c1 => ?_)
  · have h := h.1 c1
    refine G_aload_n 0 rfl rfl dX12_nameOf_10 ?_
    refine G_get (k := 11) (kd := (1, 0)) (v := aL (σ 74 11)) gf_X12_126 rfl rfl rfl rfl dX12_nameOf_11 ?_
    refine G_bipush (by decide) dX12_nameOf_14 ?_
    refine G_bipush (by decide) dX12_nameOf_16 ?_
    refine G_bipush (by decide) dX12_nameOf_18 ?_
    obtain ⟨c2, h⟩ := h
    refine G_callS (as := [_, _, _]) cf_X12_139 rfl (sp_X12_w3 (d - 1) (by omega) _ hO _ (rL 100 rfl) _ (rL 97 rfl) _ (rL 121 rfl) c2) (by omega) rfl rfl (Nat.le_of_ble_eq_true rfl) dX12_nameOf_20 ?_
    rintro _ _ ⟨_, rfl, rfl, rfl⟩ o4 r3
    refine G_lcmp_ne (OKm.l hO 74 11 rfl) (r3 _ rfl) dX12_nameOf_23 dX12_nameOf_24 (tgt := 29) (by decide) (fun c5 => ?_) (fun c5 => ?_)
    · have h := h.1 c5
      refine G_aload_n 0 rfl rfl dX12_nameOf_29 ?_
      refine G_get (k := 11) (kd := (1, 0)) (v := aL (σ 74 11)) gf_X12_126 rfl rfl rfl rfl dX12_nameOf_30 ?_
      refine G_bipush (by decide) dX12_nameOf_33 ?_
      refine G_bipush (by decide) dX12_nameOf_35 ?_
      refine G_bipush (by decide) dX12_nameOf_37 ?_
      refine G_bipush (by decide) dX12_nameOf_39 ?_
      obtain ⟨c6, h⟩ := h
      refine G_callS (as := [_, _, _, _]) cf_X12_143 rfl (sp_X12_w4 (d - 1) (by omega) _ hO _ (rL 114 rfl) _ (rL 97 rfl) _ (rL 105 rfl) _ (rL 110 rfl) c6) (by omega) rfl rfl (Nat.le_of_ble_eq_true rfl) dX12_nameOf_41 ?_
      rintro _ _ ⟨_, rfl, rfl, rfl⟩ o8 r7
      refine G_lcmp_ne (OKm.l hO 74 11 rfl) (r7 _ rfl) dX12_nameOf_44 dX12_nameOf_45 (tgt := 50) (by decide) (fun c9 => ?_) (fun c9 => ?_)
      · have h := h.1 c9
        refine G_aload_n 0 rfl rfl dX12_nameOf_50 ?_
        refine G_get (k := 11) (kd := (1, 0)) (v := aL (σ 74 11)) gf_X12_126 rfl rfl rfl rfl dX12_nameOf_51 ?_
        refine G_bipush (by decide) dX12_nameOf_54 ?_
        refine G_bipush (by decide) dX12_nameOf_56 ?_
        refine G_bipush (by decide) dX12_nameOf_58 ?_
        obtain ⟨c10, h⟩ := h
        refine G_callS (as := [_, _, _]) cf_X12_139 rfl (sp_X12_w3 (d - 1) (by omega) _ hO _ (rL 119 rfl) _ (rL 97 rfl) _ (rL 121 rfl) c10) (by omega) rfl rfl (Nat.le_of_ble_eq_true rfl) dX12_nameOf_60 ?_
        rintro _ _ ⟨_, rfl, rfl, rfl⟩ o12 r11
        refine G_lcmp_ne (OKm.l hO 74 11 rfl) (r11 _ rfl) dX12_nameOf_63 dX12_nameOf_64 (tgt := 69) (by decide) (fun c13 => ?_) (fun c13 => ?_)
        · have h := h.1 c13
          refine G_aload_n 0 rfl rfl dX12_nameOf_69 ?_
          refine G_get (k := 11) (kd := (1, 0)) (v := aL (σ 74 11)) gf_X12_126 rfl rfl rfl rfl dX12_nameOf_70 ?_
          refine G_bipush (by decide) dX12_nameOf_73 ?_
          refine G_bipush (by decide) dX12_nameOf_75 ?_
          refine G_bipush (by decide) dX12_nameOf_77 ?_
          refine G_bipush (by decide) dX12_nameOf_79 ?_
          obtain ⟨c14, h⟩ := h
          refine G_callS (as := [_, _, _, _]) cf_X12_143 rfl (sp_X12_w4 (d - 1) (by omega) _ hO _ (rL 108 rfl) _ (rL 111 rfl) _ (rL 110 rfl) _ (rL 103 rfl) c14) (by omega) rfl rfl (Nat.le_of_ble_eq_true rfl) dX12_nameOf_81 ?_
          rintro _ _ ⟨_, rfl, rfl, rfl⟩ o16 r15
          refine G_lcmp_ne (OKm.l hO 74 11 rfl) (r15 _ rfl) dX12_nameOf_84 dX12_nameOf_85 (tgt := 90) (by decide) (fun c17 => ?_) (fun c17 => ?_)
          · have h := h.1 c17
            refine G_aload_n 0 rfl rfl dX12_nameOf_90 ?_
            refine G_get (k := 11) (kd := (1, 0)) (v := aL (σ 74 11)) gf_X12_126 rfl rfl rfl rfl dX12_nameOf_91 ?_
            refine G_bipush (by decide) dX12_nameOf_94 ?_
            refine G_bipush (by decide) dX12_nameOf_96 ?_
            refine G_bipush (by decide) dX12_nameOf_98 ?_
            refine G_bipush (by decide) dX12_nameOf_100 ?_
            refine G_bipush (by decide) dX12_nameOf_102 ?_
            obtain ⟨c18, h⟩ := h
            refine G_callS (as := [_, _, _, _, _]) cf_X12_147 rfl (sp_X12_w5 (d - 1) (by omega) _ hO _ (rL 116 rfl) _ (rL 104 rfl) _ (rL 105 rfl) _ (rL 99 rfl) _ (rL 107 rfl) c18) (by omega) rfl rfl (Nat.le_of_ble_eq_true rfl) dX12_nameOf_104 ?_
            rintro _ _ ⟨_, rfl, rfl, rfl⟩ o20 r19
            refine G_lcmp_ne (OKm.l hO 74 11 rfl) (r19 _ rfl) dX12_nameOf_107 dX12_nameOf_108 (tgt := 113) (by decide) (fun c21 => ?_) (fun c21 => ?_)
            · have h := h.1 c21
              refine G_aload_n 0 rfl rfl dX12_nameOf_113 ?_
              refine G_get (k := 11) (kd := (1, 0)) (v := aL (σ 74 11)) gf_X12_126 rfl rfl rfl rfl dX12_nameOf_114 ?_
              refine G_bipush (by decide) dX12_nameOf_117 ?_
              refine G_bipush (by decide) dX12_nameOf_119 ?_
              refine G_bipush (by decide) dX12_nameOf_121 ?_
              refine G_bipush (by decide) dX12_nameOf_123 ?_
              refine G_bipush (by decide) dX12_nameOf_125 ?_
              obtain ⟨c22, h⟩ := h
              refine G_callS (as := [_, _, _, _, _]) cf_X12_147 rfl (sp_X12_w5 (d - 1) (by omega) _ hO _ (rL 109 rfl) _ (rL 111 rfl) _ (rL 117 rfl) _ (rL 116 rfl) _ (rL 104 rfl) c22) (by omega) rfl rfl (Nat.le_of_ble_eq_true rfl) dX12_nameOf_127 ?_
              rintro _ _ ⟨_, rfl, rfl, rfl⟩ o24 r23
              refine G_lcmp_ne (OKm.l hO 74 11 rfl) (r23 _ rfl) dX12_nameOf_130 dX12_nameOf_131 (tgt := 136) (by decide) (fun c25 => ?_) (fun c25 => ?_)
              · have h := h.1 c25
                refine G_aload_n 0 rfl rfl dX12_nameOf_136 ?_
                refine G_get (k := 11) (kd := (1, 0)) (v := aL (σ 74 11)) gf_X12_126 rfl rfl rfl rfl dX12_nameOf_137 ?_
                refine G_bipush (by decide) dX12_nameOf_140 ?_
                refine G_bipush (by decide) dX12_nameOf_142 ?_
                refine G_bipush (by decide) dX12_nameOf_144 ?_
                obtain ⟨c26, h⟩ := h
                refine G_callS (as := [_, _, _]) cf_X12_139 rfl (sp_X12_w3 (d - 1) (by omega) _ hO _ (rL 119 rfl) _ (rL 104 rfl) _ (rL 111 rfl) c26) (by omega) rfl rfl (Nat.le_of_ble_eq_true rfl) dX12_nameOf_146 ?_
                rintro _ _ ⟨_, rfl, rfl, rfl⟩ o28 r27
                refine G_lcmp_ne (OKm.l hO 74 11 rfl) (r27 _ rfl) dX12_nameOf_149 dX12_nameOf_150 (tgt := 156) (by decide) (fun c29 => ?_) (fun c29 => ?_)
                · have h := h.1 c29
                  refine G_aload_n 0 rfl rfl dX12_nameOf_156 ?_
                  refine G_get (k := 11) (kd := (1, 0)) (v := aL (σ 74 11)) gf_X12_126 rfl rfl rfl rfl dX12_nameOf_157 ?_
                  refine G_bipush (by decide) dX12_nameOf_160 ?_
                  refine G_bipush (by decide) dX12_nameOf_162 ?_
                  refine G_bipush (by decide) dX12_nameOf_164 ?_
                  refine G_bipush (by decide) dX12_nameOf_166 ?_
                  obtain ⟨c30, h⟩ := h
                  refine G_callS (as := [_, _, _, _]) cf_X12_143 rfl (sp_X12_w4 (d - 1) (by omega) _ hO _ (rL 119 rfl) _ (rL 101 rfl) _ (rL 110 rfl) _ (rL 116 rfl) c30) (by omega) rfl rfl (Nat.le_of_ble_eq_true rfl) dX12_nameOf_168 ?_
                  rintro _ _ ⟨_, rfl, rfl, rfl⟩ o32 r31
                  refine G_lcmp_ne (OKm.l hO 74 11 rfl) (r31 _ rfl) dX12_nameOf_171 dX12_nameOf_172 (tgt := 180) (by decide) (fun c33 => ?_) (fun c33 => ?_)
                  · have h := h.1 c33
                    refine G_aload_n 0 rfl rfl dX12_nameOf_180 ?_
                    refine G_get (k := 11) (kd := (1, 0)) (v := aL (σ 74 11)) gf_X12_126 rfl rfl rfl rfl dX12_nameOf_181 ?_
                    refine G_bipush (by decide) dX12_nameOf_184 ?_
                    refine G_bipush (by decide) dX12_nameOf_186 ?_
                    refine G_bipush (by decide) dX12_nameOf_188 ?_
                    refine G_bipush (by decide) dX12_nameOf_190 ?_
                    refine G_bipush (by decide) dX12_nameOf_192 ?_
                    obtain ⟨c34, h⟩ := h
                    refine G_callS (as := [_, _, _, _, _]) cf_X12_147 rfl (sp_X12_w5 (d - 1) (by omega) _ hO _ (rL 102 rfl) _ (rL 105 rfl) _ (rL 114 rfl) _ (rL 115 rfl) _ (rL 116 rfl) c34) (by omega) rfl rfl (Nat.le_of_ble_eq_true rfl) dX12_nameOf_194 ?_
                    rintro _ _ ⟨_, rfl, rfl, rfl⟩ o36 r35
                    refine G_lcmp_ne (OKm.l hO 74 11 rfl) (r35 _ rfl) dX12_nameOf_197 dX12_nameOf_198 (tgt := 206) (by decide) (fun c37 => ?_) (fun c37 => ?_)
                    · have h := h.1 c37
                      refine G_iconst dX12_nameOf_206 ?_
                      exact G_iret rfl (rL (-1) rfl) dX12_nameOf_207 ⟨_, rfl, h⟩ hO
                    · have h := h.2 c37
                      refine G_bipush (by decide) dX12_nameOf_201 ?_
                      refine G_goto (tgt := 207) dX12_nameOf_203 (by decide) ?_
                      exact G_iret rfl (rL 8 rfl) dX12_nameOf_207 ⟨_, rfl, h⟩ hO
                  · have h := h.2 c33
                    refine G_bipush (by decide) dX12_nameOf_175 ?_
                    refine G_goto (tgt := 207) dX12_nameOf_177 (by decide) ?_
                    exact G_iret rfl (rL 7 rfl) dX12_nameOf_207 ⟨_, rfl, h⟩ hO
                · have h := h.2 c29
                  refine G_bipush (by decide) dX12_nameOf_153 ?_
                  exact G_iret rfl (rL 6 rfl) dX12_nameOf_155 ⟨_, rfl, h⟩ hO
              · have h := h.2 c25
                refine G_iconst dX12_nameOf_134 ?_
                exact G_iret rfl (rL 5 rfl) dX12_nameOf_135 ⟨_, rfl, h⟩ hO
            · have h := h.2 c21
              refine G_iconst dX12_nameOf_111 ?_
              exact G_iret rfl (rL 4 rfl) dX12_nameOf_112 ⟨_, rfl, h⟩ hO
          · have h := h.2 c17
            refine G_iconst dX12_nameOf_88 ?_
            exact G_iret rfl (rL 3 rfl) dX12_nameOf_89 ⟨_, rfl, h⟩ hO
        · have h := h.2 c13
          refine G_iconst dX12_nameOf_67 ?_
          exact G_iret rfl (rL 2 rfl) dX12_nameOf_68 ⟨_, rfl, h⟩ hO
      · have h := h.2 c9
        refine G_iconst dX12_nameOf_48 ?_
        exact G_iret rfl (rL 1 rfl) dX12_nameOf_49 ⟨_, rfl, h⟩ hO
    · have h := h.2 c5
      refine G_iconst dX12_nameOf_27 ?_
      exact G_iret rfl (rL 0 rfl) dX12_nameOf_28 ⟨_, rfl, h⟩ hO
  · have h := h.2 c1
    refine G_iconst dX12_nameOf_8 ?_
    exact G_iret rfl (rL (-1) rfl) dX12_nameOf_9 ⟨_, rfl, h⟩ hO

theorem sp_X12_nameOf (d : Nat) (hd : 4 ≤ d) (σ : Mem) (hO : OKm σ) : Mt yX12_nameOf cX12_nameOf 1 (some .int) d [aR (74)] σ (QI (fun v σ' => (nmS (σ 74 9) (σ 74 11)) = v ∧ σ = σ')) := mt_X12_nameOf hd  hO (by
  unfold wp_X12_nameOf
  refine ⟨fun t2 => ?_, fun t2 => ⟨by unfold nmS; rw [if_neg t2], rfl⟩⟩
  refine ⟨by decide, fun a0 => ?_, fun a0 => ⟨by unfold nmS; rw [if_pos t2, if_pos a0], rfl⟩⟩
  refine ⟨by decide, fun a1 => ?_, fun a1 => ⟨by unfold nmS; rw [if_pos t2, if_neg a0, if_pos a1], rfl⟩⟩
  refine ⟨by decide, fun a2 => ?_, fun a2 => ⟨by unfold nmS; rw [if_pos t2, if_neg a0, if_neg a1, if_pos a2], rfl⟩⟩
  refine ⟨by decide, fun a3 => ?_, fun a3 => ⟨by unfold nmS; rw [if_pos t2, if_neg a0, if_neg a1, if_neg a2, if_pos a3], rfl⟩⟩
  refine ⟨by decide, fun a4 => ?_, fun a4 => ⟨by unfold nmS; rw [if_pos t2, if_neg a0, if_neg a1, if_neg a2, if_neg a3, if_pos a4], rfl⟩⟩
  refine ⟨by decide, fun a5 => ?_, fun a5 => ⟨by unfold nmS; rw [if_pos t2, if_neg a0, if_neg a1, if_neg a2, if_neg a3, if_neg a4, if_pos a5], rfl⟩⟩
  refine ⟨by decide, fun a6 => ?_, fun a6 => ⟨by unfold nmS; rw [if_pos t2, if_neg a0, if_neg a1, if_neg a2, if_neg a3, if_neg a4, if_neg a5, if_pos a6], rfl⟩⟩
  refine ⟨by decide, fun a7 => ?_, fun a7 => ⟨by unfold nmS; rw [if_pos t2, if_neg a0, if_neg a1, if_neg a2, if_neg a3, if_neg a4, if_neg a5, if_neg a6, if_pos a7], rfl⟩⟩
  refine ⟨by decide, fun a8 => ⟨by unfold nmS; rw [if_pos t2, if_neg a0, if_neg a1, if_neg a2, if_neg a3, if_neg a4, if_neg a5, if_neg a6, if_neg a7, if_neg a8], rfl⟩, fun a8 => ⟨by unfold nmS; rw [if_pos t2, if_neg a0, if_neg a1, if_neg a2, if_neg a3, if_neg a4, if_neg a5, if_neg a6, if_neg a7, if_pos a8], rfl⟩⟩)
