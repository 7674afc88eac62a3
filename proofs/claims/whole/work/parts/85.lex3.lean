/-! TOKENS of the tape: b gives its bytes, and -1 behind its N bytes -/
def spn (p : Int → Bool) (b : Int → Int) : Nat → Int → Int
  | 0, i => i
  | k + 1, i => if p (b i) = true then spn p b k (i + 1) else i
def blk (c : Int) : Bool := decide (c = 32 ∨ c = 10)
def fig (c : Int) : Bool := decide (48 ≤ c ∧ c ≤ 57)
def ltr (c : Int) : Bool := decide ((97 ≤ c ∧ c ≤ 122) ∨ (65 ≤ c ∧ c ≤ 90))
def sgn (c : Int) : Bool := decide (c = 35 ∨ c = 40 ∨ c = 41 ∨ c = 42 ∨ c = 43 ∨ c = 45 ∨ c = 47 ∨ c = 58 ∨ c = 59 ∨ c = 60 ∨ c = 61 ∨ c = 62)
def nmF (b : Int → Int) : Nat → Int → Int → Int
  | 0, _, a => a
  | k + 1, i, a => if fig (b i) = true then nmF b k (i + 1) (if 99999 < a then a else 10 * a + b i - 48) else a
def mwF (b : Int → Int) : Nat → Int → Int → Int
  | 0, _, a => a
  | k + 1, i, a => if ltr (b i) = true then mwF b k (i + 1) (if a < 281474976710656 then a * 256 + b i else 1152921504606846976) else a
def skN (b : Int → Int) (N i : Int) : Int := spn blk b (N - i).toNat i
def two2 (b : Int → Int) (s : Int) : Bool := decide ((b s = 60 ∨ b s = 62) ∧ b (s + 1) = 61)
def tokM (b : Int → Int) (s : Int) : Int := if b s < 0 then 0 else if fig (b s) = true then 1 else if ltr (b s) = true then 2 else if two2 b s = true then (if b s = 60 then 4 else 5) else if sgn (b s) = true then b s else 3
def psM (b : Int → Int) (N s : Int) : Int := if b s < 0 then s else if fig (b s) = true then spn fig b (N - s).toNat s else if ltr (b s) = true then spn ltr b (N - s).toNat s else if two2 b s = true then s + 2 else s + 1
def nmM (b : Int → Int) (N s : Int) : Int := nmF b (N - s).toNat s 0
def mwM (b : Int → Int) (N s : Int) : Int := mwF b (N - s).toNat s 0
def isTp (b : Int → Int) (N : Int) : Prop := (0 ≤ N ∧ N ≤ 300) ∧ (∀ i : Int, 0 ≤ i → i < N → 0 ≤ b i ∧ b i ≤ 255) ∧ ∀ i : Int, N ≤ i → b i = -1
theorem spn_r (p : Int → Bool) (b : Int → Int) : ∀ (k : Nat) (i : Int), i ≤ spn p b k i ∧ spn p b k i ≤ i + k
  | 0, i => by show i ≤ i ∧ i ≤ i + 0; omega
  | k + 1, i => by
    have := spn_r p b k (i + 1)
    unfold spn; split <;> omega
theorem spn_N {p : Int → Bool} {b : Int → Int} {N i : Int} (h : i ≤ N) : i ≤ spn p b (N - i).toNat i ∧ spn p b (N - i).toNat i ≤ N := by
  have := spn_r p b (N - i).toNat i
  omega
theorem psM_r {b : Int → Int} {N s : Int} (hb : isTp b N) (h0 : 0 ≤ s) (hs : s ≤ N) : s ≤ psM b N s ∧ psM b N s ≤ N := by
  unfold psM
  by_cases h : b s < 0
  · rw [if_pos h]; omega
  · rw [if_neg h]
    have hlt : s < N := by
      rcases Int.lt_or_le s N with q | q
      · exact q
      · have := hb.2.2 s q; omega
    split
    · exact spn_N hs
    · split
      · exact spn_N hs
      · split
        · rename_i h2
          unfold two2 at h2; rw [decide_eq_true_eq] at h2
          have : s + 1 < N := by
            rcases Int.lt_or_le (s + 1) N with q | q
            · exact q
            · have := hb.2.2 (s + 1) q; omega
          omega
        · omega

def wp_X12_nextToken  (σ : Mem) (Q : Mem → Prop) : Prop :=
 ∀ P0 : Mem → Prop,
 ∀ P85 : Mem → Prop,
 ∀ P168 : Mem → Prop,
 ∀ P247 : Int → Int → Mem → Prop,
 (∀  (σ : Mem), (OKm σ →
   (0 ≤ (σ 74 7) ∧ σ 74 4 ≤ 300) ∧
    (((if (σ 74 7) < σ 74 4 then σ 78 (σ 74 7) else -1) = 32) →
     R32 ((σ 74 7) + 1) ∧
     ∀ σ5 : Mem, σ5 = mset σ 74 7 ((σ 74 7) + 1) →
     P0 σ5) ∧
    (((if (σ 74 7) < σ 74 4 then σ 78 (σ 74 7) else -1) ≠ 32) →
     (0 ≤ (σ 74 7) ∧ σ 74 4 ≤ 300) ∧
     (((if (σ 74 7) < σ 74 4 then σ 78 (σ 74 7) else -1) ≠ 10) →
      ∀ σ13 : Mem, σ13 = mset σ 74 8 (σ 74 7) →
      (0 ≤ (σ13 74 7) ∧ σ13 74 4 ≤ 300) ∧
      ∀ y19 : Int, y19 = (if (σ13 74 7) < σ13 74 4 then σ13 78 (σ13 74 7) else -1) →
      ((0 ≤ y19) →
       ((¬ (48 ≤ y19 ∧ y19 ≤ 57)) →
        ((¬ ((97 ≤ y19 ∧ y19 ≤ 122) ∨ (65 ≤ y19 ∧ y19 ≤ 90))) →
         ((¬ (y19 = 35 ∨ y19 = 40 ∨ y19 = 41 ∨ y19 = 42 ∨ y19 = 43 ∨ y19 = 45 ∨ y19 = 47 ∨ y19 = 58 ∨ y19 = 59 ∨ y19 = 60 ∨ y19 = 61 ∨ y19 = 62)) →
          P247 y19 3 σ13) ∧
         ((y19 = 35 ∨ y19 = 40 ∨ y19 = 41 ∨ y19 = 42 ∨ y19 = 43 ∨ y19 = 45 ∨ y19 = 47 ∨ y19 = 58 ∨ y19 = 59 ∨ y19 = 60 ∨ y19 = 61 ∨ y19 = 62) →
          P247 y19 y19 σ13)) ∧
        (((97 ≤ y19 ∧ y19 ≤ 122) ∨ (65 ≤ y19 ∧ y19 ≤ 90)) →
         ∀ σ30 : Mem, σ30 = mset σ13 74 9 2 →
         ∀ σ33 : Mem, σ33 = mset σ30 74 11 0 →
         P168 σ33)) ∧
       ((48 ≤ y19 ∧ y19 ≤ 57) →
        ∀ σ36 : Mem, σ36 = mset σ13 74 9 1 →
        ∀ σ39 : Mem, σ39 = mset σ36 74 10 0 →
        P85 σ39)) ∧
      ((y19 < 0) →
       ∀ σ42 : Mem, σ42 = mset σ13 74 9 0 →
       Q σ42)) ∧
     (((if (σ 74 7) < σ 74 4 then σ 78 (σ 74 7) else -1) = 10) →
      R32 ((σ 74 7) + 1) ∧
      ∀ σ45 : Mem, σ45 = mset σ 74 7 ((σ 74 7) + 1) →
      P0 σ45))) → P0  σ) →
 (∀  (σ : Mem), (OKm σ →
   (0 ≤ (σ 74 7) ∧ σ 74 4 ≤ 300) ∧
    ((¬ (48 ≤ (if (σ 74 7) < σ 74 4 then σ 78 (σ 74 7) else -1) ∧ (if (σ 74 7) < σ 74 4 then σ 78 (σ 74 7) else -1) ≤ 57)) →
     Q σ) ∧
    ((48 ≤ (if (σ 74 7) < σ 74 4 then σ 78 (σ 74 7) else -1) ∧ (if (σ 74 7) < σ 74 4 then σ 78 (σ 74 7) else -1) ≤ 57) →
     (((σ 74 10) ≤ 99999) →
      (0 ≤ (σ 74 7) ∧ σ 74 4 ≤ 300) ∧
      R32 (((10 * (σ 74 10)) + (if (σ 74 7) < σ 74 4 then σ 78 (σ 74 7) else -1)) - 48) ∧
      ∀ σ130 : Mem, σ130 = mset σ 74 10 (((10 * (σ 74 10)) + (if (σ 74 7) < σ 74 4 then σ 78 (σ 74 7) else -1)) - 48) →
      R32 ((σ130 74 7) + 1) ∧
      ∀ σ134 : Mem, σ134 = mset σ130 74 7 ((σ130 74 7) + 1) →
      P85 σ134) ∧
     ((99999 < (σ 74 10)) →
      ∀ σ138 : Mem, σ138 = mset σ 74 10 (σ 74 10) →
      R32 ((σ138 74 7) + 1) ∧
      ∀ σ141 : Mem, σ141 = mset σ138 74 7 ((σ138 74 7) + 1) →
      P85 σ141))) → P85  σ) →
 (∀  (σ : Mem), (OKm σ →
   (0 ≤ (σ 74 7) ∧ σ 74 4 ≤ 300) ∧
    ((¬ ((97 ≤ (if (σ 74 7) < σ 74 4 then σ 78 (σ 74 7) else -1) ∧ (if (σ 74 7) < σ 74 4 then σ 78 (σ 74 7) else -1) ≤ 122) ∨ (65 ≤ (if (σ 74 7) < σ 74 4 then σ 78 (σ 74 7) else -1) ∧ (if (σ 74 7) < σ 74 4 then σ 78 (σ 74 7) else -1) ≤ 90))) →
     Q σ) ∧
    (((97 ≤ (if (σ 74 7) < σ 74 4 then σ 78 (σ 74 7) else -1) ∧ (if (σ 74 7) < σ 74 4 then σ 78 (σ 74 7) else -1) ≤ 122) ∨ (65 ≤ (if (σ 74 7) < σ 74 4 then σ 78 (σ 74 7) else -1) ∧ (if (σ 74 7) < σ 74 4 then σ 78 (σ 74 7) else -1) ≤ 90)) →
     (((lShr (σ 74 11) 48) = 0) →
      (0 ≤ (σ 74 7) ∧ σ 74 4 ≤ 300) ∧
      ∀ σ106 : Mem, σ106 = mset σ 74 11 (lOr (lShl (σ 74 11) 8) (if (σ 74 7) < σ 74 4 then σ 78 (σ 74 7) else -1)) →
      R32 ((σ106 74 7) + 1) ∧
      ∀ σ109 : Mem, σ109 = mset σ106 74 7 ((σ106 74 7) + 1) →
      P168 σ109) ∧
     (((lShr (σ 74 11) 48) ≠ 0) →
      ∀ σ113 : Mem, σ113 = mset σ 74 11 1152921504606846976 →
      R32 ((σ113 74 7) + 1) ∧
      ∀ σ116 : Mem, σ116 = mset σ113 74 7 ((σ113 74 7) + 1) →
      P168 σ116))) → P168  σ) →
 (∀ (v1 : Int) (s1 : Int) (σ : Mem), (R32 v1 → R32 s1 → OKm σ →
   ∀ σ49 : Mem, σ49 = mset σ 74 9 s1 →
    R32 ((σ49 74 7) + 1) ∧
    ∀ σ52 : Mem, σ52 = mset σ49 74 7 ((σ49 74 7) + 1) →
    ((v1 = 60) →
     (0 ≤ (σ52 74 7) ∧ σ52 74 4 ≤ 300) ∧
     (((if (σ52 74 7) < σ52 74 4 then σ52 78 (σ52 74 7) else -1) ≠ 61) →
      Q σ52) ∧
     (((if (σ52 74 7) < σ52 74 4 then σ52 78 (σ52 74 7) else -1) = 61) →
      ((v1 ≠ 60) →
       ∀ σ62 : Mem, σ62 = mset σ52 74 9 5 →
       R32 ((σ62 74 7) + 1) ∧
       ∀ σ65 : Mem, σ65 = mset σ62 74 7 ((σ62 74 7) + 1) →
       Q σ65) ∧
      ((v1 = 60) →
       ∀ σ69 : Mem, σ69 = mset σ52 74 9 4 →
       R32 ((σ69 74 7) + 1) ∧
       ∀ σ72 : Mem, σ72 = mset σ69 74 7 ((σ69 74 7) + 1) →
       Q σ72))) ∧
    ((v1 ≠ 60) →
     ((v1 ≠ 62) →
      Q σ52) ∧
     ((v1 = 62) →
      (0 ≤ (σ52 74 7) ∧ σ52 74 4 ≤ 300) ∧
      (((if (σ52 74 7) < σ52 74 4 then σ52 78 (σ52 74 7) else -1) ≠ 61) →
       Q σ52) ∧
      (((if (σ52 74 7) < σ52 74 4 then σ52 78 (σ52 74 7) else -1) = 61) →
       ((v1 ≠ 60) →
        ∀ σ82 : Mem, σ82 = mset σ52 74 9 5 →
        R32 ((σ82 74 7) + 1) ∧
        ∀ σ85 : Mem, σ85 = mset σ82 74 7 ((σ82 74 7) + 1) →
        Q σ85) ∧
       ((v1 = 60) →
        ∀ σ89 : Mem, σ89 = mset σ52 74 9 4 →
        R32 ((σ89 74 7) + 1) ∧
        ∀ σ92 : Mem, σ92 = mset σ89 74 7 ((σ89 74 7) + 1) →
        Q σ92))))) → P247 v1 s1 σ) →
  P0 σ
theorem mt_X12_nextToken {d : Nat} (hd : 1 ≤ d)  {σ : Mem} {Q : Mem → Prop}  (hO : OKm σ) (h : wp_X12_nextToken  σ Q) : Mt yX12_nextToken cX12_nextToken 2 none d [aR (74)] σ (QV Q) := by
  refine Mt.intro (by decide +kernel) (Nat.le_of_ble_eq_true rfl) [(0, aR (74))] rfl ?_
  unfold wp_X12_nextToken at h
  have h := h (fun  (σ : Mem) => OKm σ → G yX12_nextToken cX12_nextToken 2 none d (QV Q) 0 [(0, aR (74))] [] σ)
    (fun  (σ : Mem) => OKm σ → G yX12_nextToken cX12_nextToken 2 none d (QV Q) 85 [(0, aR (74))] [] σ)
    (fun  (σ : Mem) => OKm σ → G yX12_nextToken cX12_nextToken 2 none d (QV Q) 168 [(0, aR (74))] [] σ)
    (fun (v1 : Int) (s1 : Int) (σ : Mem) => R32 v1 → R32 s1 → OKm σ → G yX12_nextToken cX12_nextToken 2 none d (QV Q) 247 [(0, aR (74)), (1, aI (v1))] [aI (s1), aR (74)] σ) ?_ ?_ ?_ ?_
  · exact G_pick [0] rfl (h hO)
  · intro  σ h  hO
    have h := h  hO
    refine G_aload_n 0 rfl rfl dX12_nextToken_0 ?_
    refine G_aload_n 0 rfl rfl dX12_nextToken_1 ?_
    refine G_get (k := 7) (kd := (0, 0)) (v := aI (σ 74 7)) gf_X12_103 rfl rfl rfl rfl dX12_nextToken_2 ?_
    obtain ⟨c1, h⟩ := h
    refine G_callV (as := [_]) cf_X12_106 rfl rfl rfl (sp_X12_byteAt (d - 1) (by omega) _ hO _ (OKm.i hO 74 7 rfl) c1) (by omega) rfl rfl (Nat.le_of_ble_eq_true rfl) dX12_nextToken_5 ?_
    rintro _ _ ⟨_, rfl, rfl, rfl⟩ o3 r2
    refine G_bipush (by decide) dX12_nextToken_8 ?_
    refine G_icmp_eq (r2 _ rfl) (rL 32 rfl) dX12_nextToken_10 (tgt := 26) (by decide) (fun c4 => ?_) (fun c4 => ?_)
    · have h := h.1 c4
      refine G_aload_n 0 rfl rfl dX12_nextToken_26 ?_
      refine G_dup rfl dX12_nextToken_27 ?_
      refine G_get (k := 7) (kd := (0, 0)) (v := aI (σ 74 7)) gf_X12_103 rfl rfl rfl rfl dX12_nextToken_28 ?_
      refine G_iconst dX12_nextToken_31 ?_
      refine G_iadd dX12_nextToken_32 ?_
      obtain ⟨c6, h⟩ := h
      obtain ⟨σ5, e8⟩ : ∃ τ : Mem, τ = mset σ 74 7 ((σ 74 7) + 1) := ⟨_, rfl⟩
      have h := h σ5 e8
      have o7 : OKm σ5 := by rw [e8]; exact OKm.seti hO _ _ _ c6 rfl
      refine G_put (k := 7) (ki := 7) (kd := (0, 0)) (x := _) pf_X12_103 rfl rfl rfl rfl (fa_i (mset_self _ _ _ _)) (fun _ => rfl) (fun _ => rfl) dX12_nextToken_33 ?_
      rw [← e8]
      refine G_goto (tgt := 0) dX12_nextToken_36 (by decide) ?_
      exact G_pick [0] rfl (h o7)
    · have h := h.2 c4
      refine G_aload_n 0 rfl rfl dX12_nextToken_13 ?_
      refine G_aload_n 0 rfl rfl dX12_nextToken_14 ?_
      refine G_get (k := 7) (kd := (0, 0)) (v := aI (σ 74 7)) gf_X12_103 rfl rfl rfl rfl dX12_nextToken_15 ?_
      obtain ⟨c9, h⟩ := h
      refine G_callV (as := [_]) cf_X12_106 rfl rfl rfl (sp_X12_byteAt (d - 1) (by omega) _ hO _ (OKm.i hO 74 7 rfl) c9) (by omega) rfl rfl (Nat.le_of_ble_eq_true rfl) dX12_nextToken_18 ?_
      rintro _ _ ⟨_, rfl, rfl, rfl⟩ o11 r10
      refine G_bipush (by decide) dX12_nextToken_21 ?_
      refine G_icmp_ne (r10 _ rfl) (rL 10 rfl) dX12_nextToken_23 (tgt := 39) (by decide) (fun c12 => ?_) (fun c12 => ?_)
      · have h := h.1 c12
        refine G_aload_n 0 rfl rfl dX12_nextToken_39 ?_
        refine G_aload_n 0 rfl rfl dX12_nextToken_40 ?_
        refine G_get (k := 7) (kd := (0, 0)) (v := aI (σ 74 7)) gf_X12_103 rfl rfl rfl rfl dX12_nextToken_41 ?_
        obtain ⟨σ13, e15⟩ : ∃ τ : Mem, τ = mset σ 74 8 (σ 74 7) := ⟨_, rfl⟩
        have h := h σ13 e15
        have o14 : OKm σ13 := by rw [e15]; exact OKm.seti hO _ _ _ (OKm.i hO 74 7 rfl) rfl
        refine G_put (k := 8) (ki := 8) (kd := (0, 0)) (x := _) pf_X12_110 rfl rfl rfl rfl (fa_i (mset_self _ _ _ _)) (fun _ => rfl) (fun _ => rfl) dX12_nextToken_44 ?_
        rw [← e15]
        refine G_aload_n 0 rfl rfl dX12_nextToken_47 ?_
        refine G_aload_n 0 rfl rfl dX12_nextToken_48 ?_
        refine G_get (k := 7) (kd := (0, 0)) (v := aI (σ13 74 7)) gf_X12_103 rfl rfl rfl rfl dX12_nextToken_49 ?_
        obtain ⟨c16, h⟩ := h
        refine G_callV (as := [_]) cf_X12_106 rfl rfl rfl (sp_X12_byteAt (d - 1) (by omega) _ o14 _ (OKm.i o14 74 7 rfl) c16) (by omega) rfl rfl (Nat.le_of_ble_eq_true rfl) dX12_nextToken_52 ?_
        rintro _ _ ⟨_, rfl, rfl, rfl⟩ o18 r17
        have h := h _ rfl
        refine G_istore_n (lv' := [(1, aI (((if (σ13 74 7) < σ13 74 4 then σ13 78 (σ13 74 7) else -1)))), (0, aR (74))]) rfl rfl (by decide) dX12_nextToken_55 ?_
        refine G_iload_n 0 rfl rfl dX12_nextToken_56 ?_
        refine G_if_ge (r17 _ rfl) dX12_nextToken_57 (tgt := 68) (by decide) (fun c20 => ?_) (fun c20 => ?_)
        · have h := h.1 c20
          refine G_iload_n 0 rfl rfl dX12_nextToken_68 ?_
          refine G_callS (as := [_]) cf_X12_116 rfl (sp_X12_isFigure (d - 1) (by omega) _ o14 _ (r17 _ rfl)) (by omega) rfl rfl (Nat.le_of_ble_eq_true rfl) dX12_nextToken_69 ?_
          rintro _ _ ⟨_, rfl, rfl, rfl⟩ o22 r21
          refine G_if_eq (bI_R _) dX12_nextToken_72 (tgt := 151) (by decide) (fun c23 => ?_) (fun c23 => ?_)
          · have h := h.1 ((bI_0 _).mp c23)
            refine G_iload_n 0 rfl rfl dX12_nextToken_151 ?_
            refine G_callS (as := [_]) cf_X12_123 rfl (sp_X12_isLetterByte (d - 1) (by omega) _ o14 _ (r17 _ rfl)) (by omega) rfl rfl (Nat.le_of_ble_eq_true rfl) dX12_nextToken_152 ?_
            rintro _ _ ⟨_, rfl, rfl, rfl⟩ o25 r24
            refine G_if_eq (bI_R _) dX12_nextToken_155 (tgt := 234) (by decide) (fun c26 => ?_) (fun c26 => ?_)
            · have h := h.1 ((bI_0 _).mp c26)
              refine G_aload_n 1 rfl rfl dX12_nextToken_234 ?_
              refine G_iload_n 0 rfl rfl dX12_nextToken_235 ?_
              refine G_callS (as := [_]) cf_X12_132 rfl (sp_X12_isSign (d - 1) (by omega) _ o14 _ (r17 _ rfl)) (by omega) rfl rfl (Nat.le_of_ble_eq_true rfl) dX12_nextToken_236 ?_
              rintro _ _ ⟨_, rfl, rfl, rfl⟩ o28 r27
              refine G_if_eq (bI_R _) dX12_nextToken_239 (tgt := 246) (by decide) (fun c29 => ?_) (fun c29 => ?_)
              · have h := h.1 ((bI_0 _).mp c29)
                refine G_iconst dX12_nextToken_246 ?_
                exact G_pick [1, 0] rfl (h (r17 _ rfl) (rL 3 rfl) o14)
              · have h := h.2 (bI_ne c29)
                refine G_iload_n 0 rfl rfl dX12_nextToken_242 ?_
                refine G_goto (tgt := 247) dX12_nextToken_243 (by decide) ?_
                exact G_pick [1, 0] rfl (h (r17 _ rfl) (r17 _ rfl) o14)
            · have h := h.2 (bI_ne c26)
              refine G_aload_n 1 rfl rfl dX12_nextToken_158 ?_
              refine G_iconst dX12_nextToken_159 ?_
              obtain ⟨σ30, e32⟩ : ∃ τ : Mem, τ = mset σ13 74 9 2 := ⟨_, rfl⟩
              have h := h σ30 e32
              have o31 : OKm σ30 := by rw [e32]; exact OKm.seti o14 _ _ _ (rL 2 rfl) rfl
              refine G_put (k := 9) (ki := 9) (kd := (0, 0)) (x := _) pf_X12_113 rfl rfl rfl rfl (fa_i (mset_self _ _ _ _)) (fun _ => rfl) (fun _ => rfl) dX12_nextToken_160 ?_
              rw [← e32]
              refine G_aload_n 1 rfl rfl dX12_nextToken_163 ?_
              refine G_lconst (n := 0) (by decide) dX12_nextToken_164 ?_
              obtain ⟨σ33, e35⟩ : ∃ τ : Mem, τ = mset σ30 74 11 0 := ⟨_, rfl⟩
              have h := h σ33 e35
              have o34 : OKm σ33 := by rw [e35]; exact OKm.setl o31 _ _ _ (rLL 0 rfl) rfl
              refine G_put (k := 11) (ki := 11) (kd := (1, 0)) (x := _) pf_X12_126 rfl rfl rfl rfl (fa_l (mset_self _ _ _ _)) (fun _ => rfl) (fun _ => rfl) dX12_nextToken_165 ?_
              rw [← e35]
              exact G_pick [1] rfl (h o34)
          · have h := h.2 (bI_ne c23)
            refine G_aload_n 1 rfl rfl dX12_nextToken_75 ?_
            refine G_iconst dX12_nextToken_76 ?_
            obtain ⟨σ36, e38⟩ : ∃ τ : Mem, τ = mset σ13 74 9 1 := ⟨_, rfl⟩
            have h := h σ36 e38
            have o37 : OKm σ36 := by rw [e38]; exact OKm.seti o14 _ _ _ (rL 1 rfl) rfl
            refine G_put (k := 9) (ki := 9) (kd := (0, 0)) (x := _) pf_X12_113 rfl rfl rfl rfl (fa_i (mset_self _ _ _ _)) (fun _ => rfl) (fun _ => rfl) dX12_nextToken_77 ?_
            rw [← e38]
            refine G_aload_n 1 rfl rfl dX12_nextToken_80 ?_
            refine G_iconst dX12_nextToken_81 ?_
            obtain ⟨σ39, e41⟩ : ∃ τ : Mem, τ = mset σ36 74 10 0 := ⟨_, rfl⟩
            have h := h σ39 e41
            have o40 : OKm σ39 := by rw [e41]; exact OKm.seti o37 _ _ _ (rL 0 rfl) rfl
            refine G_put (k := 10) (ki := 10) (kd := (0, 0)) (x := _) pf_X12_119 rfl rfl rfl rfl (fa_i (mset_self _ _ _ _)) (fun _ => rfl) (fun _ => rfl) dX12_nextToken_82 ?_
            rw [← e41]
            exact G_pick [1] rfl (h o40)
        · have h := h.2 c20
          refine G_aload_n 1 rfl rfl dX12_nextToken_60 ?_
          refine G_iconst dX12_nextToken_61 ?_
          obtain ⟨σ42, e44⟩ : ∃ τ : Mem, τ = mset σ13 74 9 0 := ⟨_, rfl⟩
          have h := h σ42 e44
          have o43 : OKm σ42 := by rw [e44]; exact OKm.seti o14 _ _ _ (rL 0 rfl) rfl
          refine G_put (k := 9) (ki := 9) (kd := (0, 0)) (x := _) pf_X12_113 rfl rfl rfl rfl (fa_i (mset_self _ _ _ _)) (fun _ => rfl) (fun _ => rfl) dX12_nextToken_62 ?_
          rw [← e44]
          refine G_goto (tgt := 310) dX12_nextToken_65 (by decide) ?_
          exact G_vret rfl dX12_nextToken_310 ⟨rfl, h⟩ o43
      · have h := h.2 c12
        refine G_aload_n 0 rfl rfl dX12_nextToken_26 ?_
        refine G_dup rfl dX12_nextToken_27 ?_
        refine G_get (k := 7) (kd := (0, 0)) (v := aI (σ 74 7)) gf_X12_103 rfl rfl rfl rfl dX12_nextToken_28 ?_
        refine G_iconst dX12_nextToken_31 ?_
        refine G_iadd dX12_nextToken_32 ?_
        obtain ⟨c46, h⟩ := h
        obtain ⟨σ45, e48⟩ : ∃ τ : Mem, τ = mset σ 74 7 ((σ 74 7) + 1) := ⟨_, rfl⟩
        have h := h σ45 e48
        have o47 : OKm σ45 := by rw [e48]; exact OKm.seti hO _ _ _ c46 rfl
        refine G_put (k := 7) (ki := 7) (kd := (0, 0)) (x := _) pf_X12_103 rfl rfl rfl rfl (fa_i (mset_self _ _ _ _)) (fun _ => rfl) (fun _ => rfl) dX12_nextToken_33 ?_
        rw [← e48]
        refine G_goto (tgt := 0) dX12_nextToken_36 (by decide) ?_
        exact G_pick [0] rfl (h o47)
  · intro  σ h  hO
    have h := h  hO
    refine G_aload_n 0 rfl rfl dX12_nextToken_85 ?_
    refine G_aload_n 0 rfl rfl dX12_nextToken_86 ?_
    refine G_get (k := 7) (kd := (0, 0)) (v := aI (σ 74 7)) gf_X12_103 rfl rfl rfl rfl dX12_nextToken_87 ?_
    obtain ⟨c120, h⟩ := h
    refine G_callV (as := [_]) cf_X12_106 rfl rfl rfl (sp_X12_byteAt (d - 1) (by omega) _ hO _ (OKm.i hO 74 7 rfl) c120) (by omega) rfl rfl (Nat.le_of_ble_eq_true rfl) dX12_nextToken_90 ?_
    rintro _ _ ⟨_, rfl, rfl, rfl⟩ o122 r121
    refine G_callS (as := [_]) cf_X12_116 rfl (sp_X12_isFigure (d - 1) (by omega) _ hO _ (r121 _ rfl)) (by omega) rfl rfl (Nat.le_of_ble_eq_true rfl) dX12_nextToken_93 ?_
    rintro _ _ ⟨_, rfl, rfl, rfl⟩ o124 r123
    refine G_if_eq (bI_R _) dX12_nextToken_96 (tgt := 310) (by decide) (fun c125 => ?_) (fun c125 => ?_)
    · have h := h.1 ((bI_0 _).mp c125)
      exact G_vret rfl dX12_nextToken_310 ⟨rfl, h⟩ hO
    · have h := h.2 (bI_ne c125)
      refine G_aload_n 0 rfl rfl dX12_nextToken_99 ?_
      refine G_aload_n 0 rfl rfl dX12_nextToken_100 ?_
      refine G_get (k := 10) (kd := (0, 0)) (v := aI (σ 74 10)) gf_X12_119 rfl rfl rfl rfl dX12_nextToken_101 ?_
      refine G_ldc (n := 99999) rfl (by decide) kc_X12_122 dX12_nextToken_104 ?_
      refine G_icmp_le (OKm.i hO 74 10 rfl) (rL 99999 rfl) dX12_nextToken_106 (tgt := 116) (by decide) (fun c126 => ?_) (fun c126 => ?_)
      · have h := h.1 c126
        refine G_bipush (by decide) dX12_nextToken_116 ?_
        refine G_aload_n 0 rfl rfl dX12_nextToken_118 ?_
        refine G_get (k := 10) (kd := (0, 0)) (v := aI (σ 74 10)) gf_X12_119 rfl rfl rfl rfl dX12_nextToken_119 ?_
        refine G_imul dX12_nextToken_122 ?_
        refine G_aload_n 0 rfl rfl dX12_nextToken_123 ?_
        refine G_aload_n 0 rfl rfl dX12_nextToken_124 ?_
        refine G_get (k := 7) (kd := (0, 0)) (v := aI (σ 74 7)) gf_X12_103 rfl rfl rfl rfl dX12_nextToken_125 ?_
        obtain ⟨c127, h⟩ := h
        refine G_callV (as := [_]) cf_X12_106 rfl rfl rfl (sp_X12_byteAt (d - 1) (by omega) _ hO _ (OKm.i hO 74 7 rfl) c127) (by omega) rfl rfl (Nat.le_of_ble_eq_true rfl) dX12_nextToken_128 ?_
        rintro _ _ ⟨_, rfl, rfl, rfl⟩ o129 r128
        refine G_iadd dX12_nextToken_131 ?_
        refine G_bipush (by decide) dX12_nextToken_132 ?_
        refine G_isub dX12_nextToken_134 ?_
        obtain ⟨c131, h⟩ := h
        obtain ⟨σ130, e133⟩ : ∃ τ : Mem, τ = mset σ 74 10 (((10 * (σ 74 10)) + (if (σ 74 7) < σ 74 4 then σ 78 (σ 74 7) else -1)) - 48) := ⟨_, rfl⟩
        have h := h σ130 e133
        have o132 : OKm σ130 := by rw [e133]; exact OKm.seti hO _ _ _ c131 rfl
        refine G_put (k := 10) (ki := 10) (kd := (0, 0)) (x := _) pf_X12_119 rfl rfl rfl rfl (fa_i (mset_self _ _ _ _)) (fun _ => rfl) (fun _ => rfl) dX12_nextToken_135 ?_
        rw [← e133]
        refine G_aload_n 0 rfl rfl dX12_nextToken_138 ?_
        refine G_dup rfl dX12_nextToken_139 ?_
        refine G_get (k := 7) (kd := (0, 0)) (v := aI (σ130 74 7)) gf_X12_103 rfl rfl rfl rfl dX12_nextToken_140 ?_
        refine G_iconst dX12_nextToken_143 ?_
        refine G_iadd dX12_nextToken_144 ?_
        obtain ⟨c135, h⟩ := h
        obtain ⟨σ134, e137⟩ : ∃ τ : Mem, τ = mset σ130 74 7 ((σ130 74 7) + 1) := ⟨_, rfl⟩
        have h := h σ134 e137
        have o136 : OKm σ134 := by rw [e137]; exact OKm.seti o132 _ _ _ c135 rfl
        refine G_put (k := 7) (ki := 7) (kd := (0, 0)) (x := _) pf_X12_103 rfl rfl rfl rfl (fa_i (mset_self _ _ _ _)) (fun _ => rfl) (fun _ => rfl) dX12_nextToken_145 ?_
        rw [← e137]
        refine G_goto (tgt := 85) dX12_nextToken_148 (by decide) ?_
        exact G_pick [0] rfl (h o136)
      · have h := h.2 c126
        refine G_aload_n 0 rfl rfl dX12_nextToken_109 ?_
        refine G_get (k := 10) (kd := (0, 0)) (v := aI (σ 74 10)) gf_X12_119 rfl rfl rfl rfl dX12_nextToken_110 ?_
        refine G_goto (tgt := 135) dX12_nextToken_113 (by decide) ?_
        obtain ⟨σ138, e140⟩ : ∃ τ : Mem, τ = mset σ 74 10 (σ 74 10) := ⟨_, rfl⟩
        have h := h σ138 e140
        have o139 : OKm σ138 := by rw [e140]; exact OKm.seti hO _ _ _ (OKm.i hO 74 10 rfl) rfl
        refine G_put (k := 10) (ki := 10) (kd := (0, 0)) (x := _) pf_X12_119 rfl rfl rfl rfl (fa_i (mset_self _ _ _ _)) (fun _ => rfl) (fun _ => rfl) dX12_nextToken_135 ?_
        rw [← e140]
        refine G_aload_n 0 rfl rfl dX12_nextToken_138 ?_
        refine G_dup rfl dX12_nextToken_139 ?_
        refine G_get (k := 7) (kd := (0, 0)) (v := aI (σ138 74 7)) gf_X12_103 rfl rfl rfl rfl dX12_nextToken_140 ?_
        refine G_iconst dX12_nextToken_143 ?_
        refine G_iadd dX12_nextToken_144 ?_
        obtain ⟨c142, h⟩ := h
        obtain ⟨σ141, e144⟩ : ∃ τ : Mem, τ = mset σ138 74 7 ((σ138 74 7) + 1) := ⟨_, rfl⟩
        have h := h σ141 e144
        have o143 : OKm σ141 := by rw [e144]; exact OKm.seti o139 _ _ _ c142 rfl
        refine G_put (k := 7) (ki := 7) (kd := (0, 0)) (x := _) pf_X12_103 rfl rfl rfl rfl (fa_i (mset_self _ _ _ _)) (fun _ => rfl) (fun _ => rfl) dX12_nextToken_145 ?_
        rw [← e144]
        refine G_goto (tgt := 85) dX12_nextToken_148 (by decide) ?_
        exact G_pick [0] rfl (h o143)
  · intro  σ h  hO
    have h := h  hO
    refine G_aload_n 0 rfl rfl dX12_nextToken_168 ?_
    refine G_aload_n 0 rfl rfl dX12_nextToken_169 ?_
    refine G_get (k := 7) (kd := (0, 0)) (v := aI (σ 74 7)) gf_X12_103 rfl rfl rfl rfl dX12_nextToken_170 ?_
    obtain ⟨c96, h⟩ := h
    refine G_callV (as := [_]) cf_X12_106 rfl rfl rfl (sp_X12_byteAt (d - 1) (by omega) _ hO _ (OKm.i hO 74 7 rfl) c96) (by omega) rfl rfl (Nat.le_of_ble_eq_true rfl) dX12_nextToken_173 ?_
    rintro _ _ ⟨_, rfl, rfl, rfl⟩ o98 r97
    refine G_callS (as := [_]) cf_X12_123 rfl (sp_X12_isLetterByte (d - 1) (by omega) _ hO _ (r97 _ rfl)) (by omega) rfl rfl (Nat.le_of_ble_eq_true rfl) dX12_nextToken_176 ?_
    rintro _ _ ⟨_, rfl, rfl, rfl⟩ o100 r99
    refine G_if_eq (bI_R _) dX12_nextToken_179 (tgt := 310) (by decide) (fun c101 => ?_) (fun c101 => ?_)
    · have h := h.1 ((bI_0 _).mp c101)
      exact G_vret rfl dX12_nextToken_310 ⟨rfl, h⟩ hO
    · have h := h.2 (bI_ne c101)
      refine G_aload_n 0 rfl rfl dX12_nextToken_182 ?_
      refine G_aload_n 0 rfl rfl dX12_nextToken_183 ?_
      refine G_get (k := 11) (kd := (1, 0)) (v := aL (σ 74 11)) gf_X12_126 rfl rfl rfl rfl dX12_nextToken_184 ?_
      refine G_bipush (by decide) dX12_nextToken_187 ?_
      refine G_lshr dX12_nextToken_189 ?_
      refine G_lconst (n := 0) (by decide) dX12_nextToken_190 ?_
      refine G_lcmp_eq (r64_of _) (rLL 0 rfl) dX12_nextToken_191 dX12_nextToken_192 (tgt := 201) (by decide) (fun c102 => ?_) (fun c102 => ?_)
      · have h := h.1 c102
        refine G_aload_n 0 rfl rfl dX12_nextToken_201 ?_
        refine G_get (k := 11) (kd := (1, 0)) (v := aL (σ 74 11)) gf_X12_126 rfl rfl rfl rfl dX12_nextToken_202 ?_
        refine G_bipush (by decide) dX12_nextToken_205 ?_
        refine G_lshl dX12_nextToken_207 ?_
        refine G_aload_n 0 rfl rfl dX12_nextToken_208 ?_
        refine G_aload_n 0 rfl rfl dX12_nextToken_209 ?_
        refine G_get (k := 7) (kd := (0, 0)) (v := aI (σ 74 7)) gf_X12_103 rfl rfl rfl rfl dX12_nextToken_210 ?_
        obtain ⟨c103, h⟩ := h
        refine G_callV (as := [_]) cf_X12_106 rfl rfl rfl (sp_X12_byteAt (d - 1) (by omega) _ hO _ (OKm.i hO 74 7 rfl) c103) (by omega) rfl rfl (Nat.le_of_ble_eq_true rfl) dX12_nextToken_213 ?_
        rintro _ _ ⟨_, rfl, rfl, rfl⟩ o105 r104
        refine G_i2l (r104 _ rfl) dX12_nextToken_216 ?_
        refine G_lor dX12_nextToken_217 ?_
        obtain ⟨σ106, e108⟩ : ∃ τ : Mem, τ = mset σ 74 11 (lOr (lShl (σ 74 11) 8) (if (σ 74 7) < σ 74 4 then σ 78 (σ 74 7) else -1)) := ⟨_, rfl⟩
        have h := h σ106 e108
        have o107 : OKm σ106 := by rw [e108]; exact OKm.setl hO _ _ _ (r64_of _) rfl
        refine G_put (k := 11) (ki := 11) (kd := (1, 0)) (x := _) pf_X12_126 rfl rfl rfl rfl (fa_l (mset_self _ _ _ _)) (fun _ => rfl) (fun _ => rfl) dX12_nextToken_218 ?_
        rw [← e108]
        refine G_aload_n 0 rfl rfl dX12_nextToken_221 ?_
        refine G_dup rfl dX12_nextToken_222 ?_
        refine G_get (k := 7) (kd := (0, 0)) (v := aI (σ106 74 7)) gf_X12_103 rfl rfl rfl rfl dX12_nextToken_223 ?_
        refine G_iconst dX12_nextToken_226 ?_
        refine G_iadd dX12_nextToken_227 ?_
        obtain ⟨c110, h⟩ := h
        obtain ⟨σ109, e112⟩ : ∃ τ : Mem, τ = mset σ106 74 7 ((σ106 74 7) + 1) := ⟨_, rfl⟩
        have h := h σ109 e112
        have o111 : OKm σ109 := by rw [e112]; exact OKm.seti o107 _ _ _ c110 rfl
        refine G_put (k := 7) (ki := 7) (kd := (0, 0)) (x := _) pf_X12_103 rfl rfl rfl rfl (fa_i (mset_self _ _ _ _)) (fun _ => rfl) (fun _ => rfl) dX12_nextToken_228 ?_
        rw [← e112]
        refine G_goto (tgt := 168) dX12_nextToken_231 (by decide) ?_
        exact G_pick [0] rfl (h o111)
      · have h := h.2 c102
        refine G_ldc2 (n := 1152921504606846976) rfl (by decide) kc_X12_130 dX12_nextToken_195 ?_
        refine G_goto (tgt := 218) dX12_nextToken_198 (by decide) ?_
        obtain ⟨σ113, e115⟩ : ∃ τ : Mem, τ = mset σ 74 11 1152921504606846976 := ⟨_, rfl⟩
        have h := h σ113 e115
        have o114 : OKm σ113 := by rw [e115]; exact OKm.setl hO _ _ _ (rLL 1152921504606846976 rfl) rfl
        refine G_put (k := 11) (ki := 11) (kd := (1, 0)) (x := _) pf_X12_126 rfl rfl rfl rfl (fa_l (mset_self _ _ _ _)) (fun _ => rfl) (fun _ => rfl) dX12_nextToken_218 ?_
        rw [← e115]
        refine G_aload_n 0 rfl rfl dX12_nextToken_221 ?_
        refine G_dup rfl dX12_nextToken_222 ?_
        refine G_get (k := 7) (kd := (0, 0)) (v := aI (σ113 74 7)) gf_X12_103 rfl rfl rfl rfl dX12_nextToken_223 ?_
        refine G_iconst dX12_nextToken_226 ?_
        refine G_iadd dX12_nextToken_227 ?_
        obtain ⟨c117, h⟩ := h
        obtain ⟨σ116, e119⟩ : ∃ τ : Mem, τ = mset σ113 74 7 ((σ113 74 7) + 1) := ⟨_, rfl⟩
        have h := h σ116 e119
        have o118 : OKm σ116 := by rw [e119]; exact OKm.seti o114 _ _ _ c117 rfl
        refine G_put (k := 7) (ki := 7) (kd := (0, 0)) (x := _) pf_X12_103 rfl rfl rfl rfl (fa_i (mset_self _ _ _ _)) (fun _ => rfl) (fun _ => rfl) dX12_nextToken_228 ?_
        rw [← e119]
        refine G_goto (tgt := 168) dX12_nextToken_231 (by decide) ?_
        exact G_pick [0] rfl (h o118)
  · intro v1 s1 σ h hv1 hs1 hO
    have h := h hv1 hs1 hO
    obtain ⟨σ49, e51⟩ : ∃ τ : Mem, τ = mset σ 74 9 s1 := ⟨_, rfl⟩
    have h := h σ49 e51
    have o50 : OKm σ49 := by rw [e51]; exact OKm.seti hO _ _ _ hs1 rfl
    refine G_put (k := 9) (ki := 9) (kd := (0, 0)) (x := _) pf_X12_113 rfl rfl rfl rfl (fa_i (mset_self _ _ _ _)) (fun _ => rfl) (fun _ => rfl) dX12_nextToken_247 ?_
    rw [← e51]
    refine G_aload_n 0 rfl rfl dX12_nextToken_250 ?_
    refine G_dup rfl dX12_nextToken_251 ?_
    refine G_get (k := 7) (kd := (0, 0)) (v := aI (σ49 74 7)) gf_X12_103 rfl rfl rfl rfl dX12_nextToken_252 ?_
    refine G_iconst dX12_nextToken_255 ?_
    refine G_iadd dX12_nextToken_256 ?_
    obtain ⟨c53, h⟩ := h
    obtain ⟨σ52, e55⟩ : ∃ τ : Mem, τ = mset σ49 74 7 ((σ49 74 7) + 1) := ⟨_, rfl⟩
    have h := h σ52 e55
    have o54 : OKm σ52 := by rw [e55]; exact OKm.seti o50 _ _ _ c53 rfl
    refine G_put (k := 7) (ki := 7) (kd := (0, 0)) (x := _) pf_X12_103 rfl rfl rfl rfl (fa_i (mset_self _ _ _ _)) (fun _ => rfl) (fun _ => rfl) dX12_nextToken_257 ?_
    rw [← e55]
    refine G_iload_n 1 rfl rfl dX12_nextToken_260 ?_
    refine G_bipush (by decide) dX12_nextToken_261 ?_
    refine G_icmp_eq hv1 (rL 60 rfl) dX12_nextToken_263 (tgt := 272) (by decide) (fun c56 => ?_) (fun c56 => ?_)
    · have h := h.1 c56
      refine G_aload_n 0 rfl rfl dX12_nextToken_272 ?_
      refine G_aload_n 0 rfl rfl dX12_nextToken_273 ?_
      refine G_get (k := 7) (kd := (0, 0)) (v := aI (σ52 74 7)) gf_X12_103 rfl rfl rfl rfl dX12_nextToken_274 ?_
      obtain ⟨c57, h⟩ := h
      refine G_callV (as := [_]) cf_X12_106 rfl rfl rfl (sp_X12_byteAt (d - 1) (by omega) _ o54 _ (OKm.i o54 74 7 rfl) c57) (by omega) rfl rfl (Nat.le_of_ble_eq_true rfl) dX12_nextToken_277 ?_
      rintro _ _ ⟨_, rfl, rfl, rfl⟩ o59 r58
      refine G_bipush (by decide) dX12_nextToken_280 ?_
      refine G_icmp_ne (r58 _ rfl) (rL 61 rfl) dX12_nextToken_282 (tgt := 310) (by decide) (fun c60 => ?_) (fun c60 => ?_)
      · have h := h.1 c60
        exact G_vret rfl dX12_nextToken_310 ⟨rfl, h⟩ o54
      · have h := h.2 c60
        refine G_aload_n 0 rfl rfl dX12_nextToken_285 ?_
        refine G_iload_n 1 rfl rfl dX12_nextToken_286 ?_
        refine G_bipush (by decide) dX12_nextToken_287 ?_
        refine G_icmp_ne hv1 (rL 60 rfl) dX12_nextToken_289 (tgt := 296) (by decide) (fun c61 => ?_) (fun c61 => ?_)
        · have h := h.1 c61
          refine G_iconst dX12_nextToken_296 ?_
          obtain ⟨σ62, e64⟩ : ∃ τ : Mem, τ = mset σ52 74 9 5 := ⟨_, rfl⟩
          have h := h σ62 e64
          have o63 : OKm σ62 := by rw [e64]; exact OKm.seti o54 _ _ _ (rL 5 rfl) rfl
          refine G_put (k := 9) (ki := 9) (kd := (0, 0)) (x := _) pf_X12_113 rfl rfl rfl rfl (fa_i (mset_self _ _ _ _)) (fun _ => rfl) (fun _ => rfl) dX12_nextToken_297 ?_
          rw [← e64]
          refine G_aload_n 0 rfl rfl dX12_nextToken_300 ?_
          refine G_dup rfl dX12_nextToken_301 ?_
          refine G_get (k := 7) (kd := (0, 0)) (v := aI (σ62 74 7)) gf_X12_103 rfl rfl rfl rfl dX12_nextToken_302 ?_
          refine G_iconst dX12_nextToken_305 ?_
          refine G_iadd dX12_nextToken_306 ?_
          obtain ⟨c66, h⟩ := h
          obtain ⟨σ65, e68⟩ : ∃ τ : Mem, τ = mset σ62 74 7 ((σ62 74 7) + 1) := ⟨_, rfl⟩
          have h := h σ65 e68
          have o67 : OKm σ65 := by rw [e68]; exact OKm.seti o63 _ _ _ c66 rfl
          refine G_put (k := 7) (ki := 7) (kd := (0, 0)) (x := _) pf_X12_103 rfl rfl rfl rfl (fa_i (mset_self _ _ _ _)) (fun _ => rfl) (fun _ => rfl) dX12_nextToken_307 ?_
          rw [← e68]
          exact G_vret rfl dX12_nextToken_310 ⟨rfl, h⟩ o67
        · have h := h.2 c61
          refine G_iconst dX12_nextToken_292 ?_
          refine G_goto (tgt := 297) dX12_nextToken_293 (by decide) ?_
          obtain ⟨σ69, e71⟩ : ∃ τ : Mem, τ = mset σ52 74 9 4 := ⟨_, rfl⟩
          have h := h σ69 e71
          have o70 : OKm σ69 := by rw [e71]; exact OKm.seti o54 _ _ _ (rL 4 rfl) rfl
          refine G_put (k := 9) (ki := 9) (kd := (0, 0)) (x := _) pf_X12_113 rfl rfl rfl rfl (fa_i (mset_self _ _ _ _)) (fun _ => rfl) (fun _ => rfl) dX12_nextToken_297 ?_
          rw [← e71]
          refine G_aload_n 0 rfl rfl dX12_nextToken_300 ?_
          refine G_dup rfl dX12_nextToken_301 ?_
          refine G_get (k := 7) (kd := (0, 0)) (v := aI (σ69 74 7)) gf_X12_103 rfl rfl rfl rfl dX12_nextToken_302 ?_
          refine G_iconst dX12_nextToken_305 ?_
          refine G_iadd dX12_nextToken_306 ?_
          obtain ⟨c73, h⟩ := h
          obtain ⟨σ72, e75⟩ : ∃ τ : Mem, τ = mset σ69 74 7 ((σ69 74 7) + 1) := ⟨_, rfl⟩
          have h := h σ72 e75
          have o74 : OKm σ72 := by rw [e75]; exact OKm.seti o70 _ _ _ c73 rfl
          refine G_put (k := 7) (ki := 7) (kd := (0, 0)) (x := _) pf_X12_103 rfl rfl rfl rfl (fa_i (mset_self _ _ _ _)) (fun _ => rfl) (fun _ => rfl) dX12_nextToken_307 ?_
          rw [← e75]
          exact G_vret rfl dX12_nextToken_310 ⟨rfl, h⟩ o74
    · have h := h.2 c56
      refine G_iload_n 1 rfl rfl dX12_nextToken_266 ?_
      refine G_bipush (by decide) dX12_nextToken_267 ?_
      refine G_icmp_ne hv1 (rL 62 rfl) dX12_nextToken_269 (tgt := 310) (by decide) (fun c76 => ?_) (fun c76 => ?_)
      · have h := h.1 c76
        exact G_vret rfl dX12_nextToken_310 ⟨rfl, h⟩ o54
      · have h := h.2 c76
        refine G_aload_n 0 rfl rfl dX12_nextToken_272 ?_
        refine G_aload_n 0 rfl rfl dX12_nextToken_273 ?_
        refine G_get (k := 7) (kd := (0, 0)) (v := aI (σ52 74 7)) gf_X12_103 rfl rfl rfl rfl dX12_nextToken_274 ?_
        obtain ⟨c77, h⟩ := h
        refine G_callV (as := [_]) cf_X12_106 rfl rfl rfl (sp_X12_byteAt (d - 1) (by omega) _ o54 _ (OKm.i o54 74 7 rfl) c77) (by omega) rfl rfl (Nat.le_of_ble_eq_true rfl) dX12_nextToken_277 ?_
        rintro _ _ ⟨_, rfl, rfl, rfl⟩ o79 r78
        refine G_bipush (by decide) dX12_nextToken_280 ?_
        refine G_icmp_ne (r78 _ rfl) (rL 61 rfl) dX12_nextToken_282 (tgt := 310) (by decide) (fun c80 => ?_) (fun c80 => ?_)
        · have h := h.1 c80
          exact G_vret rfl dX12_nextToken_310 ⟨rfl, h⟩ o54
        · have h := h.2 c80
          refine G_aload_n 0 rfl rfl dX12_nextToken_285 ?_
          refine G_iload_n 1 rfl rfl dX12_nextToken_286 ?_
          refine G_bipush (by decide) dX12_nextToken_287 ?_
          refine G_icmp_ne hv1 (rL 60 rfl) dX12_nextToken_289 (tgt := 296) (by decide) (fun c81 => ?_) (fun c81 => ?_)
          · have h := h.1 c81
            refine G_iconst dX12_nextToken_296 ?_
            obtain ⟨σ82, e84⟩ : ∃ τ : Mem, τ = mset σ52 74 9 5 := ⟨_, rfl⟩
            have h := h σ82 e84
            have o83 : OKm σ82 := by rw [e84]; exact OKm.seti o54 _ _ _ (rL 5 rfl) rfl
            refine G_put (k := 9) (ki := 9) (kd := (0, 0)) (x := _) pf_X12_113 rfl rfl rfl rfl (fa_i (mset_self _ _ _ _)) (fun _ => rfl) (fun _ => rfl) dX12_nextToken_297 ?_
            rw [← e84]
            refine G_aload_n 0 rfl rfl dX12_nextToken_300 ?_
            refine G_dup rfl dX12_nextToken_301 ?_
            refine G_get (k := 7) (kd := (0, 0)) (v := aI (σ82 74 7)) gf_X12_103 rfl rfl rfl rfl dX12_nextToken_302 ?_
            refine G_iconst dX12_nextToken_305 ?_
            refine G_iadd dX12_nextToken_306 ?_
            obtain ⟨c86, h⟩ := h
            obtain ⟨σ85, e88⟩ : ∃ τ : Mem, τ = mset σ82 74 7 ((σ82 74 7) + 1) := ⟨_, rfl⟩
            have h := h σ85 e88
            have o87 : OKm σ85 := by rw [e88]; exact OKm.seti o83 _ _ _ c86 rfl
            refine G_put (k := 7) (ki := 7) (kd := (0, 0)) (x := _) pf_X12_103 rfl rfl rfl rfl (fa_i (mset_self _ _ _ _)) (fun _ => rfl) (fun _ => rfl) dX12_nextToken_307 ?_
            rw [← e88]
            exact G_vret rfl dX12_nextToken_310 ⟨rfl, h⟩ o87
          · have h := h.2 c81
            refine G_iconst dX12_nextToken_292 ?_
            refine G_goto (tgt := 297) dX12_nextToken_293 (by decide) ?_
            obtain ⟨σ89, e91⟩ : ∃ τ : Mem, τ = mset σ52 74 9 4 := ⟨_, rfl⟩
            have h := h σ89 e91
            have o90 : OKm σ89 := by rw [e91]; exact OKm.seti o54 _ _ _ (rL 4 rfl) rfl
            refine G_put (k := 9) (ki := 9) (kd := (0, 0)) (x := _) pf_X12_113 rfl rfl rfl rfl (fa_i (mset_self _ _ _ _)) (fun _ => rfl) (fun _ => rfl) dX12_nextToken_297 ?_
            rw [← e91]
            refine G_aload_n 0 rfl rfl dX12_nextToken_300 ?_
            refine G_dup rfl dX12_nextToken_301 ?_
            refine G_get (k := 7) (kd := (0, 0)) (v := aI (σ89 74 7)) gf_X12_103 rfl rfl rfl rfl dX12_nextToken_302 ?_
            refine G_iconst dX12_nextToken_305 ?_
            refine G_iadd dX12_nextToken_306 ?_
            obtain ⟨c93, h⟩ := h
            obtain ⟨σ92, e95⟩ : ∃ τ : Mem, τ = mset σ89 74 7 ((σ89 74 7) + 1) := ⟨_, rfl⟩
            have h := h σ92 e95
            have o94 : OKm σ92 := by rw [e95]; exact OKm.seti o90 _ _ _ c93 rfl
            refine G_put (k := 7) (ki := 7) (kd := (0, 0)) (x := _) pf_X12_103 rfl rfl rfl rfl (fa_i (mset_self _ _ _ _)) (fun _ => rfl) (fun _ => rfl) dX12_nextToken_307 ?_
            rw [← e95]
            exact G_vret rfl dX12_nextToken_310 ⟨rfl, h⟩ o94

theorem sp_X12_nextToken (d : Nat) (hd : 1 ≤ d) (σ : Mem) (hO : OKm σ) (b : Int → Int) (N : Int) (hpre : isTp b N ∧ σ 74 4 = N ∧ (0 ≤ σ 74 7 ∧ σ 74 7 ≤ N) ∧ (∀ i : Int, 0 ≤ i → i < N → σ 78 i = b i)) : Mt yX12_nextToken cX12_nextToken 2 none d [aR (74)] σ (QV (fun σ' => σ' 74 8 = skN b N (σ 74 7) ∧ σ' 74 7 = psM b N (skN b N (σ 74 7)) ∧ σ' 74 9 = tokM b (skN b N (σ 74 7)) ∧ (tokM b (skN b N (σ 74 7)) = 1 → σ' 74 10 = nmM b N (skN b N (σ 74 7))) ∧ (tokM b (skN b N (σ 74 7)) = 2 → σ' 74 11 = mwM b N (skN b N (σ 74 7))) ∧ (∀ j : Int, j ≠ 7 → j ≠ 8 → j ≠ 9 → j ≠ 10 → j ≠ 11 → σ' 74 j = σ 74 j) ∧ Fr [74] σ σ')) := mt_X12_nextToken hd  hO (by
  unfold wp_X12_nextToken
  intro P0 P85 P168 P247 h0 h85 h168 h247
  obtain ⟨hB, hN, hat, h78⟩ := hpre
  have hN0 := hB.1
  have J4 : ∀ τ : Mem, (∀ j : Int, j ≠ 7 → j ≠ 8 → j ≠ 9 → j ≠ 10 → j ≠ 11 → τ 74 j = σ 74 j) → τ 74 4 = N := fun τ h => by rw [h 4 (by omega) (by omega) (by omega) (by omega) (by omega)]; exact hN
  have hby : ∀ τ : Mem, (∀ j : Int, j ≠ 7 → j ≠ 8 → j ≠ 9 → j ≠ 10 → j ≠ 11 → τ 74 j = σ 74 j) → Fr [74] σ τ → ∀ i : Int, 0 ≤ i → (if i < τ 74 4 then τ 78 i else -1) = b i := fun τ h hF i hi => by
    rw [J4 τ h]
    by_cases e : i < N
    · rw [if_pos e, hF 78 (by simp)]; exact h78 i hi e
    · rw [if_neg e, hB.2.2 i (by omega)]
  generalize hs : skN b N (σ 74 7) = s at *
  have hsr : σ 74 7 ≤ s ∧ s ≤ N := by rw [← hs]; exact spn_N hat.2
  have Hsign : ∀ (s1 : Int) (τ : Mem), 0 ≤ b s → fig (b s) = false → ltr (b s) = false → s1 = (if sgn (b s) = true then b s else 3) → τ 74 7 = s → τ 74 8 = s → (∀ j : Int, j ≠ 7 → j ≠ 8 → j ≠ 9 → j ≠ 10 → j ≠ 11 → τ 74 j = σ 74 j) → Fr [74] σ τ → P247 (b s) s1 τ := by
    intro s1 τ hbs hf hl e1 h7 h8 hj hF
    refine h247 _ _ _ (fun _ _ _ σ49 e49 => ?_)
    have a7 : σ49 74 7 = s := by rw [e49, mset_miss (by omega)]; exact h7
    rw [a7]
    refine ⟨by unfold R32; omega, fun σ52 e52 => ?_⟩
    have c7 : σ52 74 7 = s + 1 := by rw [e52, mset_hit rfl]
    have c8 : σ52 74 8 = s := by rw [e52, mset_miss (by omega), e49, mset_miss (by omega)]; exact h8
    have c9 : σ52 74 9 = s1 := by rw [e52, mset_miss (by omega), e49, mset_hit rfl]
    have cj : ∀ j : Int, j ≠ 7 → j ≠ 8 → j ≠ 9 → j ≠ 10 → j ≠ 11 → σ52 74 j = σ 74 j := fun j a1 a2 a3 a4 a5 => by rw [e52, mset_miss a1, e49, mset_miss a3]; exact hj j a1 a2 a3 a4 a5
    have cF : Fr [74] σ σ52 := by rw [e52, e49]; exact (hF.set (by simp)).set (by simp)
    have hb1 := hby σ52 cj cF (s + 1) (by omega)
    have c4 := J4 σ52 cj
    rw [c7, hb1]
    have tk : ∀ two : Bool, two2 b s = two → tokM b s = (if two = true then (if b s = 60 then 4 else 5) else s1) ∧ psM b N s = (if two = true then s + 2 else s + 1) := fun two e => by
      unfold tokM psM
      have hn : ¬ b s < 0 := by omega
      rw [if_neg hn, if_neg hn, hf, hl, e, e1]
      simp
    have one : two2 b s = false → σ52 74 8 = s ∧ σ52 74 7 = psM b N s ∧ σ52 74 9 = tokM b s ∧ (tokM b s = 1 → σ52 74 10 = nmM b N s) ∧ (tokM b s = 2 → σ52 74 11 = mwM b N s) ∧ (∀ j : Int, j ≠ 7 → j ≠ 8 → j ≠ 9 → j ≠ 10 → j ≠ 11 → σ52 74 j = σ 74 j) ∧ Fr [74] σ σ52 := fun e => by
      have t := tk false e
      simp at t
      have hs1 : s1 ≠ 1 ∧ s1 ≠ 2 := by
        rw [e1]
        by_cases q : sgn (b s) = true
        · rw [if_pos q]; unfold sgn at q; rw [decide_eq_true_eq] at q; omega
        · rw [if_neg q]; omega
      exact ⟨c8, by rw [c7, t.2], by rw [c9, t.1], fun q => by omega, fun q => by omega, cj, cF⟩
    have dbl : two2 b s = true → ∀ (v : Int) (σ62 σ65 : Mem), v = (if b s = 60 then 4 else 5) → σ62 = mset σ52 74 9 v → σ65 = mset σ62 74 7 (s + 1 + 1) → σ65 74 8 = s ∧ σ65 74 7 = psM b N s ∧ σ65 74 9 = tokM b s ∧ (tokM b s = 1 → σ65 74 10 = nmM b N s) ∧ (tokM b s = 2 → σ65 74 11 = mwM b N s) ∧ (∀ j : Int, j ≠ 7 → j ≠ 8 → j ≠ 9 → j ≠ 10 → j ≠ 11 → σ65 74 j = σ 74 j) ∧ Fr [74] σ σ65 := fun e v σ62 σ65 ev e62 e65 => by
      have t := tk true e
      simp at t
      have hv : tokM b s ≠ 1 ∧ tokM b s ≠ 2 := by rw [t.1]; split <;> omega
      refine ⟨?_, ?_, ?_, fun q => absurd q hv.1, fun q => absurd q hv.2, fun j a1 a2 a3 a4 a5 => ?_, by rw [e65, e62]; exact (cF.set (by simp)).set (by simp)⟩
      · rw [e65, mset_miss (by omega), e62, mset_miss (by omega)]; exact c8
      · rw [e65, mset_hit rfl, t.2]; omega
      · rw [e65, mset_miss (by omega), e62, mset_hit rfl, t.1, ev]
      · rw [e65, mset_miss a1, e62, mset_miss a3]; exact cj j a1 a2 a3 a4 a5
    have d7 : ∀ v : Int, ∀ σ62 : Mem, σ62 = mset σ52 74 9 v → σ62 74 7 = s + 1 := fun v σ62 e => by rw [e, mset_miss (by omega)]; exact c7
    refine ⟨fun h60 => ⟨⟨by omega, by omega⟩, fun hne => one (decide_eq_false (fun q => hne q.2)), fun he => ⟨fun q => absurd h60 q, fun _ σ69 e69 => ?_⟩⟩, fun h60 => ⟨fun h62 => one (decide_eq_false (fun q => by omega)), fun h62 => ⟨⟨by omega, by omega⟩, fun hne => one (decide_eq_false (fun q => hne q.2)), fun he => ⟨fun _ σ82 e82 => ?_, fun q => absurd q h60⟩⟩⟩⟩
    · rw [d7 _ _ e69]
      exact ⟨by unfold R32; omega, fun σ72 e72 => dbl (decide_eq_true ⟨.inl h60, he⟩) 4 σ69 σ72 (by rw [if_pos h60]) e69 e72⟩
    · rw [d7 _ _ e82]
      exact ⟨by unfold R32; omega, fun σ85 e85 => dbl (decide_eq_true ⟨.inr h62, he⟩) 5 σ82 σ85 (by rw [if_neg h60]) e82 e85⟩
  have H85 : fig (b s) = true → ∀ (n : Nat) (j : Int) (τ : Mem), j + n = N → s ≤ j → τ 74 7 = j → τ 74 8 = s → τ 74 9 = 1 → (0 ≤ τ 74 10 ∧ τ 74 10 ≤ 999999) → spn fig b n j = psM b N s → nmF b n j (τ 74 10) = nmM b N s → (∀ j : Int, j ≠ 7 → j ≠ 8 → j ≠ 9 → j ≠ 10 → j ≠ 11 → τ 74 j = σ 74 j) → Fr [74] σ τ → P85 τ := by
    intro hf n
    have htok : tokM b s = 1 := by
      unfold tokM
      have : ¬ b s < 0 := by unfold fig at hf; rw [decide_eq_true_eq] at hf; omega
      rw [if_neg this, if_pos hf]
    induction n with
    | zero =>
      intro j τ hk hsj h7 h8 h9 h10 hps hnm hj hF
      refine h85 _ (fun _ => ?_)
      have hbj : b j = -1 := hB.2.2 j (by omega)
      rw [h7, hby τ hj hF j (by omega), hbj, J4 τ hj]
      refine ⟨by omega, fun _ => ⟨h8, by rw [← hps]; exact h7, by rw [htok]; exact h9, fun _ => by rw [← hnm]; rfl, fun q => by omega, hj, hF⟩, fun q => absurd q (by omega)⟩
    | succ n ih =>
      intro j τ hk hsj h7 h8 h9 h10 hps hnm hj hF
      refine h85 _ (fun _ => ?_)
      rw [h7, hby τ hj hF j (by omega), J4 τ hj]
      refine ⟨by omega, fun hno => ?_, fun hyes => ?_⟩
      · have hfj : fig (b j) = false := decide_eq_false hno
        refine ⟨h8, ?_, by rw [htok]; exact h9, fun _ => ?_, fun q => by omega, hj, hF⟩
        · rw [← hps, h7]; show j = if fig (b j) = true then _ else _; rw [hfj]; rfl
        · rw [← hnm]; show τ 74 10 = if fig (b j) = true then _ else _; rw [hfj]; rfl
      · have hfj : fig (b j) = true := decide_eq_true hyes
        have hps2 : spn fig b n (j + 1) = psM b N s := by rw [← hps]; show _ = if fig (b j) = true then _ else _; rw [if_pos hfj]
        have hnm2 : nmF b n (j + 1) (if 99999 < τ 74 10 then τ 74 10 else 10 * τ 74 10 + b j - 48) = nmM b N s := by rw [← hnm]; show _ = if fig (b j) = true then _ else _; rw [if_pos hfj]
        have go : ∀ (v : Int) (ρ ρ' : Mem), v = (if 99999 < τ 74 10 then τ 74 10 else 10 * τ 74 10 + b j - 48) → (0 ≤ v ∧ v ≤ 999999) → ρ = mset τ 74 10 v → ρ 74 7 = j ∧ (ρ' = mset ρ 74 7 (j + 1) → P85 ρ') := fun v ρ ρ' ev hv e => by
          refine ⟨by rw [e, mset_miss (by omega)]; exact h7, fun e' => ?_⟩
          have r10 : ρ' 74 10 = v := by rw [e', mset_miss (by omega), e, mset_hit rfl]
          refine ih (j + 1) ρ' (by omega) (by omega) (by rw [e', mset_hit rfl]) (by rw [e', mset_miss (by omega), e, mset_miss (by omega)]; exact h8) (by rw [e', mset_miss (by omega), e, mset_miss (by omega)]; exact h9) (by rw [r10]; exact hv) hps2 (by rw [r10, ev]; exact hnm2) (fun i a1 a2 a3 a4 a5 => by rw [e', mset_miss a1, e, mset_miss a4]; exact hj i a1 a2 a3 a4 a5) (by rw [e', e]; exact (hF.set (by simp)).set (by simp))
        refine ⟨fun hle => ⟨by omega, by unfold R32; omega, fun σ130 e130 => ?_⟩, fun hgt σ138 e138 => ?_⟩
        · have g := fun ρ' => go _ σ130 ρ' (by rw [if_neg (by omega)]) (by omega) e130
          rw [(g σ130).1]
          exact ⟨by unfold R32; omega, fun σ134 e134 => (g σ134).2 e134⟩
        · have g := fun ρ' => go _ σ138 ρ' (by rw [if_pos (by omega)]) (by omega) e138
          rw [(g σ138).1]
          exact ⟨by unfold R32; omega, fun σ141 e141 => (g σ141).2 e141⟩
  have H168 : fig (b s) = false → ltr (b s) = true → ∀ (n : Nat) (j : Int) (τ : Mem), j + n = N → s ≤ j → τ 74 7 = j → τ 74 8 = s → τ 74 9 = 2 → (0 ≤ τ 74 11 ∧ τ 74 11 ≤ 1152921504606846976) → spn ltr b n j = psM b N s → mwF b n j (τ 74 11) = mwM b N s → (∀ j : Int, j ≠ 7 → j ≠ 8 → j ≠ 9 → j ≠ 10 → j ≠ 11 → τ 74 j = σ 74 j) → Fr [74] σ τ → P168 τ := by
    intro hnf hf n
    have htok : tokM b s = 2 := by
      unfold tokM
      have : ¬ b s < 0 := by unfold ltr at hf; rw [decide_eq_true_eq] at hf; omega
      rw [if_neg this, hnf, if_pos hf]; rfl
    induction n with
    | zero =>
      intro j τ hk hsj h7 h8 h9 h10 hps hnm hj hF
      refine h168 _ (fun _ => ?_)
      have hbj : b j = -1 := hB.2.2 j (by omega)
      rw [h7, hby τ hj hF j (by omega), hbj, J4 τ hj]
      refine ⟨by omega, fun _ => ⟨h8, by rw [← hps]; exact h7, by rw [htok]; exact h9, fun q => by omega, fun _ => by rw [← hnm]; rfl, hj, hF⟩, fun q => absurd q (by omega)⟩
    | succ n ih =>
      intro j τ hk hsj h7 h8 h9 h10 hps hnm hj hF
      have hbr := hB.2.1 j (by omega) (by omega)
      refine h168 _ (fun _ => ?_)
      rw [h7, hby τ hj hF j (by omega), J4 τ hj]
      refine ⟨by omega, fun hno => ?_, fun hyes => ?_⟩
      · have hfj : ltr (b j) = false := decide_eq_false hno
        refine ⟨h8, ?_, by rw [htok]; exact h9, fun q => by omega, fun _ => ?_, hj, hF⟩
        · rw [← hps, h7]; show j = if ltr (b j) = true then _ else _; rw [hfj]; rfl
        · rw [← hnm]; show τ 74 11 = if ltr (b j) = true then _ else _; rw [hfj]; rfl
      · have hfj : ltr (b j) = true := decide_eq_true hyes
        have hps2 : spn ltr b n (j + 1) = psM b N s := by rw [← hps]; show _ = if ltr (b j) = true then _ else _; rw [if_pos hfj]
        have hnm2 : mwF b n (j + 1) (if τ 74 11 < 281474976710656 then τ 74 11 * 256 + b j else 1152921504606846976) = mwM b N s := by rw [← hnm]; show _ = if ltr (b j) = true then _ else _; rw [if_pos hfj]
        have go : ∀ (v : Int) (ρ ρ' : Mem), v = (if τ 74 11 < 281474976710656 then τ 74 11 * 256 + b j else 1152921504606846976) → (0 ≤ v ∧ v ≤ 1152921504606846976) → ρ = mset τ 74 11 v → ρ 74 7 = j ∧ (ρ' = mset ρ 74 7 (j + 1) → P168 ρ') := fun v ρ ρ' ev hv e => by
          refine ⟨by rw [e, mset_miss (by omega)]; exact h7, fun e' => ?_⟩
          have r10 : ρ' 74 11 = v := by rw [e', mset_miss (by omega), e, mset_hit rfl]
          refine ih (j + 1) ρ' (by omega) (by omega) (by rw [e', mset_hit rfl]) (by rw [e', mset_miss (by omega), e, mset_miss (by omega)]; exact h8) (by rw [e', mset_miss (by omega), e, mset_miss (by omega)]; exact h9) (by rw [r10]; exact hv) hps2 (by rw [r10, ev]; exact hnm2) (fun i a1 a2 a3 a4 a5 => by rw [e', mset_miss a1, e, mset_miss a5]; exact hj i a1 a2 a3 a4 a5) (by rw [e', e]; exact (hF.set (by simp)).set (by simp))
        have ht := lTop h10.1 (x := τ 74 11) (by omega)
        refine ⟨fun hle => ⟨by omega, fun σ106 e106 => ?_⟩, fun hgt σ113 e113 => ?_⟩
        · have hl := ht.mp hle
          rw [lPack h10.1 (by omega) (by omega)] at e106
          have g := fun ρ' => go _ σ106 ρ' (by rw [if_pos hl]) (by omega) e106
          rw [(g σ106).1]
          exact ⟨by unfold R32; omega, fun σ109 e109 => (g σ109).2 e109⟩
        · have hl : ¬ τ 74 11 < 281474976710656 := fun q => hgt (ht.mpr q)
          have g := fun ρ' => go _ σ113 ρ' (by rw [if_neg hl]) (by omega) e113
          rw [(g σ113).1]
          exact ⟨by unfold R32; omega, fun σ116 e116 => (g σ116).2 e116⟩
  have stop : ∀ (τ : Mem), τ 74 7 = s → b s ≠ 32 → b s ≠ 10 → (∀ j : Int, j ≠ 7 → j ≠ 8 → j ≠ 9 → j ≠ 10 → j ≠ 11 → τ 74 j = σ 74 j) → Fr [74] σ τ → P0 τ := by
    intro τ h7 hn1 hn2 hj hF
    refine h0 _ (fun _ => ?_)
    rw [h7, hby τ hj hF s (by omega), J4 τ hj]
    refine ⟨by omega, fun q => absurd q hn1, fun _ => ⟨by omega, fun _ σ13 e13 => ?_, fun q => absurd q hn2⟩⟩
    have c7 : σ13 74 7 = s := by rw [e13, mset_miss (by omega)]; exact h7
    have c8 : σ13 74 8 = s := by rw [e13, mset_hit rfl]
    have cj : ∀ j : Int, j ≠ 7 → j ≠ 8 → j ≠ 9 → j ≠ 10 → j ≠ 11 → σ13 74 j = σ 74 j := fun j a1 a2 a3 a4 a5 => by rw [e13, mset_miss a2]; exact hj j a1 a2 a3 a4 a5
    have cF : Fr [74] σ σ13 := by rw [e13]; exact hF.set (by simp)
    rw [c7, hby σ13 cj cF s (by omega), J4 σ13 cj]
    refine ⟨by omega, fun y19 e19 => ?_⟩
    rw [e19]
    refine ⟨fun hge => ⟨fun hnf => ⟨fun hnl => ⟨fun hns => ?_, fun hys => ?_⟩, fun hyl σ30 e30 σ33 e33 => ?_⟩, fun hyf σ36 e36 σ39 e39 => ?_⟩, fun hlt σ42 e42 => ?_⟩
    · exact Hsign 3 σ13 hge (decide_eq_false hnf) (decide_eq_false hnl) (by unfold sgn; rw [decide_eq_false hns]; rfl) c7 c8 cj cF
    · exact Hsign (b s) σ13 hge (decide_eq_false hnf) (decide_eq_false hnl) (by unfold sgn; rw [decide_eq_true hys]; rfl) c7 c8 cj cF
    · have hl : ltr (b s) = true := decide_eq_true hyl
      have hf : fig (b s) = false := decide_eq_false hnf
      have e11 : σ33 74 11 = 0 := by rw [e33, mset_hit rfl]
      refine H168 hf hl (N - s).toNat s σ33 (by omega) (Int.le_refl _) (by rw [e33, mset_miss (by omega), e30, mset_miss (by omega)]; exact c7) (by rw [e33, mset_miss (by omega), e30, mset_miss (by omega)]; exact c8) (by rw [e33, mset_miss (by omega), e30, mset_hit rfl]) (by rw [e11]; omega) ?_ (by rw [e11]; rfl) (fun j a1 a2 a3 a4 a5 => by rw [e33, mset_miss a5, e30, mset_miss a3]; exact cj j a1 a2 a3 a4 a5) (by rw [e33, e30]; exact (cF.set (by simp)).set (by simp))
      unfold psM; rw [if_neg (by omega), hf, if_pos hl]; rfl
    · have hf : fig (b s) = true := decide_eq_true hyf
      have e10 : σ39 74 10 = 0 := by rw [e39, mset_hit rfl]
      refine H85 hf (N - s).toNat s σ39 (by omega) (Int.le_refl _) (by rw [e39, mset_miss (by omega), e36, mset_miss (by omega)]; exact c7) (by rw [e39, mset_miss (by omega), e36, mset_miss (by omega)]; exact c8) (by rw [e39, mset_miss (by omega), e36, mset_hit rfl]) (by rw [e10]; omega) ?_ (by rw [e10]; rfl) (fun j a1 a2 a3 a4 a5 => by rw [e39, mset_miss a4, e36, mset_miss a3]; exact cj j a1 a2 a3 a4 a5) (by rw [e39, e36]; exact (cF.set (by simp)).set (by simp))
      unfold psM; rw [if_neg (by omega), if_pos hf]
    · have ht : tokM b s = 0 := by unfold tokM; rw [if_pos hlt]
      refine ⟨by rw [e42, mset_miss (by omega)]; exact c8, ?_, by rw [e42, mset_hit rfl, ht], fun q => by omega, fun q => by omega, fun j a1 a2 a3 a4 a5 => by rw [e42, mset_miss a3]; exact cj j a1 a2 a3 a4 a5, by rw [e42]; exact cF.set (by simp)⟩
      rw [e42, mset_miss (by omega), c7]; unfold psM; rw [if_pos hlt]
  have H0 : ∀ (n : Nat) (j : Int) (τ : Mem), j + n = N → 0 ≤ j → τ 74 7 = j → spn blk b n j = s → (∀ j : Int, j ≠ 7 → j ≠ 8 → j ≠ 9 → j ≠ 10 → j ≠ 11 → τ 74 j = σ 74 j) → Fr [74] σ τ → P0 τ := by
    intro n
    induction n with
    | zero =>
      intro j τ hk hj0 h7 hsp hj hF
      have hbj : b j = -1 := hB.2.2 j (by omega)
      have : j = s := hsp
      subst this
      exact stop τ h7 (by omega) (by omega) hj hF
    | succ n ih =>
      intro j τ hk hj0 h7 hsp hj hF
      by_cases hbl : blk (b j) = true
      · have hsp2 : spn blk b n (j + 1) = s := by rw [← hsp]; show _ = if blk (b j) = true then _ else _; rw [if_pos hbl]
        have go : ∀ ρ : Mem, ρ = mset τ 74 7 (j + 1) → P0 ρ := fun ρ e => ih (j + 1) ρ (by omega) (by omega) (by rw [e, mset_hit rfl]) hsp2 (fun i a1 a2 a3 a4 a5 => by rw [e, mset_miss a1]; exact hj i a1 a2 a3 a4 a5) (by rw [e]; exact hF.set (by simp))
        unfold blk at hbl
        rw [decide_eq_true_eq] at hbl
        refine h0 _ (fun _ => ?_)
        rw [h7, hby τ hj hF j hj0, J4 τ hj]
        exact ⟨by omega, fun _ => ⟨by unfold R32; omega, fun σ5 e5 => go σ5 e5⟩, fun h32 => ⟨by omega, fun h10 => absurd hbl (by omega), fun _ => ⟨by unfold R32; omega, fun σ45 e45 => go σ45 e45⟩⟩⟩
      · have : j = s := by rw [← hsp]; show _ = if blk (b j) = true then _ else _; rw [if_neg hbl]
        subst this
        unfold blk at hbl
        rw [decide_eq_true_eq] at hbl
        exact stop τ h7 (fun q => hbl (.inl q)) (fun q => hbl (.inr q)) hj hF
  exact H0 (N - σ 74 7).toNat (σ 74 7) σ (by omega) hat.1 rfl hs (fun j _ _ _ _ _ => rfl) (Fr.rf _ _))
