/-! GOING ANYWHERE: what part of the whole is at each TOWN -/
def spr (A : Mem) (t s : Int) : Nat → (Int → Int) → Int → Int
  | 0, d => d
  | k + 1, d => if netR A t (k : Int) = true then fup (spr A t s k d) (acrS A (k : Int) t) (spr A t s k d (acrS A (k : Int) t) + s) else spr A t s k d
def twn (A : Mem) (M : Int) (c : Int → Int) (t : Int) (d : Int → Int) : Int → Int :=
  if degS A t = 0 then fup d t (d t + c t * M) else spr A t (c t * (M / degS A t)) (A 10 0).toNat d
def wkN (A : Mem) (M : Int) (c : Int → Int) : Nat → Int → Int
  | 0 => fun _ => 0
  | n + 1 => twn A M c (n : Int) (wkN A M c n)
def itr (A : Mem) (M t0 : Int) : Nat → Int → Int
  | 0 => fun t => if t = t0 then 1 else 0
  | n + 1 => wkN A M (itr A M t0 n) 8
def sm8 (f : Int → Int) : Int := f 0 + f 1 + f 2 + f 3 + f 4 + f 5 + f 6 + f 7
def dvA (A : Mem) (M : Int) : Prop := ∀ t : Int, degS A t = 0 ∨ degS A t ∣ M
theorem i07 {u : Int} (h : 0 ≤ u ∧ u ≤ 7) : u = 0 ∨ u = 1 ∨ u = 2 ∨ u = 3 ∨ u = 4 ∨ u = 5 ∨ u = 6 ∨ u = 7 := by omega
theorem sm8_fup {d : Int → Int} {u v : Int} (h : 0 ≤ u ∧ u ≤ 7) : sm8 (fup d u v) = sm8 d + v - d u := by
  unfold sm8 fup
  rcases i07 h with rfl | rfl | rfl | rfl | rfl | rfl | rfl | rfl <;> simp <;> omega
theorem le_sm8 {d : Int → Int} (hd : ∀ u, 0 ≤ d u) {u : Int} (h : 0 ≤ u ∧ u ≤ 7) : d u ≤ sm8 d := by
  have h0 := hd 0; have h1 := hd 1; have h2 := hd 2; have h3 := hd 3; have h4 := hd 4; have h5 := hd 5; have h6 := hd 6; have h7 := hd 7
  unfold sm8
  rcases i07 h with rfl | rfl | rfl | rfl | rfl | rfl | rfl | rfl <;> omega
theorem fup_nn {d : Int → Int} {u v : Int} (hd : ∀ u, 0 ≤ d u) (hv : 0 ≤ v) (w : Int) : 0 ≤ fup d u v w := by unfold fup; split; exact hv; exact hd w
theorem spr_nn {A : Mem} {t s : Int} {d : Int → Int} (hs : 0 ≤ s) (hd : ∀ u, 0 ≤ d u) : ∀ (k : Nat) (u : Int), 0 ≤ spr A t s k d u
  | 0, u => hd u
  | k + 1, u => by
    have ih := spr_nn (A := A) (t := t) hs hd k
    unfold spr; split
    · exact fup_nn ih (by have := ih (acrS A (k : Int) t); omega) u
    · exact ih u
theorem spr_sum {A : Mem} {t s : Int} {d : Int → Int} (hI : InvA A) : ∀ k : Nat, (k : Int) ≤ A 10 0 → sm8 (spr A t s k d) = sm8 d + s * degN A t k
  | 0, _ => by show sm8 d = sm8 d + s * 0; omega
  | k + 1, h => by
    have ih := spr_sum (t := t) (s := s) (d := d) hI k (by omega)
    have ha := acrS_r (t := t) hI (r := (k : Int)) ⟨by omega, by omega⟩
    unfold spr degN
    by_cases e : netR A t (k : Int) = true
    · rw [if_pos e, if_pos e, sm8_fup ha, ih, Int.mul_add]; omega
    · rw [if_neg e, if_neg e, ih, Int.mul_add]; omega
theorem degN_mono {A : Mem} {t : Int} {k : Nat} : ∀ n : Nat, degN A t k ≤ degN A t (k + n)
  | 0 => Int.le_refl _
  | n + 1 => by have := degN_mono (A := A) (t := t) (k := k) n; show _ ≤ degN A t (k + n) + _; split <;> omega
theorem degN_le {A : Mem} {t : Int} {k : Nat} (h : (k : Int) ≤ A 10 0) : degN A t k ≤ degS A t := by
  have := degN_mono (A := A) (t := t) (k := k) ((A 10 0).toNat - k)
  rw [show k + ((A 10 0).toNat - k) = (A 10 0).toNat by omega] at this
  exact this
def sN (c : Int → Int) : Nat → Int
  | 0 => 0
  | n + 1 => sN c n + c (n : Int)
theorem sN_mono {c : Int → Int} (hc : ∀ t, 0 ≤ c t) {k : Nat} : ∀ n : Nat, sN c k ≤ sN c (k + n)
  | 0 => Int.le_refl _
  | n + 1 => by have := sN_mono hc (k := k) n; have := hc ((k + n : Nat) : Int); show _ ≤ sN c (k + n) + c ((k + n : Nat) : Int); omega
theorem sN_8 (c : Int → Int) : sN c 8 = sm8 c := by
  show 0 + c 0 + c 1 + c 2 + c 3 + c 4 + c 5 + c 6 + c 7 = _
  unfold sm8; omega
theorem twn_sum {A : Mem} {M : Int} {c d : Int → Int} {t : Int} (hI : InvA A) (hM : dvA A M) (ht : 0 ≤ t ∧ t ≤ 7) : sm8 (twn A M c t d) = sm8 d + c t * M := by
  have := hI.1
  unfold twn
  by_cases e : degS A t = 0
  · rw [if_pos e, sm8_fup ht]; omega
  · rw [if_neg e, spr_sum hI _ (by omega)]
    show _ + c t * (M / degS A t) * degS A t = _
    rw [Int.mul_assoc, Int.ediv_mul_cancel ((hM t).resolve_left e)]
theorem wkN_sum {A : Mem} {M : Int} {c : Int → Int} (hI : InvA A) (hM : dvA A M) : ∀ n : Nat, n ≤ 8 → sm8 (wkN A M c n) = sN c n * M
  | 0, _ => by show (0 : Int) + 0 + 0 + 0 + 0 + 0 + 0 + 0 = 0 * M; omega
  | n + 1, h => by
    show sm8 (twn A M c (n : Int) (wkN A M c n)) = (sN c n + c (n : Int)) * M
    rw [twn_sum hI hM (by omega), wkN_sum hI hM n (by omega), Int.add_mul]
theorem deg_nn (A : Mem) (t : Int) : 0 ≤ degS A t := (degN_r A t _).1
theorem shr_nn {A : Mem} {M : Int} {c : Int → Int} {t : Int} (hc : ∀ t, 0 ≤ c t) (h0 : 0 ≤ M) : 0 ≤ c t * (M / degS A t) := Int.mul_nonneg (hc t) (Int.ediv_nonneg h0 (deg_nn A t))
theorem wkN_nn {A : Mem} {M : Int} {c : Int → Int} (hc : ∀ t, 0 ≤ c t) (h0 : 0 ≤ M) : ∀ (n : Nat) (u : Int), 0 ≤ wkN A M c n u
  | 0, u => Int.le_refl _
  | n + 1, u => by
    have ih := wkN_nn (A := A) hc h0 n
    show 0 ≤ twn A M c (n : Int) (wkN A M c n) u
    unfold twn; split
    · exact fup_nn ih (by have := ih (n : Int); have := Int.mul_nonneg (hc (n : Int)) h0; omega) u
    · exact spr_nn (shr_nn hc h0) ih _ u
theorem wkN_le {A : Mem} {M : Int} {c : Int → Int} (hI : InvA A) (hM : dvA A M) (hc : ∀ t, 0 ≤ c t) (h0 : 0 ≤ M) {n : Nat} (hn : n ≤ 8) {u : Int} (hu : 0 ≤ u ∧ u ≤ 7) : wkN A M c n u ≤ sm8 c * M := by
  have h1 := le_sm8 (wkN_nn (A := A) hc h0 n) hu
  rw [wkN_sum hI hM n hn] at h1
  have h2 := sN_mono hc (k := n) (8 - n)
  rw [show n + (8 - n) = 8 by omega, sN_8] at h2
  exact Int.le_trans h1 (Int.mul_le_mul_of_nonneg_right h2 h0)
theorem spr_le {A : Mem} {M : Int} {c : Int → Int} (hI : InvA A) (hM : dvA A M) (hc : ∀ t, 0 ≤ c t) (h0 : 0 ≤ M) {n k : Nat} (hn : n < 8) (hk : (k : Int) ≤ A 10 0) (hd : degS A (n : Int) ≠ 0) {u : Int} (hu : 0 ≤ u ∧ u ≤ 7) : spr A (n : Int) (c (n : Int) * (M / degS A (n : Int))) k (wkN A M c n) u ≤ sm8 c * M := by
  have hs := shr_nn (A := A) (t := (n : Int)) hc h0
  have h1 := le_sm8 (spr_nn (A := A) (t := (n : Int)) hs (wkN_nn (A := A) hc h0 n) k) hu
  rw [spr_sum hI k hk, wkN_sum hI hM n (by omega)] at h1
  have h3 : c (n : Int) * (M / degS A (n : Int)) * degN A (n : Int) k ≤ c (n : Int) * (M / degS A (n : Int)) * degS A (n : Int) := Int.mul_le_mul_of_nonneg_left (degN_le hk) hs
  rw [Int.mul_assoc _ _ (degS A (n : Int)), Int.ediv_mul_cancel ((hM (n : Int)).resolve_left hd)] at h3
  have h2 := sN_mono hc (k := n + 1) (8 - (n + 1))
  rw [show n + 1 + (8 - (n + 1)) = 8 by omega, sN_8] at h2
  have h4 : (sN c n + c (n : Int)) * M ≤ sm8 c * M := Int.mul_le_mul_of_nonneg_right h2 h0
  rw [Int.add_mul] at h4
  omega
theorem itr_nn {A : Mem} {M t0 : Int} (h0 : 0 ≤ M) : ∀ (n : Nat) (u : Int), 0 ≤ itr A M t0 n u
  | 0, u => by show 0 ≤ if u = t0 then (1 : Int) else 0; split <;> omega
  | n + 1, u => wkN_nn (itr_nn h0 n) h0 8 u
theorem itr_sum {A : Mem} {M t0 : Int} (hI : InvA A) (hM : dvA A M) (ht : 0 ≤ t0 ∧ t0 ≤ 7) : ∀ n : Nat, sm8 (itr A M t0 n) = M ^ n
  | 0 => by
    unfold sm8 itr
    rcases i07 ht with rfl | rfl | rfl | rfl | rfl | rfl | rfl | rfl <;> simp
  | n + 1 => by
    show sm8 (wkN A M (itr A M t0 n) 8) = _
    rw [wkN_sum hI hM 8 (by omega), sN_8, itr_sum hI hM ht n, Int.pow_succ]
/-! the same in finer parts -/
theorem spr_sc {A : Mem} {t s a : Int} {d d' : Int → Int} (h : ∀ u, d' u = a * d u) : ∀ (k : Nat) (u : Int), spr A t (a * s) k d' u = a * spr A t s k d u
  | 0, u => h u
  | k + 1, u => by
    have ih := spr_sc (A := A) (t := t) (s := s) h k
    unfold spr
    by_cases e : netR A t (k : Int) = true
    · rw [if_pos e, if_pos e]
      unfold fup
      split
      · rw [ih, Int.mul_add]
      · exact ih u
    · rw [if_neg e, if_neg e]; exact ih u
theorem wkN_sc {A : Mem} {M a b : Int} {c c' : Int → Int} (hM : dvA A M) (h : ∀ u, c' u = a * c u) : ∀ (n : Nat) (u : Int), wkN A (b * M) c' n u = (a * b) * wkN A M c n u
  | 0, u => by show (0 : Int) = a * b * 0; omega
  | n + 1, u => by
    have ih := wkN_sc (b := b) hM h n
    show twn A (b * M) c' (n : Int) (wkN A (b * M) c' n) u = a * b * twn A M c (n : Int) (wkN A M c n) u
    unfold twn
    by_cases e : degS A (n : Int) = 0
    · rw [if_pos e, if_pos e]
      unfold fup
      split
      · rw [ih, h, Int.mul_add]; congr 1
        simp only [Int.mul_comm, Int.mul_left_comm, Int.mul_assoc]
      · exact ih u
    · rw [if_neg e, if_neg e]
      have e2 : c' (n : Int) * (b * M / degS A (n : Int)) = (a * b) * (c (n : Int) * (M / degS A (n : Int))) := by
        rw [h, Int.mul_ediv_assoc _ ((hM (n : Int)).resolve_left e)]
        simp only [Int.mul_comm, Int.mul_left_comm, Int.mul_assoc]
      rw [e2]
      exact spr_sc ih _ u
theorem itr_sc {A : Mem} {M b t0 : Int} (hM : dvA A M) : ∀ (n : Nat) (u : Int), itr A (b * M) t0 n u = b ^ n * itr A M t0 n u
  | 0, u => by rw [Int.pow_zero, Int.one_mul]; rfl
  | n + 1, u => by
    show wkN A (b * M) (itr A (b * M) t0 n) 8 u = b ^ (n + 1) * wkN A M (itr A M t0 n) 8 u
    rw [wkN_sc hM (itr_sc hM n) 8 u, Int.pow_succ]
def likS (A : Mem) (t0 n to : Int) (low : Prop) [Decidable low] : Int := if (0 ≤ t0 ∧ t0 ≤ 7) ∧ (0 ≤ to ∧ to ≤ 7) ∧ (0 ≤ n ∧ n ≤ 3) then (if low then 720720 ^ n.toNat else itr A 720720 t0 n.toNat to) / gcdI (itr A 720720 t0 n.toNat to) (720720 ^ n.toNat) else -1
theorem gcdI_sc {q a b : Int} (hq : 0 ≤ q) (ha : 0 ≤ a) (hb : 0 ≤ b) : gcdI (q * a) (q * b) = q * gcdI a b := by
  unfold gcdI
  obtain ⟨q, rfl⟩ := Int.eq_ofNat_of_zero_le hq
  obtain ⟨a, rfl⟩ := Int.eq_ofNat_of_zero_le ha
  obtain ⟨b, rfl⟩ := Int.eq_ofNat_of_zero_le hb
  rw [← Int.natCast_mul, ← Int.natCast_mul, Int.toNat_natCast, Int.toNat_natCast, Int.toNat_natCast, Int.toNat_natCast, Nat.gcd_mul_left, Int.natCast_mul]
theorem gcdI_pos {a b : Int} (hb : 0 < b) : 0 < gcdI a b := by
  unfold gcdI
  have := Nat.gcd_pos_of_pos_right a.toNat (show 0 < b.toNat by omega)
  omega
theorem lik_sc {A : Mem} {M q t0 to : Int} {n : Nat} {low : Prop} [Decidable low] (hM : dvA A M) (hm : 0 < M) (hq : 0 < q) : (if low then (q * M) ^ n else itr A (q * M) t0 n to) / gcdI (itr A (q * M) t0 n to) ((q * M) ^ n) = (if low then M ^ n else itr A M t0 n to) / gcdI (itr A M t0 n to) (M ^ n) := by
  have hp : 0 < q ^ n := Int.pow_pos hq
  rw [itr_sc hM, Int.mul_pow, gcdI_sc (Int.le_of_lt hp) (itr_nn (Int.le_of_lt hm) n to) (Int.le_of_lt (Int.pow_pos hm))]
  split
  · rw [Int.mul_ediv_mul_of_pos _ _ hp]
  · rw [Int.mul_ediv_mul_of_pos _ _ hp]
