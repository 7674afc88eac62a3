/-! STEPS: what lies between a state and the row kept before it. -/
def prec (B A : Mem) : Prop := InvA B ∧ (B 10 0 ≤ A 10 0 ∧ B 10 1 ≤ A 10 1) ∧ (∀ r : Int, 0 ≤ r → r < B 10 0 → B 11 r = A 11 r ∧ B 12 r = A 12 r ∧ B 13 r = A 13 r ∧ B 14 r = A 14 r) ∧ (∀ g : Int, 0 ≤ g → g < B 10 1 → B 15 g = A 15 g ∧ B 16 g = A 16 g) ∧
  (∀ r : Int, B 10 0 ≤ r → r < A 10 0 → A 1 r = A 14 r) ∧ (∀ g : Int, B 10 1 ≤ g → g < A 10 1 → A 2 g = A 16 g ∧ A 3 g = 0)
def stI : Mem → List Mem → Prop
  | _, [] => True
  | A, B :: L => prec B A ∧ stI B L
theorem prec.told {B A A' : Mem} (h : prec B A) (h0 : A' 10 0 = A 10 0) (h1 : A' 10 1 = A 10 1) (hr : ∀ r : Int, 0 ≤ r → r < A 10 0 → A' 11 r = A 11 r ∧ A' 12 r = A 12 r ∧ A' 13 r = A 13 r ∧ A' 14 r = A 14 r ∧ A' 1 r = A 1 r) (hg : ∀ g : Int, 0 ≤ g → g < A 10 1 → A' 15 g = A 15 g ∧ A' 16 g = A 16 g ∧ A' 2 g = A 2 g ∧ A' 3 g = A 3 g) : prec B A' := by
  obtain ⟨p0, p1, p2, p3, p4, p5⟩ := h
  have b0 := p0.1
  refine ⟨p0, by rw [h0, h1]; exact p1, fun r a b => ?_, fun g a b => ?_, fun r a b => ?_, fun g a b => ?_⟩
  · have q := hr r a (by omega); rw [q.1, q.2.1, q.2.2.1, q.2.2.2.1]; exact p2 r a b
  · have q := hg g a (by omega); rw [q.1, q.2.1]; exact p3 g a b
  · rw [h0] at b; have q := hr r (by omega) b; rw [q.2.2.2.2, q.2.2.2.1]; exact p4 r a b
  · rw [h1] at b; have q := hg g (by omega) b; rw [q.2.2.1, q.2.1, q.2.2.2]; exact p5 g a b
theorem stI.told {A A' : Mem} {L : List Mem} (h : stI A L) (h0 : A' 10 0 = A 10 0) (h1 : A' 10 1 = A 10 1) (hr : ∀ r : Int, 0 ≤ r → r < A 10 0 → A' 11 r = A 11 r ∧ A' 12 r = A 12 r ∧ A' 13 r = A 13 r ∧ A' 14 r = A 14 r ∧ A' 1 r = A 1 r) (hg : ∀ g : Int, 0 ≤ g → g < A 10 1 → A' 15 g = A 15 g ∧ A' 16 g = A 16 g ∧ A' 2 g = A 2 g ∧ A' 3 g = A 3 g) : stI A' L := by
  cases L with
  | nil => trivial
  | cons B L => exact ⟨h.1.told h0 h1 hr hg, h.2⟩
theorem prec_same {A A' : Mem} (hI : InvA A) (h : ∀ q, 8 ≤ q → A' q = A q) : prec A A' := by
  refine ⟨hI, by rw [h 10 (by omega)]; omega, fun r _ _ => by rw [h 11 (by omega), h 12 (by omega), h 13 (by omega), h 14 (by omega)]; exact ⟨rfl, rfl, rfl, rfl⟩, fun g _ _ => by rw [h 15 (by omega), h 16 (by omega)]; exact ⟨rfl, rfl⟩, fun r a b => ?_, fun g a b => ?_⟩
  · rw [h 10 (by omega)] at b; omega
  · rw [h 10 (by omega)] at b; omega
theorem stI.take {A : Mem} {L : List Mem} (h : stI A L) (n : Nat) : stI A (L.take n) := by
  induction n generalizing A L with
  | zero => simp [stI]
  | succ n ih =>
    cases L with
    | nil => simp [stI]
    | cons B L => exact ⟨h.1, ih h.2⟩
theorem stI.push {A A' : Mem} {L : List Mem} (h : stI A L) (hI : InvA A) (ht : ∀ q, 8 ≤ q → A' q = A q) : stI A' (pushS A L) := by
  unfold pushS
  exact ⟨prec_same hI ht, h.take 29⟩
theorem stI.road {A : Mem} {L : List Mem} {a b n th : Int} (h : stI A L) (hI : InvA A) : stI (roadS A a b n th) L := by
  cases L with
  | nil => trivial
  | cons B L =>
    refine ⟨?_, h.2⟩
    obtain ⟨p0, p1, p2, p3, p4, p5⟩ := h.1
    have b0 := p0.1
    have a0 := hI.1
    unfold roadS
    refine ⟨p0, ?_, fun r x y => ?_, fun g x y => ?_, fun r x y => ?_, fun g x y => ?_⟩
    · simp (disch := omega) only [mset_off, mset_hit, mset_miss, mcpy_off, mcpy_hit, mcpy_miss, mrow_off, mrow_same]; omega
    · simp (disch := omega) only [mset_off, mset_hit, mset_miss, mcpy_off, mcpy_hit, mcpy_miss, mrow_off, mrow_same]; exact p2 r x y
    · simp (disch := omega) only [mset_off, mset_hit, mset_miss, mcpy_off, mcpy_hit, mcpy_miss, mrow_off, mrow_same]; exact p3 g x y
    · simp (disch := omega) only [mset_hit] at y
      by_cases e : r = A 10 0
      · subst e; simp (disch := omega) only [mset_off, mset_hit, mset_miss, mcpy_off, mcpy_hit, mcpy_miss, mrow_off, mrow_same]
      · simp (disch := omega) only [mset_off, mset_hit, mset_miss, mcpy_off, mcpy_hit, mcpy_miss, mrow_off, mrow_same]; exact p4 r x (by omega)
    · simp (disch := omega) only [mset_off, mset_miss] at y
      simp (disch := omega) only [mset_off, mset_hit, mset_miss, mcpy_off, mcpy_hit, mcpy_miss, mrow_off, mrow_same]; exact p5 g x y
theorem stI.goer {A : Mem} {L : List Mem} {t m : Int} (h : stI A L) (hI : InvA A) : stI (goerS A t m) L := by
  cases L with
  | nil => trivial
  | cons B L =>
    refine ⟨?_, h.2⟩
    obtain ⟨p0, p1, p2, p3, p4, p5⟩ := h.1
    have b0 := p0.1
    have a0 := hI.1
    unfold goerS
    refine ⟨p0, ?_, fun r x y => ?_, fun g x y => ?_, fun r x y => ?_, fun g x y => ?_⟩
    · simp (disch := omega) only [mset_off, mset_hit, mset_miss, mcpy_off, mcpy_hit, mcpy_miss, mrow_off, mrow_same]; omega
    · simp (disch := omega) only [mset_off, mset_hit, mset_miss, mcpy_off, mcpy_hit, mcpy_miss, mrow_off, mrow_same]; exact p2 r x y
    · simp (disch := omega) only [mset_off, mset_hit, mset_miss, mcpy_off, mcpy_hit, mcpy_miss, mrow_off, mrow_same]; exact p3 g x y
    · simp (disch := omega) only [mset_off, mset_miss] at y
      simp (disch := omega) only [mset_off, mset_hit, mset_miss, mcpy_off, mcpy_hit, mcpy_miss, mrow_off, mrow_same]; exact p4 r x y
    · simp (disch := omega) only [mset_hit] at y
      by_cases e : g = A 10 1
      · subst e; simp (disch := omega) only [mset_off, mset_hit, mset_miss, mcpy_off, mcpy_hit, mcpy_miss, mrow_off, mrow_same]; exact ⟨trivial, trivial⟩
      · simp (disch := omega) only [mset_off, mset_hit, mset_miss, mcpy_off, mcpy_hit, mcpy_miss, mrow_off, mrow_same]; exact p5 g x (by omega)
theorem undoS_1 {A B : Mem} {r : Int} : undoS A B 1 r = if r < B 10 0 then B 1 r else A 14 r := by unfold undoS; rw [if_pos rfl]
theorem undoS_2 {A B : Mem} {g : Int} : undoS A B 2 g = if g < B 10 1 then B 2 g else A 16 g := by unfold undoS; rw [if_neg (by omega), if_pos rfl]
theorem undoS_3 {A B : Mem} {g : Int} : undoS A B 3 g = if g < B 10 1 then B 3 g else 0 := by unfold undoS; rw [if_neg (by omega), if_neg (by omega), if_pos rfl]
theorem InvA.undo {A B : Mem} (h : InvA A) (hp : prec B A) : InvA (undoS A B) := by
  obtain ⟨p0, p1, p2, p3, p4, p5⟩ := hp
  obtain ⟨i0, i1, i2, i3, i4, i5⟩ := h
  obtain ⟨b0, b1, b2, b3, b4, b5⟩ := p0
  unfold InvA
  rw [undoS_told (q := 10) (by omega), undoS_told (q := 11) (by omega), undoS_told (q := 12) (by omega), undoS_told (q := 13) (by omega), undoS_told (q := 14) (by omega), undoS_told (q := 15) (by omega), undoS_told (q := 16) (by omega), undoS_told (q := 17) (by omega), undoS_told (q := 18) (by omega), undoS_told (q := 19) (by omega), undoS_core (q := 0) (by omega), undoS_core (q := 4) (by omega), undoS_core (q := 5) (by omega), undoS_core (q := 6) (by omega), undoS_core (q := 7) (by omega)]
  refine ⟨i0, fun r x y => ?_, fun g x y => ?_, b3, b4, i5⟩
  · have := i1 r x y
    rw [undoS_1]
    split
    · rename_i hlt
      have q := b1 r x hlt
      have q2 := p2 r x hlt
      omega
    · omega
  · have := i2 g x y
    rw [undoS_2, undoS_3]
    split
    · rename_i hlt
      have q := b2 g x hlt
      omega
    · omega
theorem stI.undo {A B : Mem} {L : List Mem} (h : stI A (B :: L)) (hI : InvA A) : stI (undoS A B) L := by
  obtain ⟨hp, hs⟩ := h
  obtain ⟨p0, p1, p2, p3, p4, p5⟩ := hp
  have b0 := p0.1
  cases L with
  | nil => trivial
  | cons C L =>
    refine ⟨?_, hs.2⟩
    obtain ⟨c0, c1, c2, c3, c4, c5⟩ := hs.1
    have cc := c0.1
    refine ⟨c0, by rw [undoS_told (by omega)]; omega, fun r x y => ?_, fun g x y => ?_, fun r x y => ?_, fun g x y => ?_⟩
    · rw [undoS_told (q := 11) (by omega), undoS_told (q := 12) (by omega), undoS_told (q := 13) (by omega), undoS_told (q := 14) (by omega)]
      have q1 := c2 r x y
      have q2 := p2 r x (by omega)
      exact ⟨q1.1.trans q2.1, q1.2.1.trans q2.2.1, q1.2.2.1.trans q2.2.2.1, q1.2.2.2.trans q2.2.2.2⟩
    · rw [undoS_told (q := 15) (by omega), undoS_told (q := 16) (by omega)]
      have q1 := c3 g x y
      have q2 := p3 g x (by omega)
      exact ⟨q1.1.trans q2.1, q1.2.trans q2.2⟩
    · rw [undoS_1, undoS_told (by omega)]
      split
      · rename_i hlt
        rw [c4 r x hlt]; exact (p2 r (by omega) hlt).2.2.2
      · rfl
    · rw [undoS_2, undoS_3, undoS_told (by omega)]
      split
      · rename_i hlt
        have q := c5 g x hlt
        rw [q.1, q.2]; exact ⟨(p3 g (by omega) hlt).2, rfl⟩
      · exact ⟨rfl, rfl⟩
theorem restC_undo {σ σ' A B : Mem} (h : restC σ σ' B) (hN : nowC σ A) (hp : prec B A) : nowC σ' (undoS A B) := by
  obtain ⟨r0, r1, r2, r3, r4, r5⟩ := h
  obtain ⟨m0, m1, m2, m3⟩ := hN
  obtain ⟨p0, p1, p2, p3, p4, p5⟩ := hp
  refine ⟨by rw [undoS_core (by omega)]; exact r0, fun r x y => ?_, fun g x y => ?_, fun i x y => ?_⟩
  · rw [undoS_told (by omega)] at y
    rw [undoS_1]
    split
    · rename_i hlt; exact r1 r x hlt
    · rename_i hlt; rw [r2 r (by omega), m1 r x y]; exact p4 r (by omega) y
  · rw [undoS_told (by omega)] at y
    rw [undoS_2, undoS_3]
    split
    · rename_i hlt; exact r3 g x hlt
    · rename_i hlt
      have q := r4 g (by omega)
      rw [q.1, q.2, (m2 g x y).1, (m2 g x y).2]; exact p5 g (by omega) y
  · rw [undoS_core (by omega)] at y
    rw [bkC_undo]; exact r5 i x y

def popP (L : List Mem) (v : Int) (σ τ : Mem) : Prop := match L with
  | [] => v = 0 ∧ τ = σ
  | B :: L2 => v = 1 ∧ stepsC τ 15 L2 ∧ restC σ τ B ∧ Fr [10, 11, 12, 13, 14, 15] σ τ
theorem sp_X7_pop2 (d : Nat) (hd : 1 ≤ d) (σ : Mem) (hO : OKm σ) (L : List Mem) (hpre : stepsC σ 15 L) : Mt yX7_pop cX7_pop 2 (some .boolean) d [aR (15), aR (10)] σ (QI (fun v τ => popP L v σ τ)) := by
  cases L with
  | nil => exact sp_X7_pop d hd σ hO [] hpre
  | cons B L => exact sp_X7_pop d hd σ hO (B :: L) hpre
def undoP (L : List Mem) (A : Mem) (v : Int) (σ τ : Mem) : Prop := match L with
  | [] => v = -1 ∧ τ = σ
  | B :: L2 => v = (L2.length : Int) ∧ stepsM τ 75 L2 ∧ nowM τ 75 (undoS A B) ∧ toldM τ 75 (undoS A B) ∧ Fr [75] σ τ
theorem sp_X12_undo2 (d : Nat) (hd : 1 ≤ d) (σ : Mem) (hO : OKm σ) (A : Mem) (L : List Mem) (hpre : toldM σ 75 A ∧ (0 ≤ A 10 0 ∧ A 10 0 ≤ 16 ∧ 0 ≤ A 10 1 ∧ A 10 1 ≤ 6 ∧ A 10 3 ≤ 8) ∧ stepsM σ 75 L) : Mt yX12_undo cX12_undo 3 (some .int) d [aR (74)] σ (QI (fun v τ => undoP L A v σ τ)) := by
  cases L with
  | nil => exact sp_X12_undo d hd σ hO A [] hpre
  | cons B L => exact sp_X12_undo d hd σ hO A (B :: L) hpre
def undoQ (L : List Mem) (A : Mem) (tx : Nat → Txt) (v : Int) (σ τ : Mem) : Prop := match L with
  | [] => v = -1 ∧ vsC τ A [] tx ∧ Fr PLC σ τ
  | B :: L2 => v = (L2.length : Int) ∧ vsC τ (undoS A B) L2 tx ∧ Fr PLC σ τ

def wp_X11_undo  (σ : Mem) (Q : Int → Mem → Prop) : Prop :=
  ∃ g1 : List Mem, (stepsC σ 15 g1) ∧
   ∀ (u6 : Int) (σ5 : Mem), R32 u6 → OKm σ5 → (popP g1 u6 σ σ5) →
   ((u6 = 0) →
    Q (-1) σ5) ∧
   ((u6 ≠ 0) →
    Q (σ5 15 2) σ5)
theorem mt_X11_undo {d : Nat} (hd : 2 ≤ d)  {σ : Mem} {Q : Int → Mem → Prop}  (hO : OKm σ) (h : wp_X11_undo  σ Q) : Mt yX11_undo cX11_undo 1 (some .int) d [aR (0)] σ (QI Q) := by
  refine Mt.intro (by decide +kernel) (Nat.le_of_ble_eq_true rfl) [(0, aR (0))] rfl ?_
  unfold wp_X11_undo at h
  refine G_aload_n 0 rfl rfl dX11_undo_0 ?_
  refine G_get (k := 2) (kd := (2, 15)) (v := aR 15) gf_X11_26 rfl rfl rfl rfl dX11_undo_1 ?_
  refine G_aload_n 0 rfl rfl dX11_undo_4 ?_
  refine G_get (k := 1) (kd := (2, 10)) (v := aR 10) gf_X11_19 rfl rfl rfl rfl dX11_undo_5 ?_
  obtain ⟨g1, c2, h⟩ := h
  refine G_callV (as := [_]) cf_X11_181 rfl rfl rfl (sp_X7_pop2 (d - 1) (by omega) _ hO  g1 c2) (by omega) rfl rfl (Nat.le_of_ble_eq_true rfl) dX11_undo_8 ?_
  rintro _ σ5 ⟨u6, rfl, z7⟩ o4 r3
  have h := h _ _ (r3 _ rfl) o4 z7
  refine G_if_eq (r3 _ rfl) dX11_undo_11 (tgt := 24) (by decide) (fun c8 => ?_) (fun c8 => ?_)
  · have h := h.1 c8
    refine G_iconst dX11_undo_24 ?_
    exact G_iret rfl (rL (-1) rfl) dX11_undo_25 ⟨_, rfl, h⟩ o4
  · have h := h.2 c8
    refine G_aload_n 0 rfl rfl dX11_undo_14 ?_
    refine G_get (k := 2) (kd := (2, 15)) (v := aR 15) gf_X11_26 rfl rfl rfl rfl dX11_undo_15 ?_
    refine G_get (k := 2) (kd := (0, 0)) (v := aI (σ5 15 2)) gf_X11_185 rfl rfl rfl rfl dX11_undo_18 ?_
    refine G_goto (tgt := 25) dX11_undo_21 (by decide) ?_
    exact G_iret rfl (OKm.i o4 15 2 rfl) dX11_undo_25 ⟨_, rfl, h⟩ o4

theorem sp_X11_undo (d : Nat) (hd : 2 ≤ d) (σ : Mem) (hO : OKm σ) (A : Mem) (L : List Mem) (tx : Nat → Txt) (hpre : vsC σ A L tx ∧ stI A L) : Mt yX11_undo cX11_undo 1 (some .int) d [aR (0)] σ (QI (fun v σ' => undoQ L A tx v σ σ')) := mt_X11_undo hd  hO (by
  unfold wp_X11_undo
  obtain ⟨⟨hV, hL⟩, hst⟩ := hpre
  refine ⟨L, hL, ?_⟩
  intro u σ1 hu hO1 hp
  cases L with
  | nil =>
    obtain ⟨eu, e1⟩ := hp
    subst e1
    exact ⟨fun _ => ⟨rfl, ⟨hV, hL⟩, Fr.rf _ _⟩, fun h => absurd eu h⟩
  | cons B L =>
    obtain ⟨eu, hL1, hr, hF⟩ := hp
    refine ⟨fun h => absurd h (by omega), fun _ => ⟨hL1.2.1, ⟨hV.now (restC_undo hr hV.2.1 hst.1) (hV.2.2.1.undo hst.1) (fun q hq => undoS_told hq) (fun q hq => hF q (by simp; omega)), hL1⟩, hF.wk (by simp)⟩⟩)

/-- undo of the reference, on the whole view -/
theorem undoM_ok {σ σ1 A B : Mem} {L2 : List Mem} {tx : Nat → Txt} (hS : vsM σ A (B :: L2) tx) (hp : prec B A) (h : stepsM σ1 75 L2 ∧ nowM σ1 75 (undoS A B) ∧ toldM σ1 75 (undoS A B) ∧ Fr [75] σ σ1) : vsM σ1 (undoS A B) L2 tx := by
  obtain ⟨h1, h2, h3, hF⟩ := h
  refine ⟨⟨h3, h2, hS.1.2.2.1.undo hp, fun i hi => (hS.1.2.2.2.1 i (by rw [undoS_told (by omega)] at hi; exact hi)).congr (by omega) (fun j _ _ => by rw [hF 77 (by simp)]), ?_⟩, h1, by rw [hF 74 (by simp)]; exact hS.2.2⟩
  unfold nmOK; rw [hF 80 (by simp)]; exact hS.1.2.2.2.2
/-! THE IMAGE, THE TAPE, THE FAULT. X 0 0: how many bytes; X 1: the bytes; X 2 0, 2 1: fault and place. -/
def imgC (σ : Mem) (A : Mem) (L : List Mem) : Prop := toldC σ 17 A ∧ rowC σ 26 0 A ∧ stepsC σ 27 L
def imgM (σ : Mem) (A : Mem) (L : List Mem) : Prop := toldM σ 76 A ∧ nowM σ 76 A ∧ stepsM σ 76 L
def okX (X : Mem) : Prop := (0 ≤ X 0 0 ∧ X 0 0 ≤ 300) ∧ (∀ i : Int, 0 ≤ X 1 i ∧ X 1 i ≤ 255)
def tapC (σ X : Mem) : Prop := σ 30 1 = X 0 0 ∧ (∀ i : Int, 0 ≤ i → i < X 0 0 → σ 31 i = X 1 i) ∧ σ 35 4 = X 2 0 ∧ σ 35 5 = X 2 1
def tapM (σ X : Mem) : Prop := σ 74 4 = X 0 0 ∧ (∀ i : Int, 0 ≤ i → i < X 0 0 → σ 78 i = X 1 i) ∧ σ 74 5 = X 2 0 ∧ σ 74 6 = X 2 1
def netC (σ : Mem) : Prop := (σ 40 8 = 47 ∧ σ 40 9 = 48) ∨ (σ 40 8 = 48 ∧ σ 40 9 = 47)
def fullC (σ A : Mem) (L : List Mem) (IA : Mem) (IL : List Mem) (tx : Nat → Txt) (X : Mem) : Prop := vsC σ A L tx ∧ imgC σ IA IL ∧ tapC σ X ∧ netC σ
def fullM (σ A : Mem) (L : List Mem) (IA : Mem) (IL : List Mem) (tx : Nat → Txt) (X : Mem) : Prop := vsM σ A L tx ∧ imgM σ IA IL ∧ tapM σ X
/-- what is true of a state whatever runs -/
def absI (A : Mem) (L : List Mem) (IA : Mem) (IL : List Mem) (X : Mem) : Prop := stI A L ∧ InvA IA ∧ stI IA IL ∧ IA 10 2 ≤ A 10 2 ∧ okX X
theorem imgC.fr {σ τ A : Mem} {L : List Mem} (h : imgC σ A L) (hf : ∀ q : Nat, 17 ≤ q → q ≤ 28 → τ q = σ q) : imgC τ A L :=
  ⟨h.1.congr (fun j hj => hf _ (by omega) (by omega)), by have := h.2.1; unfold rowC at *; rw [hf 26 (by omega) (by omega)]; exact this, h.2.2.congr (hf 27 (by omega) (by omega)) (hf (27 + 1) (by omega) (by omega))⟩
theorem imgM.fr {σ τ A : Mem} {L : List Mem} (h : imgM σ A L) (hf : τ 76 = σ 76) : imgM τ A L := by
  unfold imgM toldM nowM stepsM rowM at *; rw [hf]; exact h
theorem tapC.fr {σ τ X : Mem} (h : tapC σ X) (h0 : τ 30 1 = σ 30 1) (h1 : τ 31 = σ 31) (h2 : τ 35 4 = σ 35 4) (h3 : τ 35 5 = σ 35 5) : tapC τ X := by
  unfold tapC at *; rw [h0, h1, h2, h3]; exact h
theorem tapM.fr {σ τ X : Mem} (h : tapM σ X) (h0 : τ 74 4 = σ 74 4) (h1 : τ 78 = σ 78) (h2 : τ 74 5 = σ 74 5) (h3 : τ 74 6 = σ 74 6) : tapM τ X := by
  unfold tapM at *; rw [h0, h1, h2, h3]; exact h
/-- deeds: only the state has changed -/
theorem fullC.deed {σ τ A A' : Mem} {L L' : List Mem} {IA : Mem} {IL : List Mem} {tx : Nat → Txt} {X : Mem} (h : fullC σ A L IA IL tx X) (hv : vsC τ A' L' tx) (hf : Fr PLC σ τ) : fullC τ A' L' IA IL tx X :=
  ⟨hv, h.2.1.fr (fun q h1 h2 => hf q (by simp; omega)), h.2.2.1.fr (by rw [hf 30 (by simp)]) (hf 31 (by simp)) (by rw [hf 35 (by simp)]) (by rw [hf 35 (by simp)]), by unfold netC; rw [hf 40 (by simp)]; exact h.2.2.2⟩
theorem fullC.ask {σ τ A : Mem} {L : List Mem} {IA : Mem} {IL : List Mem} {tx : Nat → Txt} {X : Mem} (h : fullC σ A L IA IL tx X) (hf : Fr ScrC σ τ) : fullC τ A L IA IL tx X :=
  ⟨⟨h.1.1.fr hf, h.1.2.congr (hf 15 (by simp)) (hf (15 + 1) (by simp))⟩, h.2.1.fr (fun q h1 h2 => hf q (by simp; omega)), h.2.2.1.fr (by rw [hf 30 (by simp)]) (hf 31 (by simp)) (by rw [hf 35 (by simp)]) (by rw [hf 35 (by simp)]), by unfold netC; rw [hf 40 (by simp)]; exact h.2.2.2⟩
/-- the reference's calls leave the class alone, and the other way -/
theorem fullC.other {σ τ A : Mem} {L : List Mem} {IA : Mem} {IL : List Mem} {tx : Nat → Txt} {X : Mem} (h : fullC σ A L IA IL tx X) (hf : ∀ q : Nat, q < 74 → τ q = σ q) : fullC τ A L IA IL tx X := by
  obtain ⟨v1, v2, v3, v4⟩ := h.1.1
  exact ⟨⟨⟨v1.congr (fun j hj => hf _ (by omega)), v2.congr (fun q h1 h2 => hf q (by omega)), v3, fun i hi => (v4 i hi).congr (fun j hj => hf _ (by have := v3.1; omega))⟩, h.1.2.congr (hf 15 (by omega)) (hf (15 + 1) (by omega))⟩, h.2.1.fr (fun q h1 h2 => hf q (by omega)), h.2.2.1.fr (by rw [hf 30 (by omega)]) (hf 31 (by omega)) (by rw [hf 35 (by omega)]) (by rw [hf 35 (by omega)]), by unfold netC; rw [hf 40 (by omega)]; exact h.2.2.2⟩
theorem fullM.deed {σ τ A A' : Mem} {L L' : List Mem} {IA : Mem} {IL : List Mem} {tx : Nat → Txt} {X : Mem} (h : fullM σ A L IA IL tx X) (hv : vsM τ A' L' tx) (h74 : ∀ j : Int, j ≠ 24 → τ 74 j = σ 74 j) (h76 : τ 76 = σ 76) (h78 : τ 78 = σ 78) : fullM τ A' L' IA IL tx X :=
  ⟨hv, h.2.1.fr h76, h.2.2.fr (h74 4 (by omega)) h78 (h74 5 (by omega)) (h74 6 (by omega))⟩
theorem fullM.ask {σ τ A : Mem} {L : List Mem} {IA : Mem} {IL : List Mem} {tx : Nat → Txt} {X : Mem} (h : fullM σ A L IA IL tx X) (hv : vwM τ A tx) (h74 : τ 74 = σ 74) (h75 : τ 75 = σ 75) (h76 : τ 76 = σ 76) (h78 : τ 78 = σ 78) : fullM τ A L IA IL tx X :=
  ⟨⟨hv, h.1.2.1.keep (fun j _ => by rw [h75]), by rw [h74]; exact h.1.2.2⟩, h.2.1.fr h76, h.2.2.fr (by rw [h74]) h78 (by rw [h74]) (by rw [h74])⟩
theorem fullM.other {σ τ A : Mem} {L : List Mem} {IA : Mem} {IL : List Mem} {tx : Nat → Txt} {X : Mem} (h : fullM σ A L IA IL tx X) (hf : ∀ q : Nat, 74 ≤ q → τ q = σ q) : fullM τ A L IA IL tx X := by
  obtain ⟨h1, h2, h3, h4, h5⟩ := h.1.1
  refine h.ask ⟨?_, ?_, h3, fun i hi => (h4 i hi).congr (by omega) (fun j _ _ => by rw [hf 77 (by omega)]), ?_⟩ (hf 74 (by omega)) (hf 75 (by omega)) (hf 76 (by omega)) (hf 78 (by omega))
  · unfold toldM at *; rw [hf 75 (by omega)]; exact h1
  · unfold nowM at *; rw [hf 75 (by omega)]; exact h2
  · unfold nmOK; rw [hf 80 (by omega)]; exact h5
