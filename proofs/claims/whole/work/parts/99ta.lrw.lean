/-! THE CLAIM OUT OF ONE WALK OF THE LAW'S BODY. Your part is whole_start (and what it stands on); all else here is the same for every law, but numbers. -/
def R_law : String := "LiquoriceRoadsLaw"
def lw_P (b : Addr) (xs : List Int32) (args : Array Value) (s : State) : Prop := args = #[.ref b] ∧ s.IntsAt b xs ∧ xs.length ≤ 3072 ∧ (Jvm.Cond.and given_1 narrow_1).before args s = true
def lw_Q (_ : Array Value) (s : State) (o : Outcome) (t : State) : Prop := o = .returned (some (.int 1)) ∧ Framed s o t [] 600000 7302250
def lw_Z (below : List Frame) (a : Array Value) (s : State) : State → Prop := fun t => ∃ o, t.status = .running ∧ Ended t below o ∧ lw_Q a s o t
/-- the law's own end, with 1 on the stack, nothing written that was there before, its room as the claim has it -/
theorem lw_ret {p : Program} {l : Launch} {e : Jvm.Env} {s : State} {m : MethodId} {below : List Frame} {meth : Method} {c : Code} {b : Nat} (hx : p.tables.exec = Jvm.exec) (hb : c.code = code) (hr : meth.sig.returnType = ret) (hlocks : meth.locks = false) {pc : Nat} {H : Heap} {ls : Array Slot} (hdg : decode code pc = .ok (.ireturn, 1)) : W p l e room_1 s m #[Value.ref b] below meth c H [] 600000 7302250 (lw_Z below #[Value.ref b] s) (F0 m pc ls [.int 1]) := by
  intro T hT X
  obtain ⟨fs, hret, hrun, hended, hW, hframe⟩ := X.leave (v := some (.int 1)) (hlocks := hlocks) (fun h => by rw [hr] at h; cases h)
  have hmeth' : T.vm.method? m = some meth := X.method'
  refine ⟨T.setFrames fs, ?_, .returned (some (.int 1)), hrun, hended, rfl, ⟨_, rfl⟩, hW, hframe⟩
  jvm_step X.here [X.here.top, hx, hb, hdg, hmeth', hr, ret, narrow_b1]
  (try refine ⟨rfl, ?_⟩); (try refine ⟨rfl, ?_⟩)
  first | (intro acts; rw [hret _ acts rfl rfl rfl]) | rw [hret _ _ rfl rfl rfl]
  exact Steps.refl _
/-- what holds at the law's entry: the machine, the code, the tables' words (any of lw_tbl by 'hts w (by decide +kernel)'), the script of L ints xs at the cell b, what the Statement gives of the start (any of its parts by flat_of_before) -/
def lw_At (p : Program) (s : State) (m : MethodId) (meth : Method) (c : Code) (b L : Nat) (xs : Nat → Int32) : Prop :=
  p.tables.exec = Jvm.exec ∧ c.code = code ∧ meth.sig.returnType = ret ∧ c.maxLocals = 4 ∧ s.vm.findClass R_law = some m.cls ∧ (∀ w ∈ lw_tbl, w.before #[Value.ref b] s = true) ∧ va_X b L xs s s.heap ∧ b < s.heap.size ∧ meth.locks = false ∧ (Jvm.Cond.and given_1 narrow_1).before #[Value.ref b] s = true

/-! THE LAW'S FRAME: LG, as G is for a method's -/
def Lx (xL : Nat) (xs : Nat → Int32) (p : Program) (s : State) (m : MethodId) (args : Array Value) (meth : Method) (c : Code) (D : va_G) (E : Nat → ClassId) (ad : Nat → Nat) (A : Nat → Prop) : Prop :=
  Cx yL_law code 4 ret p s m args meth c D E ad A ∧ args = #[Value.ref (ad 1030)] ∧ va_X (ad 1030) xL xs s s.heap ∧ ad 1030 < s.heap.size ∧ A = (fun q : Nat => s.heap.size ≤ q)
def LG (xL : Nat) (xs : Nat → Int32) (pc : Nat) (lv : List (Nat × AV)) (st : List AV) (σ : Mem) : Prop :=
  ∀ (l : Launch) (p : Program) (e : Jvm.Env) (s : State) (m : MethodId) (args : Array Value) (below : List Frame) (meth : Method) (c : Code) (D : va_G) (E : Nat → ClassId) (ad : Nat → Nat) (A : Nat → Prop) (H : Heap) (locs : List Loc) (ls : Array Slot),
    Lx xL xs p s m args meth c D E ad A → Hp D E ad A σ H → va_S A s.heap H locs → lv_has ls 4 (lvV ad lv) →
    W p l e room_1 s m args below meth c H locs 600000 7302250 (lw_Z below args s) (F0 m pc ls (st.map (cv ad)))
section LROWS
variable {xL : Nat} {xs : Nat → Int32} {pc : Nat} {lv lv' : List (Nat × AV)} {st : List AV} {σ : Mem}

theorem LG_pick (ks : List Nat) (h : ks.filterMap (fun k => lv[k]?) = lv') (k : LG xL xs pc lv' st σ) : LG xL xs pc lv st σ := by
  intro l p e s m args below meth c D E ad A H locs ls hC hH hS hl
  have hx := hC.1.1
  have hb := hC.1.2.1
  refine k l p e s m args below meth c D E ad A H locs ls hC hH hS (lv_sub hl ks ?_)
  subst h
  unfold lv_pick lvV
  rw [List.map_filterMap]
  congr 1
  funext i
  rw [List.getElem?_map]

theorem LG_aload_n {f : Fin 4} {i q : Nat} (k : Nat) (h : lv[k]? = some (i, aR q)) (hi : (f : Nat) = i) (hd : decode code pc = .ok (.aload_n f, 1)) (kk : LG xL xs (pc + 1) lv (aR q :: st) σ) : LG xL xs pc lv st σ := by
  intro l p e s m args below meth c D E ad A H locs ls hC hH hS hl
  have hx := hC.1.1
  have hb := hC.1.2.1
  exact lv_aload_n hx hb hd hi (lv_at hl k (by unfold lvV; rw [List.getElem?_map, h]; rfl)) (kk l p e s m args below meth c D E ad A H locs _ hC hH hS hl)

theorem LG_iload_n {f : Fin 4} {i : Nat} {x : Int} (k : Nat) (h : lv[k]? = some (i, aI x)) (hi : (f : Nat) = i) (hd : decode code pc = .ok (.iload_n f, 1)) (kk : LG xL xs (pc + 1) lv (aI x :: st) σ) : LG xL xs pc lv st σ := by
  intro l p e s m args below meth c D E ad A H locs ls hC hH hS hl
  have hx := hC.1.1
  have hb := hC.1.2.1
  exact lv_iload_n hx hb hd hi (lv_at hl k (by unfold lvV; rw [List.getElem?_map, h]; rfl)) (kk l p e s m args below meth c D E ad A H locs _ hC hH hS hl)

theorem LG_iconst {n : Int} (hd : decode code pc = .ok (.iconst n, 1)) (kk : LG xL xs (pc + 1) lv (aI n :: st) σ) : LG xL xs pc lv st σ := by
  intro l p e s m args below meth c D E ad A H locs ls hC hH hS hl
  have hx := hC.1.1
  have hb := hC.1.2.1
  exact lv_iconst hx hb hd rfl (kk l p e s m args below meth c D E ad A H locs _ hC hH hS hl)

theorem LG_bipush {n : Int} (hn : (Int8.ofInt n).toInt32 = Int32.ofInt n) (hd : decode code pc = .ok (.bipush n, 2)) (kk : LG xL xs (pc + 2) lv (aI n :: st) σ) : LG xL xs pc lv st σ := by
  intro l p e s m args below meth c D E ad A H locs ls hC hH hS hl
  have hx := hC.1.1
  have hb := hC.1.2.1
  exact lv_bipush hx hb hd hn (kk l p e s m args below meth c D E ad A H locs _ hC hH hS hl)

theorem LG_iadd {a b : Int} (hd : decode code pc = .ok (.iadd, 1)) (kk : LG xL xs (pc + 1) lv (aI (a + b) :: st) σ) : LG xL xs pc lv (aI b :: aI a :: st) σ := by
  intro l p e s m args below meth c D E ad A H locs ls hC hH hS hl
  have hx := hC.1.1
  have hb := hC.1.2.1
  refine lv_iadd hx hb hd ?_
  have h := kk l p e s m args below meth c D E ad A H locs ls hC hH hS hl
  simp only [List.map_cons, cv, Int32.ofInt_add] at h
  exact h

theorem LG_isub {a b : Int} (hd : decode code pc = .ok (.isub, 1)) (kk : LG xL xs (pc + 1) lv (aI (a - b) :: st) σ) : LG xL xs pc lv (aI b :: aI a :: st) σ := by
  intro l p e s m args below meth c D E ad A H locs ls hC hH hS hl
  have hx := hC.1.1
  have hb := hC.1.2.1
  refine lv_isub hx hb hd ?_
  have h := kk l p e s m args below meth c D E ad A H locs ls hC hH hS hl
  simp only [List.map_cons, cv, Int32.ofInt_sub] at h
  exact h

theorem LG_iand {a b : Int} (hd : decode code pc = .ok (.iand, 1)) (kk : LG xL xs (pc + 1) lv (aI (bAnd a b) :: st) σ) : LG xL xs pc lv (aI b :: aI a :: st) σ := by
  intro l p e s m args below meth c D E ad A H locs ls hC hH hS hl
  have hx := hC.1.1
  have hb := hC.1.2.1
  refine lv_iand hx hb hd ?_
  have h := kk l p e s m args below meth c D E ad A H locs ls hC hH hS hl
  simp only [List.map_cons, cv, bAnd, ofI_toI] at h
  exact h

theorem LG_iinc {i k : Nat} {n x : Int} (hk : lv[k]? = some (i, aI x)) (h : lst1 i (aI (x + n)) lv = lv') (hn : i < 4) (hd : decode code pc = .ok (.iinc i n, 3)) (kk : LG xL xs (pc + 3) lv' st σ) : LG xL xs pc lv st σ := by
  intro l p e s m args below meth c D E ad A H locs ls hC hH hS hl
  have hx := hC.1.1
  have hb := hC.1.2.1
  subst h
  exact lv_iinc hx hb hd hl (k := k) (by unfold lvV; rw [List.getElem?_map, hk]; rfl) (Int32.ofInt_add x n).symm hn (lst1_eq ad i (aI (x + n)) lv) (fun ls2 hl2 => kk l p e s m args below meth c D E ad A H locs ls2 hC hH hS hl2)

theorem LG_goto {off : Int} {tgt : Nat} (hd : decode code pc = .ok (.goto off, 3)) (ht : (pc : Int) + off = (tgt : Int)) (kk : LG xL xs tgt lv st σ) : LG xL xs pc lv st σ := by
  intro l p e s m args below meth c D E ad A H locs ls hC hH hS hl
  have hx := hC.1.1
  have hb := hC.1.2.1
  exact lv_goto hx hb hd ht (kk l p e s m args below meth c D E ad A H locs _ hC hH hS hl)

theorem LG_icmp_eq {a b : Int} {off : Int} {tgt : Nat} (ha : R32 a) (hb2 : R32 b) (hd : decode code pc = .ok (.if_icmp .eq off, 3)) (ht : (pc : Int) + off = (tgt : Int)) (kt : a = b → LG xL xs tgt lv st σ) (kf : a ≠ b → LG xL xs (pc + 3) lv st σ) : LG xL xs pc lv (aI b :: aI a :: st) σ := by
  intro l p e s m args below meth c D E ad A H locs ls hC hH hS hl
  have hx := hC.1.1
  have hb := hC.1.2.1
  have e1 := r32_lt ha hb2
  have e2 := r32_le ha hb2
  have e3 := r32_eq ha hb2
  have e4 := r32_lt hb2 ha
  have e5 := r32_le hb2 ha
  refine lv_icmp_eq hx hb hd ht (fun q => kt ?_ l p e s m args below meth c D E ad A H locs _ hC hH hS hl) (fun q => kf ?_ l p e s m args below meth c D E ad A H locs _ hC hH hS hl)
  · simp only [GE.ge, GT.gt, ne_eq, e1, e2, e3, e4, e5] at q; omega
  · simp only [GE.ge, GT.gt, ne_eq, e1, e2, e3, e4, e5] at q; omega

theorem LG_icmp_gt {a b : Int} {off : Int} {tgt : Nat} (ha : R32 a) (hb2 : R32 b) (hd : decode code pc = .ok (.if_icmp .gt off, 3)) (ht : (pc : Int) + off = (tgt : Int)) (kt : b < a → LG xL xs tgt lv st σ) (kf : a ≤ b → LG xL xs (pc + 3) lv st σ) : LG xL xs pc lv (aI b :: aI a :: st) σ := by
  intro l p e s m args below meth c D E ad A H locs ls hC hH hS hl
  have hx := hC.1.1
  have hb := hC.1.2.1
  have e1 := r32_lt ha hb2
  have e2 := r32_le ha hb2
  have e3 := r32_eq ha hb2
  have e4 := r32_lt hb2 ha
  have e5 := r32_le hb2 ha
  refine lv_icmp_gt hx hb hd ht (fun q => kt ?_ l p e s m args below meth c D E ad A H locs _ hC hH hS hl) (fun q => kf ?_ l p e s m args below meth c D E ad A H locs _ hC hH hS hl)
  · simp only [GE.ge, GT.gt, ne_eq, e1, e2, e3, e4, e5] at q; omega
  · simp only [GE.ge, GT.gt, ne_eq, e1, e2, e3, e4, e5] at q; omega

theorem LG_if_eq {a : Int} {off : Int} {tgt : Nat} (ha : R32 a) (hd : decode code pc = .ok (.ifCond .eq off, 3)) (ht : (pc : Int) + off = (tgt : Int)) (kt : a = 0 → LG xL xs tgt lv st σ) (kf : a ≠ 0 → LG xL xs (pc + 3) lv st σ) : LG xL xs pc lv (aI a :: st) σ := by
  intro l p e s m args below meth c D E ad A H locs ls hC hH hS hl
  have hx := hC.1.1
  have hb := hC.1.2.1
  have e1 : Int32.ofInt a < 0 ↔ a < 0 := r32_lt ha r32_0
  have e2 : Int32.ofInt a ≤ 0 ↔ a ≤ 0 := r32_le ha r32_0
  have e3 : Int32.ofInt a = 0 ↔ a = 0 := r32_eq ha r32_0
  have e4 : 0 < Int32.ofInt a ↔ 0 < a := r32_lt r32_0 ha
  have e5 : 0 ≤ Int32.ofInt a ↔ 0 ≤ a := r32_le r32_0 ha
  refine lv_if_eq hx hb hd ht (fun q => kt ?_ l p e s m args below meth c D E ad A H locs _ hC hH hS hl) (fun q => kf ?_ l p e s m args below meth c D E ad A H locs _ hC hH hS hl)
  · simp only [GE.ge, GT.gt, ne_eq, e1, e2, e3, e4, e5] at q; omega
  · simp only [GE.ge, GT.gt, ne_eq, e1, e2, e3, e4, e5] at q; omega

theorem LG_lcmp_eq {a b : Int} {off : Int} {tgt : Nat} (ha : R64 a) (hb2 : R64 b) (hd0 : decode code pc = .ok (.lcmp, 1)) (hd : decode code (pc + 1) = .ok (.ifCond .eq off, 3)) (ht : ((pc + 1 : Nat) : Int) + off = (tgt : Int)) (kt : a = b → LG xL xs tgt lv st σ) (kf : a ≠ b → LG xL xs (pc + 4) lv st σ) : LG xL xs pc lv (aL b :: aL a :: st) σ := by
  intro l p e s m args below meth c D E ad A H locs ls hC hH hS hl
  have hx := hC.1.1
  have hb := hC.1.2.1
  have e1 := r64_lt ha hb2
  have e3 := r64_eq ha hb2
  have e4 := r64_lt hb2 ha
  have hc : (Int64.ofInt a < Int64.ofInt b → lg_cmp (Int64.ofInt a) (Int64.ofInt b) = -1) ∧ (Int64.ofInt a = Int64.ofInt b → lg_cmp (Int64.ofInt a) (Int64.ofInt b) = 0) ∧ (Int64.ofInt b < Int64.ofInt a → lg_cmp (Int64.ofInt a) (Int64.ofInt b) = 1) := by
    unfold lg_cmp
    refine ⟨fun h => ?_, fun h => ?_, fun h => ?_⟩
    · rw [if_neg (by rw [GT.gt, e4]; have := e1.mp h; omega), if_neg (by rw [e3]; have := e1.mp h; omega)]
    · rw [if_neg (by rw [GT.gt, e4]; have := e3.mp h; omega), if_pos h]
    · rw [if_pos h]
  refine W.lcmp hx hb hd0 ?_
  refine lv_if_eq hx hb hd ht (fun q => kt ?_ l p e s m args below meth c D E ad A H locs _ hC hH hS hl) (fun q => kf ?_ l p e s m args below meth c D E ad A H locs _ hC hH hS hl)
  · rcases Int.lt_trichotomy a b with h | h | h
    · rw [hc.1 (e1.mpr h)] at q; first | omega | exact absurd q (by decide)
    · rw [hc.2.1 (e3.mpr h)] at q; first | omega | exact absurd q (by decide)
    · rw [hc.2.2 (e4.mpr h)] at q; first | omega | exact absurd q (by decide)
  · rcases Int.lt_trichotomy a b with h | h | h
    · rw [hc.1 (e1.mpr h)] at q; first | omega | exact absurd q (by decide) | exact absurd (by decide) q
    · rw [hc.2.1 (e3.mpr h)] at q; first | omega | exact absurd q (by decide) | exact absurd (by decide) q
    · rw [hc.2.2 (e4.mpr h)] at q; first | omega | exact absurd q (by decide) | exact absurd (by decide) q

theorem LG_tswd {x dflt lo hi : Int} {offs : Array Int} {len tgt : Nat} (hx1 : R32 x) (h : x < lo ∨ hi < x) (ht : (pc : Int) + dflt = (tgt : Int)) (hd : decode code pc = .ok (.tableswitch dflt lo hi offs, len)) (kk : LG xL xs tgt lv st σ) : LG xL xs pc lv (aI x :: st) σ := by
  intro l p e s m args below meth c D E ad A H locs ls hC hH hS hl
  have hx := hC.1.1
  have hb := hC.1.2.1
  exact lv_tableOut hx hb hd (by rw [r32_toInt hx1]; exact h) ht (kk l p e s m args below meth c D E ad A H locs _ hC hH hS hl)

def sc (xs : Nat → Int32) (j : Int) : Int := (xs j.toNat).toInt
theorem sc_r (xs : Nat → Int32) (j : Int) : R32 (sc xs j) := r32_of _
theorem LG_sld {j : Int} (h0 : 0 ≤ j ∧ j < xL) (hL : xL ≤ 3072) (hd : decode code pc = .ok (.iaload, 1)) (kk : LG xL xs (pc + 1) lv (aI (sc xs j) :: st) σ) : LG xL xs pc lv (aI j :: aR 1030 :: st) σ := by
  intro l p e s m args below meth c D E ad A H locs ls hC hH hS hl
  have hx := hC.1.1
  have hb := hC.1.2.1
  obtain ⟨hin, hcl⟩ := idx_in h0.1 h0.2 (by omega)
  refine va_sld hx hb hC.2.2.1 hC.2.2.2.1 (by rw [hC.2.2.2.2]; exact Nat.not_le.mpr hC.2.2.2.1) hS hin hd ?_
  have h := kk l p e s m args below meth c D E ad A H locs ls hC hH hS hl
  simp only [List.map_cons, cv, sc, ofI_toI] at h
  rw [hcl]
  exact h
theorem LG_slen (hL : xL ≤ 3072) (hd : decode code pc = .ok (.arraylength, 1)) (kk : LG xL xs (pc + 1) lv (aI (xL : Int) :: st) σ) : LG xL xs pc lv (aR 1030 :: st) σ := by
  intro l p e s m args below meth c D E ad A H locs ls hC hH hS hl
  have hx := hC.1.1
  have hb := hC.1.2.1
  refine va_slen hx hb hC.2.2.1 hC.2.2.2.1 (by rw [hC.2.2.2.2]; exact Nat.not_le.mpr hC.2.2.2.1) hS hd ?_
  have h := kk l p e s m args below meth c D E ad A H locs ls hC hH hS hl
  have e : Int32.ofNat xL = Int32.ofInt (xL : Int) := by first | rfl | exact (Int32.ofInt_natCast _).symm | simp
  simp only [List.map_cons, cv] at h
  rw [e]
  exact h
theorem LG_ret (hd : decode code pc = .ok (.ireturn, 1)) : LG xL xs pc lv [aI 1] σ := by
  intro l p e s m args below meth c D E ad A H locs ls hC hH hS hl
  have hx := hC.1.1
  have hb := hC.1.2.1
  have hr := hC.1.2.2.2.1
  have hk := hC.1.2.2.2.2.2.2.1
  obtain ⟨_, ha, _, _, hA⟩ := hC
  subst ha
  refine va_forget (fun q hq => by have := hS.2.2 q hq; rw [hA] at this; exact this) ?_
  exact lw_ret hx hb hr hk hd
theorem LG_tsw {x dflt lo hi off : Int} {offs : Array Int} {len tgt : Nat} (k : Nat) (hk : lo + k = x) (hle : x ≤ hi) (ho : offs[k]? = some off) (ht : (pc : Int) + off = (tgt : Int)) (hx1 : R32 x) (hd : decode code pc = .ok (.tableswitch dflt lo hi offs, len)) (kt : LG xL xs tgt lv st σ) : LG xL xs pc lv (aI x :: st) σ := by
  intro l p e s m args below meth c D E ad A H locs ls hC hH hS hl
  have hx := hC.1.1
  have hb := hC.1.2.1
  have e0 : (Int32.ofInt x).toInt = x := r32_toInt hx1
  refine lv_tableIn hx hb hd (by rw [e0]; omega) (by rw [e0]; omega) (off := off) ?_ ht (kt l p e s m args below meth c D E ad A H locs _ hC hH hS hl)
  rw [e0]
  have : (x - lo).toNat = k := by omega
  rw [this]
  exact ho
theorem callB_L {own : String} {idx : Nat} {y' : MethodName} {cc' : ByteArray} {nL' d' n : Nat} {rt' : Option FieldType} {s : State} {args : Array Value} (hts : ∀ w ∈ tblG, w.before args s = true) (hf : CFb own y' cc' nL' rt' n) (hl : Cond.methodLink own idx y' ∈ tblG) (hdd : d' ≤ 1000) : CallB room_1 s args own idx y' cc' nL' rt' (Cond.code y' cc' nL' rt' :: tblG) (Rm d') 0 0 n :=
  callB_of n hts (tblG_in _ _ _ _ hf.2.1) rfl rfl rfl (hts _ hf.1) (hts _ hl) ⟨hf.2.2.1.1, hf.2.2.1.2, hf.2.2.2.1⟩ ⟨by unfold Rm; show d' + 1 + 1 ≤ 2048; omega, by have := hf.2.2.2.2; unfold Rm; show 8 + (nL' + 11) + 64 * (d' + 1) ≤ 84000; omega⟩
theorem LG_ofRun {stk : List AV} {Q' : Option AV → Mem → Prop}
    (run : ∀ (l : Launch) (p : Program) (e : Jvm.Env) (s : State) (m : MethodId) (args : Array Value) (below : List Frame) (meth : Method) (c : Code) (D : va_G) (E : Nat → ClassId) (ad : Nat → Nat) (A : Nat → Prop) (H : Heap) (locs : List Loc) (ls : Array Slot),
      Lx xL xs p s m args meth c D E ad A → Hp D E ad A σ H → va_S A s.heap H locs → lv_has ls 4 (lvV ad lv) →
      ∃ a, va_Run p l e room_1 s m args below meth c H locs 600000 7302250 0 0 (F0 m pc ls (stk.map (cv ad))) (st.map (cv ad)) (Post D E ad A Q' a) A)
    (kk : ∀ r σ', Q' r σ' → OKm σ' → (∀ v, r = some v → okv v) → LG xL xs (pc + 3) lv (r.toList ++ st) σ') : LG xL xs pc lv stk σ := by
  intro l p e s m args below meth c D E ad A H locs ls hC hH hS hl T hT X
  obtain ⟨a, ha⟩ := run l p e s m args below meth c D E ad A H locs ls hC hH hS hl
  obtain ⟨v, st₀, t, T', L, h0, X', hL, e1, e2, ⟨⟨r, σ', q1, q2, q3, q4, q5⟩, hz, hk⟩, stp⟩ := ha T hT X
  rw [h0] at hz hk
  have hv : v = r.map (cv ad) := by injection q4
  have hS' : va_S A s.heap T'.heap (locs ++ L) := ⟨Nat.le_trans hS.1 (by rw [e1]; exact hz), fun q h1 h2 => by rw [e1, hk q (Nat.lt_of_lt_of_le h1 hS.1) h2]; exact hS.2.1 q h1 h2, fun q hq => by
      rcases List.mem_append.mp hq with h | h
      · exact hS.2.2 q h
      · exact hL q h⟩
  obtain ⟨t2, a1, b1⟩ := kk r σ' q1 q2 q3 l p e s m args below meth c D E ad A T'.heap (locs ++ L) ls hC (by rw [e1]; exact q5) hS' hl T' rfl X'
  refine ⟨t2, stp t2 ?_, b1⟩
  have : (r.toList ++ st).map (cv ad) = v.toList ++ st.map (cv ad) := by
    rw [hv]
    cases r <;> simp
  rw [this] at a1
  exact a1
theorem LG_call {C : String} {idx ci : Nat} {y' : MethodName} {cc' : ByteArray} {nL' d' n q : Nat} {rt' : Option FieldType} {ks : List (Nat × Nat)} {as stk : List AV} {Q' : Option AV → Mem → Prop} (hf : CFv RL idx C y' cc' nL' rt' n) (hs : shp q = (0, ci, ks)) (hc : (classes[ci]?).map (fun r => r.1) = some C) (hM : Mt y' cc' nL' rt' d' (aR q :: as) σ Q') (hdd : d' ≤ 1000) (hn : as.length = n) (hst : stk = as.reverse ++ aR q :: st) (h8 : (st.map cat).sum ≤ 8) (hd : decode code pc = .ok (.invokevirtual idx, 3))
    (kk : ∀ r σ', Q' r σ' → OKm σ' → (∀ v, r = some v → okv v) → LG xL xs (pc + 3) lv (r.toList ++ st) σ') : LG xL xs pc lv stk σ := by
  refine LG_ofRun (fun l p e s m args below meth c D E ad A H locs ls hL hH hS hl => ⟨(Value.ref (ad q) :: as.map (cv ad)).toArray, ?_⟩) kk
  have hC := hL.1
  have hpre := pre_G (l := l) (y' := y') (cc' := cc') (nL' := nL') (d' := d') (rt' := rt') (as := aR q :: as) (vs := Value.ref (ad q) :: as.map (cv ad)) rfl hC hH hS
  obtain ⟨r, hr, hrC⟩ : ∃ r, classes[ci]? = some r ∧ r.1 = C := by
    cases h : classes[ci]? with
    | none => rw [h] at hc; cases hc
    | some r => rw [h] at hc; exact ⟨r, rfl, by injection hc⟩
  have hrecv := va_recv hC.2.2.2.2.2.2.2.1 hH.1 hr (show (Wd E ad σ)[q]? = some (ad q, .inr (ci, _)) by rw [Wd_at (shp_obj_lt hs), cel_obj hs])
  rw [hrC] at hrecv
  refine va_runV (As := as.map (cv ad)) (rest := st.map (cv ad)) (b := ad q) ⟨hC.1, hC.2.1, hC.2.2.1, hC.2.2.2.2.1, hC.2.2.2.2.2.1⟩ (hM l D E ad A) ⟨callB_L hC.2.2.2.2.2.1 hf.1 hf.2.1 hdd, hC.2.2.2.2.2.1 _ hf.2.2.1, hC.2.2.2.2.2.1 _ hf.2.2.2⟩ ⟨hpre.1, hrecv, hpre.2⟩ rfl (by rw [List.length_map]; exact hn) hl.1 ?_ (lv_room ?_) hd ⟨Nat.le_of_ble_eq_true rfl, Nat.le_of_ble_eq_true rfl⟩
  · rw [hst]; simp [cv]
  · simpa [Function.comp_def, cat_eq] using h8
abbrev LV (i : Int) : List (Nat × AV) := [(0, aR 1030), (1, aR 0), (2, aR 74), (3, aI i)]
/-- one int of the script: five instructions -/
theorem LG_sc {i k : Int} (h : 0 ≤ i ∧ i + 6 ≤ xL ∧ xL ≤ 3072) (hk : 0 ≤ k ∧ k < 6) (d0 : decode code pc = .ok (.aload_n 0, 1)) (d1 : decode code (pc + 1) = .ok (.iload_n 3, 1)) (d2 : decode code (pc + 1 + 1) = .ok (.iconst k, 1)) (d3 : decode code (pc + 1 + 1 + 1) = .ok (.iadd, 1)) (d4 : decode code (pc + 1 + 1 + 1 + 1) = .ok (.iaload, 1)) (kk : LG xL xs (pc + 1 + 1 + 1 + 1 + 1) (LV i) (aI (sc xs (i + k)) :: st) σ) : LG xL xs pc (LV i) st σ := by
  refine LG_aload_n 0 rfl rfl d0 ?_
  refine LG_iload_n 3 rfl rfl d1 ?_
  refine LG_iconst d2 ?_
  refine LG_iadd d3 ?_
  exact LG_sld (by omega) (by omega) d4 kk
end LROWS
