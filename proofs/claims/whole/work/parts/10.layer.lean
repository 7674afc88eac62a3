/-! THE LAYER, part a: abstract values and memory, the one world of the claim, and the judgements G (a frame) and Mt (a method). -/
def tblG : List Cond := lw_tbl.filter goodWord
theorem tblG_at {w : Cond} (k : Nat) (h : lw_tbl[k]? = some w) (hg : goodWord w = true) : w ∈ tblG := List.mem_filter.mpr ⟨List.mem_of_getElem? h, hg⟩
theorem tblG_good {w : Cond} (h : w ∈ tblG) : (w.onTables && w.keeps) = true ∨ ∃ ty, w = .arrayClass ty := good_of_word (List.mem_filter.mp h).2
abbrev AV : Type := Int ⊕ (Int ⊕ (Nat ⊕ Unit))
abbrev aI (x : Int) : AV := .inl x
abbrev aL (x : Int) : AV := .inr (.inl x)
abbrev aR (p : Nat) : AV := .inr (.inr (.inl p))
abbrev aN : AV := .inr (.inr (.inr ()))
def cv (ad : Nat → Nat) : AV → Value
  | .inl x => .int (Int32.ofInt x)
  | .inr (.inl x) => .long (Int64.ofInt x)
  | .inr (.inr (.inl p)) => .ref (ad p)
  | .inr (.inr (.inr ())) => .null
abbrev Mem : Type := Nat → Int → Int
def mset (σ : Mem) (p : Nat) (i v : Int) : Mem := fun q j => if q = p ∧ j = i then v else σ q j
def mrow (σ : Mem) (p : Nat) (f : Int → Int) : Mem := fun q => if q = p then f else σ q
def R32 (x : Int) : Prop := -2147483648 ≤ x ∧ x ≤ 2147483647
def R64 (x : Int) : Prop := -9223372036854775808 ≤ x ∧ x ≤ 9223372036854775807
def okv : AV → Prop
  | .inl x => R32 x
  | .inr (.inl x) => R64 x
  | _ => True
/-- places: tag (0 object, 1 int row, 2 long row, 3 boolean row, 4 row of Text), class or length, kinds of fields: 0 int, 1 long, 2 place, 3 place from here, 4 place in memory, 5 boolean -/
abbrev Sh : Type := Nat × Nat × List (Nat × Nat)
def shL : List Sh := [(0, 11, [(2, 1), (2, 10), (2, 15), (2, 17), (2, 26), (2, 27), (2, 29), (2, 30), (2, 35), (2, 36), (2, 38), (2, 40), (2, 49)]),
  (0, 10, [(3, 1), (3, 2), (3, 3), (3, 4), (3, 5), (3, 6), (3, 7), (3, 8), (0, 0), (0, 0), (0, 0), (0, 0), (0, 0)]),
  (1, 16, []),
  (1, 16, []),
  (1, 16, []),
  (1, 16, []),
  (1, 6, []),
  (1, 8, []),
  (1, 8, []),
  (1, 8, []),
  (0, 6, [(3, 1), (3, 2), (3, 3), (3, 4), (0, 0), (0, 0), (0, 0), (0, 0), (0, 0)]),
  (1, 16, []),
  (1, 6, []),
  (1, 6, []),
  (1, 30, []),
  (0, 7, [(3, 1), (0, 0), (0, 0)]),
  (1, 1950, []),
  (0, 10, [(3, 1), (3, 2), (3, 3), (3, 4), (3, 5), (3, 6), (3, 7), (3, 8), (0, 0), (0, 0), (0, 0), (0, 0), (0, 0)]),
  (1, 16, []),
  (1, 16, []),
  (1, 16, []),
  (1, 16, []),
  (1, 6, []),
  (1, 8, []),
  (1, 8, []),
  (1, 8, []),
  (1, 65, []),
  (0, 7, [(3, 1), (0, 0), (0, 0)]),
  (1, 1950, []),
  (4, 4, []),
  (0, 8, [(3, 1), (0, 0), (3, 2), (3, 3), (3, 4), (0, 0)]),
  (1, 300, []),
  (1, 301, []),
  (1, 301, []),
  (1, 301, []),
  (0, 5, [(2, 30), (4, 0), (0, 0), (0, 0), (0, 0), (0, 0)]),
  (0, 2, [(2, 1), (2, 10), (2, 29), (3, 1)]),
  (1, 64, []),
  (0, 0, [(2, 1), (2, 10), (2, 15), (2, 36), (3, 1)]),
  (1, 65, []),
  (0, 4, [(2, 1), (2, 10), (3, 1), (3, 2), (3, 3), (3, 4), (3, 5), (3, 6), (4, 0), (4, 0)]),
  (1, 8, []),
  (1, 64, []),
  (1, 8, []),
  (1, 8, []),
  (1, 8, []),
  (1, 256, []),
  (2, 8, []),
  (2, 8, []),
  (0, 3, [(2, 1), (2, 10), (2, 36), (3, 1), (3, 2), (3, 3), (0, 0), (3, 4)]),
  (1, 600, []),
  (1, 6, []),
  (1, 6, []),
  (2, 100, []),
  (0, 9, [(3, 1), (3, 2), (0, 0), (0, 0), (0, 0), (0, 0), (0, 0), (3, 3), (3, 4), (0, 0)]),
  (1, 300, []),
  (1, 300, []),
  (1, 24, []),
  (1, 96, []),
  (0, 9, [(3, 1), (3, 2), (0, 0), (0, 0), (0, 0), (0, 0), (0, 0), (3, 3), (3, 4), (0, 0)]),
  (1, 300, []),
  (1, 300, []),
  (1, 24, []),
  (1, 96, []),
  (0, 9, [(3, 1), (3, 2), (0, 0), (0, 0), (0, 0), (0, 0), (0, 0), (3, 3), (3, 4), (0, 0)]),
  (1, 300, []),
  (1, 300, []),
  (1, 24, []),
  (1, 96, []),
  (0, 9, [(3, 1), (3, 2), (0, 0), (0, 0), (0, 0), (0, 0), (0, 0), (3, 3), (3, 4), (0, 0)]),
  (1, 300, []),
  (1, 300, []),
  (1, 24, []),
  (1, 96, []),
  (0, 12, [(2, 75), (2, 76), (2, 77), (2, 78), (0, 0), (0, 0), (0, 0), (0, 0), (0, 0), (0, 0), (0, 0), (1, 0), (0, 0), (0, 0), (0, 0), (2, 79), (0, 0), (0, 0), (5, 0), (0, 0), (2, 80), (2, 81), (2, 82), (5, 0), (0, 0), (2, 83), (2, 84), (2, 85), (2, 86), (2, 87), (2, 88), (2, 89), (2, 90), (2, 91), (2, 92)]),
  (1, 2119, []),
  (1, 2119, []),
  (1, 2916, []),
  (1, 300, []),
  (1, 160, []),
  (1, 9, []),
  (2, 330, []),
  (3, 330, []),
  (1, 39, []),
  (1, 8, []),
  (1, 256, []),
  (1, 64, []),
  (1, 256, []),
  (1, 7, []),
  (1, 6, []),
  (1, 7, []),
  (2, 8, []),
  (2, 8, [])]
def shp (p : Nat) : Sh := shL.getD p (1, 0, [])
theorem shp_lt (p : Nat) : (shp p).2.1 < 2147483648 := by
  by_cases h : p < 93
  · have : ∀ q : Nat, q < 93 → (shp q).2.1 < 2147483648 := by decide +kernel
    exact this p h
  · have : shL.length = 93 := by decide +kernel
    simp [shp, List.getD, List.getElem?_eq_none (show shL.length ≤ p by omega)]
def isLg (p : Nat) (i : Int) : Bool := (shp p).1 == 2 || ((shp p).1 == 0 && ((shp p).2.2.getD i.toNat (0, 0)).1 == 1)
def OKm (σ : Mem) : Prop := ∀ p i, if isLg p i = true then R64 (σ p i) else R32 (σ p i)
theorem OKm.i {σ : Mem} (h : OKm σ) (p : Nat) (i : Int) (hl : isLg p i = false) : R32 (σ p i) := by
  have := h p i
  rw [hl] at this
  exact this
theorem OKm.l {σ : Mem} (h : OKm σ) (p : Nat) (i : Int) (hl : isLg p i = true) : R64 (σ p i) := by
  have := h p i
  rw [hl] at this
  exact this
theorem OKm.seti {σ : Mem} (h : OKm σ) (p : Nat) (i v : Int) (hv : R32 v) (hl : isLg p i = false) : OKm (mset σ p i v) := by
  intro q j
  unfold mset
  by_cases e : q = p ∧ j = i
  · rw [if_pos e, e.1, e.2, hl]; exact hv
  · rw [if_neg e]; exact h q j
theorem OKm.setl {σ : Mem} (h : OKm σ) (p : Nat) (i v : Int) (hv : R64 v) (hl : isLg p i = true) : OKm (mset σ p i v) := by
  intro q j
  unfold mset
  by_cases e : q = p ∧ j = i
  · rw [if_pos e, e.1, e.2, hl]; exact hv
  · rw [if_neg e]; exact h q j
theorem OKm.row {σ : Mem} (h : OKm σ) (p : Nat) (f : Int → Int) (hf : ∀ i, R32 (f i)) (hl : ∀ i, isLg p i = false) : OKm (mrow σ p f) := by
  intro q j
  unfold mrow
  by_cases e : q = p
  · rw [if_pos e, e, hl j]; exact hf j
  · rw [if_neg e]; exact h q j
theorem mset_ne {σ : Mem} {p q : Nat} {i v : Int} (h : q ≠ p) : mset σ p i v q = σ q := by
  funext j; unfold mset; rw [if_neg (fun e => h e.1)]
theorem mrow_ne {σ : Mem} {p q : Nat} {f : Int → Int} (h : q ≠ p) : mrow σ p f q = σ q := by
  unfold mrow; rw [if_neg h]
theorem mrow_self {σ : Mem} {p : Nat} {f : Int → Int} : mrow σ p f p = f := by
  unfold mrow; rw [if_pos rfl]
theorem isLg_row {p n : Nat} {ks : List (Nat × Nat)} (h : shp p = (1, n, ks)) (i : Int) : isLg p i = false := by simp [isLg, h]
theorem isLg_rowZ {p n : Nat} {ks : List (Nat × Nat)} (h : shp p = (3, n, ks)) (i : Int) : isLg p i = false := by simp [isLg, h]
theorem isLg_rowL {p n : Nat} {ks : List (Nat × Nat)} (h : shp p = (2, n, ks)) (i : Int) : isLg p i = true := by simp [isLg, h]
def fa (σ : Mem) (p k : Nat) (kd : Nat × Nat) : AV := match kd.1 with
  | 0 => aI (σ p k)
  | 1 => aL (σ p k)
  | 2 => aR kd.2
  | 3 => aR (p + kd.2)
  | 4 => if σ p k = 0 then aN else aR (σ p k).toNat
  | _ => aI (σ p k)
def flds (σ : Mem) (p : Nat) (ks : List (Nat × Nat)) : List AV := ks.mapIdx (fun k kd => fa σ p k kd)
def cel (E : Nat → ClassId) (ad : Nat → Nat) (σ : Mem) (p : Nat) : va_E := match (shp p).1 with
  | 0 => .inr ((shp p).2.1, (flds σ p (shp p).2.2).map (cv ad))
  | 1 => .inl (E 0, (shp p).2.1, .inl (fun i : Nat => Int32.ofInt (σ p (i : Int))))
  | 2 => .inl (E 1, (shp p).2.1, .inr (.inl (fun i : Nat => Int64.ofInt (σ p (i : Int)))))
  | 3 => .inl (E 2, (shp p).2.1, .inl (fun i : Nat => Int32.ofInt (σ p (i : Int))))
  | _ => .inl (E 3, (shp p).2.1, .inr (.inr (.inr (.inr (fun i : Nat => some (ad (54 + 5 * i)))))))
def Wd (E : Nat → ClassId) (ad : Nat → Nat) (σ : Mem) : va_W := (List.range 93).map (fun p => (ad p, cel E ad σ p))
theorem Wd_at {E : Nat → ClassId} {ad : Nat → Nat} {σ : Mem} {p : Nat} (h : p < 93) : (Wd E ad σ)[p]? = some (ad p, cel E ad σ p) := by
  unfold Wd
  rw [List.getElem?_map, List.getElem?_range h]
  rfl
theorem fa_congr {σ σ' : Mem} {p : Nat} (h : σ p = σ' p) (k : Nat) (kd : Nat × Nat) : fa σ p k kd = fa σ' p k kd := by unfold fa; rw [h]
theorem cel_congr {E : Nat → ClassId} {ad : Nat → Nat} {σ σ' : Mem} {p : Nat} (h : σ p = σ' p) : cel E ad σ p = cel E ad σ' p := by
  unfold cel flds
  rw [h]
  simp only [fa_congr h]
theorem Wd_set {E : Nat → ClassId} {ad : Nat → Nat} {σ σ' : Mem} {p : Nat} {x : Nat × va_E} (h : p < 93) (hx : x = (ad p, cel E ad σ' p)) (hq : ∀ q, q ≠ p → σ q = σ' q) : (Wd E ad σ).set p x = Wd E ad σ' := by
  apply List.ext_getElem?
  intro k
  rw [List.getElem?_set]
  by_cases hk : p = k
  · subst hk
    have hl : p < (Wd E ad σ).length := by simpa [Wd] using h
    rw [if_pos rfl, if_pos hl, Wd_at h, hx]
  · rw [if_neg hk]
    by_cases h2 : k < 93
    · rw [Wd_at h2, Wd_at h2, cel_congr (hq k (Ne.symm hk))]
    · rw [List.getElem?_eq_none (by simp [Wd]; omega), List.getElem?_eq_none (by simp [Wd]; omega)]
theorem shp_obj_lt {p ci : Nat} {ks : List (Nat × Nat)} (h : shp p = (0, ci, ks)) : p < 93 := by
  rcases Nat.lt_or_ge p 93 with h1 | h1
  · exact h1
  · have hL : shL.length = 93 := by decide +kernel
    have : shp p = (1, 0, []) := by simp [shp, List.getD, List.getElem?_eq_none (show shL.length ≤ p by omega)]
    rw [this] at h
    exact absurd (congrArg Prod.fst h) (by simp)
theorem shp_row_lt {p t n : Nat} {ks : List (Nat × Nat)} (h : shp p = (t, n, ks)) (hn : 0 < n) : p < 93 := by
  rcases Nat.lt_or_ge p 93 with h1 | h1
  · exact h1
  · have hL : shL.length = 93 := by decide +kernel
    have : shp p = (1, 0, []) := by simp [shp, List.getD, List.getElem?_eq_none (show shL.length ≤ p by omega)]
    rw [this] at h
    have := congrArg (fun q => q.2.1) h
    simp at this
    omega
abbrev tyL (E : Nat → ClassId) : List (ClassId × FieldType) := [(E 0, .int), (E 1, .long), (E 2, .boolean), (E 3, .object "LiquoriceRoads$Text")]
def strTx : List String := ["day rain way long thick mouth who went first sucks swells road to goer go by relay coil common of roads if then else end or and not ", "<>=#+-*/();"]
def strByt : List (List Int32) := strTx.map (fun t => t.toList.map (fun ch => Int32.ofNat ch.toNat))
def strLen : List Nat := strByt.map List.length
def nestL : List (String × Nat) := [("LiquoriceRoads$Kind", 9), ("LiquoriceRoads$Laws", 88), ("LiquoriceRoads$Reader", 66), ("LiquoriceRoads$Tape", 79), ("LiquoriceRoads$Text", 43)]
def nestF : Cond := .fieldLinkNest "LiquoriceRoads" 294 "LiquoriceRoads$Mouths" "largest" "[I" "LiquoriceRoads"
def Nst (U : State) : Prop := (∀ q ∈ nestL, va_Nw (.methodLinkNest q.1 q.2 yX11_within "LiquoriceRoads") U) ∧ va_Nw nestF U
theorem Nst.warm {s U : State} (h : Nst s) (hW : s.WarmedH U.vm) : Nst U := ⟨fun q hq => (h.1 q hq).warmM hW, va_Nw.warmF hW h.2⟩
theorem Nst.same {u U : State} (h : Nst u) (hv : U.vm = u.vm) : Nst U := ⟨fun q hq => va_Nw.same rfl hv.symm (h.1 q hq), va_Nw.same rfl hv.symm h.2⟩
def Ext (ad : Nat → Nat) (A : Nat → Prop) (U : State) (H : Heap) : Prop :=
  vk_S 2 strLen strByt (fun i => ad (1000 + i)) (fun i => ad (1010 + i)) A U H ∧ vk_R "LiquoriceRoads$Tape" 67 (strTx.getD 0 "") (ad 1000) U ∧ vk_R "LiquoriceRoads$Tape" 60 (strTx.getD 1 "") (ad 1001) U ∧ va_Z "java/lang/String" "COMPACT_STRINGS" "Z" (.int 1) A U H ∧ va_Z "jdk/internal/util/Preconditions" "SIOOBE_FORMATTER" "Ljava/util/function/BiFunction;" (if ad 1021 = 0 then .null else .ref (ad 1020)) A U H ∧ Nst U
theorem Ext.go {ad : Nat → Nat} {A : Nat → Prop} {s U : State} {H : Heap} (h : Ext ad A s s.heap) (hW : s.WarmedH U.vm) (hq : ∀ a : Nat, a < s.heap.size → ¬ A a → H[a]? = s.heap[a]?) : Ext ad A U H :=
  ⟨(h.1.moved hW.alike).kept hq, h.2.1.warm hW, h.2.2.1.warm hW, (h.2.2.2.1.moved hW.alike).kept hq, (h.2.2.2.2.1.moved hW.alike).kept hq, h.2.2.2.2.2.warm hW⟩
theorem Ext.same {ad : Nat → Nat} {A : Nat → Prop} {u U : State} {H : Heap} (h : Ext ad A u H) (hv : U.vm = u.vm) : Ext ad A U H := by
  have ha : u.vm.Alike U.vm := by rw [hv]; exact Vm.Alike.refl u.vm
  exact ⟨h.1.moved ha, h.2.1.same hv, h.2.2.1.same hv, h.2.2.2.1.moved ha, h.2.2.2.2.1.moved ha, h.2.2.2.2.2.same hv⟩
def Hp (D : va_G) (E : Nat → ClassId) (ad : Nat → Nat) (A : Nat → Prop) (σ : Mem) (H : Heap) : Prop := va_P D classes (Wd E ad σ) H ∧ va_D A (Wd E ad σ)
def Cx (y : MethodName) (cc : ByteArray) (nL : Nat) (rt : Option FieldType) (p : Program) (s : State) (m : MethodId) (args : Array Value) (meth : Method) (c : Code) (D : va_G) (E : Nat → ClassId) (ad : Nat → Nat) (A : Nat → Prop) : Prop :=
  p.tables.exec = Jvm.exec ∧ c.code = cc ∧ c.maxLocals = nL ∧ meth.sig.returnType = rt ∧ s.vm.findClass y.cls = some m.cls ∧ (∀ w ∈ tblG, w.before args s = true) ∧ meth.locks = false ∧ va_K D classes (tyL E) s ∧ (∀ q, s.heap.size ≤ q → A q) ∧ Ext ad A s s.heap
def Post (D : va_G) (E : Nat → ClassId) (ad : Nat → Nat) (A : Nat → Prop) (Q : Option AV → Mem → Prop) : Array Value → State → Outcome → State → Prop := fun _ st oc t =>
  (∃ (r : Option AV) (σ : Mem), Q r σ ∧ OKm σ ∧ (∀ v, r = some v → okv v) ∧ oc = .returned (r.map (cv ad)) ∧ Hp D E ad A σ t.heap) ∧ va_F A st t
def Rm (d : Nat) : Room := { frames := d + 1, cells := 0, slots := 0, locals := 64 * (d + 1) }
def lvV (ad : Nat → Nat) (lv : List (Nat × AV)) : List (Nat × Value) := lv.map (fun q => (q.1, cv ad q.2))
def G (y : MethodName) (cc : ByteArray) (nL : Nat) (rt : Option FieldType) (d : Nat) (Q : Option AV → Mem → Prop) (pc : Nat) (lv : List (Nat × AV)) (st : List AV) (σ : Mem) : Prop :=
  ∀ (l : Launch) (p : Program) (e : Env) (s : State) (m : MethodId) (args : Array Value) (below : List Frame) (meth : Method) (c : Code) (D : va_G) (E : Nat → ClassId) (ad : Nat → Nat) (A : Nat → Prop) (H : Heap) (locs : List Loc) (ls : Array Slot),
    Cx y cc nL rt p s m args meth c D E ad A → Hp D E ad A σ H → va_S A s.heap H locs → lv_has ls nL (lvV ad lv) →
    W p l e (Rm d) s m args below meth c H locs 0 0 (MQ below (Post D E ad A Q) args s 0 0 A) (F0 m pc ls (st.map (cv ad)))
def Mt (y : MethodName) (cc : ByteArray) (nL : Nat) (rt : Option FieldType) (d : Nat) (as : List AV) (σ : Mem) (Q : Option AV → Mem → Prop) : Prop :=
  ∀ (l : Launch) (D : va_G) (E : Nat → ClassId) (ad : Nat → Nat) (A : Nat → Prop), Met l y (Cond.code y cc nL rt :: tblG) (Rm d)
    (va_Pc (as.map (cv ad)) (fun U => va_K D classes (tyL E) U ∧ Hp D E ad A σ U.heap ∧ (∀ q, U.heap.size ≤ q → A q) ∧ Ext ad A U U.heap)) (Post D E ad A Q) 0 0 A
def lvA : Nat → List AV → List (Nat × AV)
  | _, [] => []
  | i, .inl x :: r => (i, .inl x) :: lvA (i + 1) r
  | i, .inr (.inl x) :: r => (i, .inr (.inl x)) :: lvA (i + 2) r
  | i, .inr (.inr x) :: r => (i, .inr (.inr x)) :: lvA (i + 1) r
theorem lvA_eq (ad : Nat → Nat) : ∀ (as : List AV) (i : Nat), lv_args i (as.map (cv ad)) = lvV ad (lvA i as)
  | [], _ => rfl
  | .inl x :: r, i => by
    show (i, _) :: lv_args (i + 1) (r.map (cv ad)) = (i, _) :: lvV ad (lvA (i + 1) r)
    rw [lvA_eq ad r]
  | .inr (.inl x) :: r, i => by
    show (i, _) :: lv_args (i + 2) (r.map (cv ad)) = (i, _) :: lvV ad (lvA (i + 2) r)
    rw [lvA_eq ad r]
  | .inr (.inr (.inl x)) :: r, i => by
    show (i, _) :: lv_args (i + 1) (r.map (cv ad)) = (i, _) :: lvV ad (lvA (i + 1) r)
    rw [lvA_eq ad r]
  | .inr (.inr (.inr ())) :: r, i => by
    show (i, _) :: lv_args (i + 1) (r.map (cv ad)) = (i, _) :: lvV ad (lvA (i + 1) r)
    rw [lvA_eq ad r]
def cat (v : AV) : Nat := match v with
  | .inr (.inl _) => 2
  | _ => 1
theorem cat_eq (ad : Nat → Nat) : ∀ v : AV, (cv ad v).category = cat v
  | .inl _ => rfl
  | .inr (.inl _) => rfl
  | .inr (.inr (.inl _)) => rfl
  | .inr (.inr (.inr ())) => rfl
theorem slen (ad : Nat → Nat) : ∀ as : List AV, (lg_sl (as.map (cv ad))).length = (as.map cat).sum
  | [] => rfl
  | .inl x :: r => by
    have := slen ad r
    simp [lg_sl, cv, cat, Value.category] at *; omega
  | .inr (.inl x) :: r => by
    have := slen ad r
    simp [lg_sl, cv, cat, Value.category] at *; omega
  | .inr (.inr (.inl x)) :: r => by
    have := slen ad r
    simp [lg_sl, cv, cat, Value.category] at *; omega
  | .inr (.inr (.inr ())) :: r => by
    have := slen ad r
    simp [lg_sl, cv, cat, Value.category] at *; omega
theorem Mt.intro {y : MethodName} {cc : ByteArray} {nL : Nat} {rt : Option FieldType} {d : Nat} {as : List AV} {σ : Mem} {Q : Option AV → Mem → Prop} (hy : plainName y.cls = true) (hn : (as.map cat).sum ≤ nL) (lv : List (Nat × AV)) (hlv : lvA 0 as = lv) (h : G y cc nL rt d Q 0 lv [] σ) : Mt y cc nL rt d as σ Q := by
  intro l D E ad A
  refine Met.ofW (cc := cc) (maxL := nL) (ret := rt) hy rfl ?_
  intro p e s m args below meth c s₁ B hml hv
  obtain ⟨rfl, hK, hH, hA, hE⟩ := hv
  have hts := atoms_spec (ws := Cond.code y cc nL rt :: tblG) B.pre
  have hown : s.vm.findClass y.cls = some m.cls := findClass_of_methodNamed B.named
  have hl := lv_entry (as.map (cv ad)) (n := nL) (by rw [slen]; exact hn)
  rw [lg_entry_eq]
  generalize (lg_sl (as.map (cv ad)) ++ List.replicate (nL - (lg_sl (as.map (cv ad))).length) Slot.unset).toArray = ls at hl ⊢
  rw [lvA_eq, hlv] at hl
  exact h l p e s m _ below meth c D E ad A s.heap [] ls ⟨B.exec, B.bytes, hml, B.returns, hown, fun w hw => hts w (List.mem_cons_of_mem _ hw), B.notSynchronized, hK, hA, hE⟩ hH va_S.rf hl
theorem Mt.mono {y : MethodName} {cc : ByteArray} {nL : Nat} {rt : Option FieldType} {d : Nat} {as : List AV} {σ : Mem} {Q Q' : Option AV → Mem → Prop} (h : Mt y cc nL rt d as σ Q) (hq : ∀ r σ', Q r σ' → Q' r σ') : Mt y cc nL rt d as σ Q' := by
  intro l D E ad A
  have h1 := h l D E ad A
  intro p e ha hc hk s m args below hf hap hP hX
  obtain ⟨k, o, h2, h3, h4, h5⟩ := h1 p e ha hc hk s m args below hf hap hP hX
  refine ⟨k, o, h2, h3, h4, ?_⟩
  obtain ⟨⟨⟨r, σ', q1, q2⟩, q3⟩, q4⟩ := h5
  exact ⟨⟨⟨r, σ', hq r σ' q1, q2⟩, q3⟩, q4⟩
