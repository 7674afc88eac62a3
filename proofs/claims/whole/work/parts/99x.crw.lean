/-! CONSTRUCTORS: a world as a list of cells, the newest first; what else there is stands behind it -/
abbrev TX : String := "LiquoriceRoads$Text"
def nestI : List (Nat × MethodName) := [(9, yX10_init), (18, yX6_init), (25, yX7_init), (48, yX8_init), (98, yX9_init)]
def XO (U : State) : Prop := va_AO TX U ∧ ∀ q ∈ nestI, va_Nw (.methodLinkNest "LiquoriceRoads" q.1 q.2 "LiquoriceRoads") U
theorem XO.warm {s U : State} (h : XO s) (hW : s.WarmedH U.vm) : XO U := ⟨va_AO.moved hW.alike h.1, fun q hq => (h.2 q hq).warmM hW⟩
theorem XO.same {u U : State} (h : XO u) (hv : U.vm = u.vm) : XO U := ⟨va_AO.moved (by rw [hv]; exact Vm.Alike.refl u.vm) h.1, fun q hq => va_Nw.same rfl hv.symm (h.2 q hq)⟩
def CPre (D : va_G) (E : Nat → ClassId) (A : Nat → Prop) (ws : va_W) (U : State) : Prop := va_K D classes (tyL E) U ∧ (va_P D classes ws U.heap ∧ va_D A ws) ∧ (∀ q, U.heap.size ≤ q → A q) ∧ XO U
def CPost (D : va_G) (A : Nat → Prop) (Wn : va_W → Prop) : Array Value → State → Outcome → State → Prop := fun _ st oc t => (∃ ws, Wn ws ∧ oc = .returned none ∧ va_P D classes ws t.heap ∧ va_D A ws) ∧ va_F A st t
def CRm (d mc ms : Nat) : Room := { frames := d + 1, cells := mc, slots := ms, locals := 64 * (d + 1) }
def CMt (y : MethodName) (cc : ByteArray) (nL d mc ms : Nat) (as : List Value) (D : va_G) (E : Nat → ClassId) (A : Nat → Prop) (ws : va_W) (Wn : va_W → Prop) : Prop := ∀ l : Launch, Met l y (Cond.code y cc nL none :: tblG) (CRm d mc ms) (va_Pc as (CPre D E A ws)) (CPost D A Wn) mc ms A
def CCx (y : MethodName) (cc : ByteArray) (nL : Nat) (p : Program) (s : State) (m : MethodId) (args : Array Value) (meth : Method) (c : Code) (D : va_G) (E : Nat → ClassId) (A : Nat → Prop) : Prop :=
  p.tables.exec = Jvm.exec ∧ c.code = cc ∧ c.maxLocals = nL ∧ meth.sig.returnType = none ∧ s.vm.findClass y.cls = some m.cls ∧ (∀ w ∈ tblG, w.before args s = true) ∧ meth.locks = false ∧ va_K D classes (tyL E) s ∧ (∀ q, s.heap.size ≤ q → A q) ∧ XO s ∧ meth.name = y.name
def CG (y : MethodName) (cc : ByteArray) (nL d mc ms : Nat) (D : va_G) (E : Nat → ClassId) (A : Nat → Prop) (Wn : va_W → Prop) (pc : Nat) (lv : List (Nat × Value)) (st : List Value) (ws : va_W) (cells slots : Nat) : Prop :=
  ∀ (l : Launch) (p : Program) (e : Jvm.Env) (s : State) (m : MethodId) (args : Array Value) (below : List Frame) (meth : Method) (c : Code) (H : Heap) (locs : List Loc) (ls : Array Slot),
    CCx y cc nL p s m args meth c D E A → (va_P D classes ws H ∧ va_D A ws) → va_S A s.heap H locs → lv_has ls nL lv →
    W p l e (CRm d mc ms) s m args below meth c H locs cells slots (MQ below (CPost D A Wn) args s mc ms A) (F0 m pc ls st)
section CROWS
variable {y : MethodName} {cc : ByteArray} {nL d mc ms : Nat} {D : va_G} {E : Nat → ClassId} {A : Nat → Prop} {Wn : va_W → Prop} {pc : Nat} {lv lv' : List (Nat × Value)} {st : List Value} {ws : va_W} {cells slots : Nat}
theorem CMt.intro {as : List Value} (hy : plainName y.cls = true) (hn : (lg_sl as).length ≤ nL) (hlv : lv_args 0 as = lv) (h : CG y cc nL d mc ms D E A Wn 0 lv [] ws 0 0) : CMt y cc nL d mc ms as D E A ws Wn := by
  intro l
  refine Met.ofW (cc := cc) (maxL := nL) (ret := none) hy rfl ?_
  intro p e s m args below meth c s₁ B hml hv
  obtain ⟨rfl, hK, hH, hA, hO⟩ := hv
  have hts := atoms_spec (ws := Cond.code y cc nL none :: tblG) B.pre
  have hown : s.vm.findClass y.cls = some m.cls := findClass_of_methodNamed B.named
  have hl := lv_entry as (n := nL) hn
  rw [lg_entry_eq]
  generalize (lg_sl as ++ List.replicate (nL - (lg_sl as).length) Slot.unset).toArray = ls at hl ⊢
  rw [hlv] at hl
  exact h l p e s m _ below meth c s.heap [] ls ⟨B.exec, B.bytes, hml, B.returns, hown, fun w hw => hts w (List.mem_cons_of_mem _ hw), B.notSynchronized, hK, hA, hO, (name_of_methodNamed B.named B.method).1⟩ hH va_S.rf hl
theorem CG_aload_n {f : Fin 4} {i a : Nat} (k : Nat) (h : lv[k]? = some (i, .ref a)) (hi : (f : Nat) = i) (hd : decode cc pc = .ok (.aload_n f, 1)) (kk : CG y cc nL d mc ms D E A Wn (pc + 1) lv (.ref a :: st) ws cells slots) : CG y cc nL d mc ms D E A Wn pc lv st ws cells slots := by
  intro l p e s m args below meth c H locs ls hC hH hS hl
  exact lv_aload_n hC.1 hC.2.1 hd hi (lv_at hl k h) (kk l p e s m args below meth c H locs _ hC hH hS hl)
theorem CG_aload {i a : Nat} (k : Nat) (h : lv[k]? = some (i, .ref a)) (hd : decode cc pc = .ok (.aload i, 2)) (kk : CG y cc nL d mc ms D E A Wn (pc + 2) lv (.ref a :: st) ws cells slots) : CG y cc nL d mc ms D E A Wn pc lv st ws cells slots := by
  intro l p e s m args below meth c H locs ls hC hH hS hl
  exact lv_aload hC.1 hC.2.1 hd (lv_at hl k h) (kk l p e s m args below meth c H locs _ hC hH hS hl)
theorem CG_iload_n {f : Fin 4} {i : Nat} {x : Int32} (k : Nat) (h : lv[k]? = some (i, .int x)) (hi : (f : Nat) = i) (hd : decode cc pc = .ok (.iload_n f, 1)) (kk : CG y cc nL d mc ms D E A Wn (pc + 1) lv (.int x :: st) ws cells slots) : CG y cc nL d mc ms D E A Wn pc lv st ws cells slots := by
  intro l p e s m args below meth c H locs ls hC hH hS hl
  exact lv_iload_n hC.1 hC.2.1 hd hi (lv_at hl k h) (kk l p e s m args below meth c H locs _ hC hH hS hl)
theorem CG_iconst {n : Int} {v : Int32} (hv : Int32.ofInt n = v) (hd : decode cc pc = .ok (.iconst n, 1)) (kk : CG y cc nL d mc ms D E A Wn (pc + 1) lv (.int v :: st) ws cells slots) : CG y cc nL d mc ms D E A Wn pc lv st ws cells slots := by
  intro l p e s m args below meth c H locs ls hC hH hS hl
  exact lv_iconst hC.1 hC.2.1 hd hv (kk l p e s m args below meth c H locs _ hC hH hS hl)
theorem CG_bipush {n : Int} {v : Int32} (hv : (Int8.ofInt n).toInt32 = v) (hd : decode cc pc = .ok (.bipush n, 2)) (kk : CG y cc nL d mc ms D E A Wn (pc + 2) lv (.int v :: st) ws cells slots) : CG y cc nL d mc ms D E A Wn pc lv st ws cells slots := by
  intro l p e s m args below meth c H locs ls hC hH hS hl
  exact lv_bipush hC.1 hC.2.1 hd hv (kk l p e s m args below meth c H locs _ hC hH hS hl)
theorem CG_sipush {n : Int} {v : Int32} (hv : (Int16.ofInt n).toInt32 = v) (hd : decode cc pc = .ok (.sipush n, 3)) (kk : CG y cc nL d mc ms D E A Wn (pc + 3) lv (.int v :: st) ws cells slots) : CG y cc nL d mc ms D E A Wn pc lv st ws cells slots := by
  intro l p e s m args below meth c H locs ls hC hH hS hl
  exact lv_sipush hC.1 hC.2.1 hd hv (kk l p e s m args below meth c H locs _ hC hH hS hl)
theorem CG_null (hd : decode cc pc = .ok (.aconst_null, 1)) (kk : CG y cc nL d mc ms D E A Wn (pc + 1) lv (.null :: st) ws cells slots) : CG y cc nL d mc ms D E A Wn pc lv st ws cells slots := by
  intro l p e s m args below meth c H locs ls hC hH hS hl
  exact lv_null hC.1 hC.2.1 hd (kk l p e s m args below meth c H locs _ hC hH hS hl)
theorem CG_dup {a : Nat} (hd : decode cc pc = .ok (.dup, 1)) (kk : CG y cc nL d mc ms D E A Wn (pc + 1) lv (.ref a :: .ref a :: st) ws cells slots) : CG y cc nL d mc ms D E A Wn pc lv (.ref a :: st) ws cells slots := by
  intro l p e s m args below meth c H locs ls hC hH hS hl
  exact lv_dup hC.1 hC.2.1 hd rfl (kk l p e s m args below meth c H locs _ hC hH hS hl)
theorem CG_iadd {a b : Int32} {v : Int32} (hv : a + b = v) (hd : decode cc pc = .ok (.iadd, 1)) (kk : CG y cc nL d mc ms D E A Wn (pc + 1) lv (.int v :: st) ws cells slots) : CG y cc nL d mc ms D E A Wn pc lv (.int b :: .int a :: st) ws cells slots := by
  intro l p e s m args below meth c H locs ls hC hH hS hl
  subst hv
  exact lv_iadd hC.1 hC.2.1 hd (kk l p e s m args below meth c H locs _ hC hH hS hl)
theorem CG_isub {a b : Int32} {v : Int32} (hv : a - b = v) (hd : decode cc pc = .ok (.isub, 1)) (kk : CG y cc nL d mc ms D E A Wn (pc + 1) lv (.int v :: st) ws cells slots) : CG y cc nL d mc ms D E A Wn pc lv (.int b :: .int a :: st) ws cells slots := by
  intro l p e s m args below meth c H locs ls hC hH hS hl
  subst hv
  exact lv_isub hC.1 hC.2.1 hd (kk l p e s m args below meth c H locs _ hC hH hS hl)
theorem CG_goto {off : Int} {tgt : Nat} (hd : decode cc pc = .ok (.goto off, 3)) (ht : (pc : Int) + off = (tgt : Int)) (kk : CG y cc nL d mc ms D E A Wn tgt lv st ws cells slots) : CG y cc nL d mc ms D E A Wn pc lv st ws cells slots := by
  intro l p e s m args below meth c H locs ls hC hH hS hl
  exact lv_goto hC.1 hC.2.1 hd ht (kk l p e s m args below meth c H locs _ hC hH hS hl)
theorem va_P.front {cl : List vw_C} {x : Nat × va_E} {H : Heap} (h : va_P D cl (ws ++ [x]) H) : va_P D cl (x :: ws) H := by
  intro k q hk
  cases k with
  | zero =>
    have e : x = q := by simpa using hk
    exact h ws.length q (by rw [← e]; simp)
  | succ k =>
    have hk : ws[k]? = some q := by simpa using hk
    have hl := (List.getElem?_eq_some_iff.mp hk).1
    exact h k q (by rw [List.getElem?_append_left hl]; exact hk)
theorem va_D.front {x : Nat × va_E} (h : va_D A (ws ++ [x])) : va_D A (x :: ws) := by
  have at2 : ∀ (k : Nat) (q : Nat × va_E), (x :: ws)[k]? = some q → (ws ++ [x])[if k = 0 then ws.length else k - 1]? = some q := by
    intro k q hk
    cases k with
    | zero =>
      have e : x = q := by simpa using hk
      rw [if_pos rfl, ← e]; simp
    | succ k =>
      have hk : ws[k]? = some q := by simpa using hk
      have hl := (List.getElem?_eq_some_iff.mp hk).1
      rw [if_neg (by omega), show k + 1 - 1 = k by omega, List.getElem?_append_left hl]; exact hk
  refine ⟨fun i j p q hi hj e => ?_, fun k q hk => h.2 _ q (at2 k q hk)⟩
  have := h.1 _ _ p q (at2 i p hi) (at2 j q hj) e
  have li : i ≤ ws.length := by have := (List.getElem?_eq_some_iff.mp hi).1; simp at this; omega
  have lj : j ≤ ws.length := by have := (List.getElem?_eq_some_iff.mp hj).1; simp at this; omega
  split at this <;> split at this <;> omega
theorem va_K.uniq {cl : List vw_C} {s : State} {ty : FieldType} {cA : ClassId} {k : Nat} (hK : va_K D cl (tyL E) s) (hk : (tyL E)[k]? = some (E k, ty)) (hn : va_K D cl (tyL E ++ [(cA, ty)]) s) : cA = E k := by
  have h1 := (hK.2 k _ hk).2
  have h2 := (hn.2 4 (cA, ty) rfl).2
  have key : ∀ c : ClassId, va_RA s c ty → s.vm.findClass ("[" ++ ty.toString) = some c := fun c h => by
    cases ty with
    | object C => obtain ⟨_, _, _, _, _, h⟩ := h; exact h
    | _ => exact h
  have e1 := key _ h1
  have e2 := key _ h2
  rw [e1] at e2
  exact (Option.some.inj e2).symm
theorem CG_newa {at_ : ArrayType} {ty : FieldType} {n : Int32} {N : Nat} {a0 : vp_A} (k : Nat) (hk : ∀ E : Nat → ClassId, (tyL E)[k]? = some (E k, ty)) (hty : newarray.typeOf at_ = ty) (harr : Cond.arrayClass ty ∈ tblG) (ha : ∀ cA : ClassId, vp_cell cA a0 = arrV cA N (fun _ => defaultValue ty)) (hn : ¬ n < 0) (hN : n.toNatClampNeg = N) (hbytes : N * componentBytes ty ≤ 536870912) (hcells : cells + 1 ≤ mc) (hslots : slots + N ≤ ms) (hd : decode cc pc = .ok (.newarray at_, 2))
    (kk : ∀ q : Nat, CG y cc nL d mc ms D E A Wn (pc + 2) lv (.ref q :: st) ((q, .inl (E k, a0)) :: ws) (cells + 1) (slots + N)) : CG y cc nL d mc ms D E A Wn pc lv (.int n :: st) ws cells slots := by
  intro l p e s m args below meth c H locs ls hC hH hS hl
  have hts := hC.2.2.2.2.2.1
  have hK := hC.2.2.2.2.2.2.2.1
  refine va_newa (atype := at_) hC.1 hC.2.1 (by rw [hty]; exact hts _ harr) hty hK hH.1 hH.2 hS hC.2.2.2.2.2.2.2.2.1 ha hn hN hbytes hcells hslots hd (fun q cA H1 hK1 hP1 hD1 hS1 => ?_)
  have := va_K.uniq hK (hk E) hK1
  subst this
  exact kk q l p e s m args below meth c H1 locs ls hC ⟨hP1.front, hD1.front⟩ hS1 hl
theorem CG_newq {own : String} {index : Nat} {n : Int32} {N : Nat} (ho : y.cls = own) (hlk : Cond.classLink own index TX ∈ tblG) (hn : ¬ n < 0) (hN : n.toNatClampNeg = N) (hbytes : N * 4 ≤ 536870912) (hcells : cells + 1 ≤ mc) (hslots : slots + N ≤ ms) (hd : decode cc pc = .ok (.anewarray index, 3))
    (kk : ∀ q : Nat, CG y cc nL d mc ms D E A Wn (pc + 3) lv (.ref q :: st) ((q, .inl (E 3, N, .inr (.inr (.inr (.inr (fun _ => none)))))) :: ws) (cells + 1) (slots + N)) : CG y cc nL d mc ms D E A Wn pc lv (.int n :: st) ws cells slots := by
  intro l p e s m args below meth c H locs ls hC hH hS hl
  subst ho
  have hts := hC.2.2.2.2.2.1
  have hK := hC.2.2.2.2.2.2.2.1
  refine va_newq hC.1 hC.2.1 hC.2.2.2.2.1 (hts _ hlk) hC.2.2.2.2.2.2.2.2.2.1.1 hK hH.1 hH.2 hS hC.2.2.2.2.2.2.2.2.1 hn hN hbytes hcells hslots hd (fun q cA H1 hK1 hP1 hD1 hS1 => ?_)
  have := va_K.uniq (k := 3) hK rfl hK1
  subst this
  exact kk q l p e s m args below meth c H1 locs ls hC ⟨hP1.front, hD1.front⟩ hS1 hl
theorem CG_new {own C : String} {T : u_T} {N ci index : Nat} {ty : Nat → FieldType} {fs : List Value} (ho : y.cls = own) (hw : ∀ w ∈ u_ws C T N, w ∈ tblG) (hty : ∀ k, k < N → parseFieldDescriptor (T k).2.2.1 = some (ty k)) (hlk : Cond.classLink own index C ∈ tblG) (hin : Cond.instantiable C N ∈ tblG) (hini : Cond.initialized C ∈ tblG) (hc : classes[ci]? = some (C, T, N)) (hfs : ∀ j, j < N → defaultValue (ty j) = vp_V fs j) (hcells : cells + 1 ≤ mc) (hslots : slots + N ≤ ms) (hd : decode cc pc = .ok (.new index, 3))
    (kk : ∀ q : Nat, CG y cc nL d mc ms D E A Wn (pc + 3) lv (.ref q :: st) ((q, .inr (ci, fs)) :: ws) (cells + 1) (slots + N)) : CG y cc nL d mc ms D E A Wn pc lv st ws cells slots := by
  intro l p e s m args below meth c H locs ls hC hH hS hl
  subst ho
  have hts := hC.2.2.2.2.2.1
  have hK := hC.2.2.2.2.2.2.2.1
  refine va_new hC.1 hC.2.1 hts hw ty hty hC.2.2.2.2.1 (hts _ hlk) (hts _ hin) (hts _ hini) hK hH.1 hH.2 hS hC.2.2.2.2.2.2.2.2.1 hc hfs hcells hslots hd (fun q H1 hP1 hD1 hS1 => ?_)
  exact kk q l p e s m args below meth c H1 locs ls hC ⟨hP1.front, hD1.front⟩ hS1 hl
theorem CG_putF {own ref C : String} {T : u_T} {N ci index a : Nat} {ty0 : Nat → FieldType} {ty : FieldType} {v : Value} {fs fs' : List Value} {ws' : va_W} (q0 : Nat) (k : Nat) (ho : y.cls = own) (hin : y.name = "<init>") (hw : ∀ w ∈ u_ws C T N, w ∈ tblG) (hty : ∀ k, k < N → parseFieldDescriptor (T k).2.2.1 = some (ty0 k)) (hnm : ∀ a, a < N → ∀ b, b < N → a ≠ b → (T a).2.1 ≠ (T b).2.1) (he : ws[q0]? = some (a, .inr (ci, fs))) (hc : classes[ci]? = some (C, T, N)) (hk : k < N) (hlk : Cond.fieldLink own index ref (T k).2.1 (T k).2.2.1 ∈ tblG) (hsame : (T k).1 = ref) (hfin : (T k).2.2.2 = true) (hdecl : (T k).1 = own) (hd1 : parseFieldDescriptor (T k).2.2.1 = some ty) (hn : narrow ty v = v) (hfit : fits ty v = true) (hl1 : k < fs.length) (hf : fs.set k v = fs') (hws : ws.set q0 (a, .inr (ci, fs')) = ws') (hd : decode cc pc = .ok (.putfield index, 3))
    (kk : CG y cc nL d mc ms D E A Wn (pc + 3) lv st ws' cells slots) : CG y cc nL d mc ms D E A Wn pc lv (v :: .ref a :: st) ws cells slots := by
  intro l p e s m args below meth c H locs ls hC hH hS hl
  subst ho; subst hf; subst hws; subst hsame
  have hts := hC.2.2.2.2.2.1
  have hK := hC.2.2.2.2.2.2.2.1
  exact va_putF hC.1 hC.2.1 hts hw ty0 hty hnm hC.2.2.2.2.1 hK hH.1 hH.2 hS q0 he hc k hk (hts _ hlk) (fun _ h => h) hfin (by rw [hC.2.2.2.2.2.2.2.2.2.2]; exact hin) hdecl hd1 hn hfit hl1 hd (fun H1 locs1 hP1 hD1 hS1 => kk l p e s m args below meth c H1 locs1 ls hC ⟨hP1, hD1⟩ hS1 hl)
theorem CG_put {own ref C : String} {T : u_T} {N ci index a : Nat} {ty0 : Nat → FieldType} {ty : FieldType} {v : Value} {fs fs' : List Value} {ws' : va_W} (q0 : Nat) (k : Nat) (ho : y.cls = own) (hw : ∀ w ∈ u_ws C T N, w ∈ tblG) (hty : ∀ k, k < N → parseFieldDescriptor (T k).2.2.1 = some (ty0 k)) (hnm : ∀ a, a < N → ∀ b, b < N → a ≠ b → (T a).2.1 ≠ (T b).2.1) (he : ws[q0]? = some (a, .inr (ci, fs))) (hc : classes[ci]? = some (C, T, N)) (hk : k < N) (hlk : Cond.fieldLink own index ref (T k).2.1 (T k).2.2.1 ∈ tblG) (hsame : (T k).1 = ref) (hfin : (T k).2.2.2 = false) (hd1 : parseFieldDescriptor (T k).2.2.1 = some ty) (hn : narrow ty v = v) (hfit : fits ty v = true) (hl1 : k < fs.length) (hf : fs.set k v = fs') (hws : ws.set q0 (a, .inr (ci, fs')) = ws') (hd : decode cc pc = .ok (.putfield index, 3))
    (kk : CG y cc nL d mc ms D E A Wn (pc + 3) lv st ws' cells slots) : CG y cc nL d mc ms D E A Wn pc lv (v :: .ref a :: st) ws cells slots := by
  intro l p e s m args below meth c H locs ls hC hH hS hl
  subst ho; subst hf; subst hws; subst hsame
  have hts := hC.2.2.2.2.2.1
  have hK := hC.2.2.2.2.2.2.2.1
  exact va_put hC.1 hC.2.1 hts hw ty0 hty hnm hC.2.2.2.2.1 hK hH.1 hH.2 hS q0 he hc k hk (hts _ hlk) (fun _ h => h) hfin hd1 hn hfit hl1 hd (fun H1 locs1 hP1 hD1 hS1 => kk l p e s m args below meth c H1 locs1 ls hC ⟨hP1, hD1⟩ hS1 hl)
theorem CG_get {own ref C : String} {T : u_T} {N ci index a : Nat} {v : Value} {fs : List Value} (q0 : Nat) (k : Nat) (ho : y.cls = own) (hw : ∀ w ∈ u_ws C T N, w ∈ tblG) (he : ws[q0]? = some (a, .inr (ci, fs))) (hc : classes[ci]? = some (C, T, N)) (hk : k < N) (hlk : Cond.fieldLink own index ref (T k).2.1 (T k).2.2.1 ∈ tblG) (hsame : (T k).1 = ref) (hv : fs[k]? = some v) (hd : decode cc pc = .ok (.getfield index, 3))
    (kk : CG y cc nL d mc ms D E A Wn (pc + 3) lv (v :: st) ws cells slots) : CG y cc nL d mc ms D E A Wn pc lv (.ref a :: st) ws cells slots := by
  intro l p e s m args below meth c H locs ls hC hH hS hl
  subst ho; subst hsame
  have hts := hC.2.2.2.2.2.1
  have hK := hC.2.2.2.2.2.2.2.1
  exact va_get hC.1 hC.2.1 hts hw hC.2.2.2.2.1 hK hH.1 q0 he hc k hk (hts _ hlk) (fun _ h => h) hv hd (kk l p e s m args below meth c H locs ls hC hH hS hl)
theorem CG_obj {own : String} {index a : Nat} (ho : y.cls = own) (h1 : Cond.methodLink own index objectInit ∈ tblG) (h2 : Cond.instanceMethod objectInit ∈ tblG) (h3 : Cond.code objectInit ⟨#[0xb1]⟩ 1 none ∈ tblG) (hd : decode cc pc = .ok (.invokespecial index, 3)) (kk : CG y cc nL d mc ms D E A Wn (pc + 3) lv [] ws cells slots) : CG y cc nL d mc ms D E A Wn pc lv [.ref a] ws cells slots := by
  intro l p e s m args below meth c H locs ls hC hH hS hl
  subst ho
  have hts := hC.2.2.2.2.2.1
  refine W.objInit hC.1 hC.2.1 hC.2.2.2.2.1 (hts _ h1) (hts _ h2) (hts _ h3) rfl (by rw [hC.2.2.1]; exact hl.1) rfl hd (by unfold CRm; show 1 ≤ d + 1; omega) (by unfold CRm; show 12 ≤ 64 * (d + 1); omega) ?_
  exact kk l p e s m args below meth c H locs ls hC hH hS hl
theorem CG_ret (hd : decode cc pc = .ok (.return_, 1)) (hw : Wn ws) : CG y cc nL d mc ms D E A Wn pc lv [] ws mc ms := by
  intro l p e s m args below meth c H locs ls hC hH hS hl
  exact W.vret hC.1 hC.2.1 hC.2.2.2.1 (fun t ht hW => ⟨⟨ws, hw, rfl, by rw [ht]; exact hH.1, hH.2⟩, hS.F ht⟩) hS.2.2 hd hC.2.2.2.2.2.2.1
end CROWS
