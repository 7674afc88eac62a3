section CROWS2
variable {y : MethodName} {cc : ByteArray} {nL d mc ms : Nat} {D : va_G} {E : Nat → ClassId} {A : Nat → Prop} {Wn : va_W → Prop} {pc : Nat} {lv lv' : List (Nat × Value)} {st : List Value} {ws : va_W} {cells slots : Nat}
theorem pre_at {pre wr : va_W} {x : Nat × va_E} : (pre ++ x :: wr)[pre.length]? = some x := by simp
theorem pre_set {pre wr : va_W} {x x' : Nat × va_E} : (pre ++ x :: wr).set pre.length x' = pre ++ x' :: wr := by simp
theorem CG_putFp {own C : String} {T : u_T} {N ci index a : Nat} {ty0 : Nat → FieldType} {ty : FieldType} {v : Value} {fs fs' : List Value} {wr : va_W} (pre : va_W) (k : Nat) (ho : y.cls = own) (hin : y.name = "<init>") (hw : ∀ w ∈ u_ws C T N, w ∈ tblG) (hty : ∀ k, k < N → parseFieldDescriptor (T k).2.2.1 = some (ty0 k)) (hnm : ∀ a, a < N → ∀ b, b < N → a ≠ b → (T a).2.1 ≠ (T b).2.1) (hc : classes[ci]? = some (C, T, N)) (hk : k < N) (hlk : Cond.fieldLink own index own (T k).2.1 (T k).2.2.1 ∈ tblG) (hfin : (T k).2.2.2 = true) (hdecl : (T k).1 = own) (hd1 : parseFieldDescriptor (T k).2.2.1 = some ty) (hn : narrow ty v = v) (hfit : fits ty v = true) (hl1 : k < fs.length) (hf : fs.set k v = fs') (hd : decode cc pc = .ok (.putfield index, 3))
    (kk : CG y cc nL d mc ms D E A Wn (pc + 3) lv st (pre ++ (a, .inr (ci, fs')) :: wr) cells slots) : CG y cc nL d mc ms D E A Wn pc lv (v :: .ref a :: st) (pre ++ (a, .inr (ci, fs)) :: wr) cells slots :=
  CG_putF pre.length k ho hin hw hty hnm pre_at hc hk hlk hdecl hfin hdecl hd1 hn hfit hl1 hf pre_set hd kk
theorem CG_putp {own C : String} {T : u_T} {N ci index a : Nat} {ty0 : Nat → FieldType} {ty : FieldType} {v : Value} {fs fs' : List Value} {wr : va_W} (pre : va_W) (k : Nat) (ho : y.cls = own) (hw : ∀ w ∈ u_ws C T N, w ∈ tblG) (hty : ∀ k, k < N → parseFieldDescriptor (T k).2.2.1 = some (ty0 k)) (hnm : ∀ a, a < N → ∀ b, b < N → a ≠ b → (T a).2.1 ≠ (T b).2.1) (hc : classes[ci]? = some (C, T, N)) (hk : k < N) (hlk : Cond.fieldLink own index own (T k).2.1 (T k).2.2.1 ∈ tblG) (hsame : (T k).1 = own) (hfin : (T k).2.2.2 = false) (hd1 : parseFieldDescriptor (T k).2.2.1 = some ty) (hn : narrow ty v = v) (hfit : fits ty v = true) (hl1 : k < fs.length) (hf : fs.set k v = fs') (hd : decode cc pc = .ok (.putfield index, 3))
    (kk : CG y cc nL d mc ms D E A Wn (pc + 3) lv st (pre ++ (a, .inr (ci, fs')) :: wr) cells slots) : CG y cc nL d mc ms D E A Wn pc lv (v :: .ref a :: st) (pre ++ (a, .inr (ci, fs)) :: wr) cells slots :=
  CG_put pre.length k ho hw hty hnm pre_at hc hk hlk hsame hfin hd1 hn hfit hl1 hf pre_set hd kk
theorem CG_getp {own C : String} {T : u_T} {N ci index a : Nat} {v : Value} {fs : List Value} {wr : va_W} (pre : va_W) (k : Nat) (ho : y.cls = own) (hw : ∀ w ∈ u_ws C T N, w ∈ tblG) (hc : classes[ci]? = some (C, T, N)) (hk : k < N) (hlk : Cond.fieldLink own index own (T k).2.1 (T k).2.2.1 ∈ tblG) (hsame : (T k).1 = own) (hv : fs[k]? = some v) (hd : decode cc pc = .ok (.getfield index, 3))
    (kk : CG y cc nL d mc ms D E A Wn (pc + 3) lv (v :: st) (pre ++ (a, .inr (ci, fs)) :: wr) cells slots) : CG y cc nL d mc ms D E A Wn pc lv (.ref a :: st) (pre ++ (a, .inr (ci, fs)) :: wr) cells slots :=
  CG_get pre.length k ho hw pre_at hc hk hlk hsame hv hd kk
theorem CG_pre {s : State} {H : Heap} {locs : List Loc} {vs : List Value} {p : Program} {m : MethodId} {args : Array Value} {meth : Method} {c : Code} (hC : CCx y cc nL p s m args meth c D E A) (hH : va_P D classes ws H ∧ va_D A ws) (hS : va_S A s.heap H locs) : PreS s H (va_Pc vs (CPre D E A ws)) vs := by
  refine ⟨fun a U g mk q => ?_, fun U hU hW => ⟨rfl, va_K.moved hW.alike hC.2.2.2.2.2.2.2.1, by rw [hU]; exact hH, fun q hq => hC.2.2.2.2.2.2.2.2.1 q (Nat.le_trans hS.1 (by rw [hU] at hq; exact hq)), hC.2.2.2.2.2.2.2.2.2.1.warm hW⟩⟩
  obtain ⟨q0, qK, qH, qA, qO⟩ := q
  exact ⟨q0, va_K.moved (u := U) (U := U.calling g mk a) (Vm.Alike.refl U.vm) qK, qH, qA, qO.same rfl⟩
theorem CG_ofRun {stk : List Value} {mc' ms' : Nat} {Wn' : va_W → Prop}
    (run : ∀ (l : Launch) (p : Program) (e : Jvm.Env) (s : State) (m : MethodId) (args : Array Value) (below : List Frame) (meth : Method) (c : Code) (H : Heap) (locs : List Loc) (ls : Array Slot),
      CCx y cc nL p s m args meth c D E A → (va_P D classes ws H ∧ va_D A ws) → va_S A s.heap H locs → lv_has ls nL lv →
      ∃ a, va_Run p l e (CRm d mc ms) s m args below meth c H locs cells slots mc' ms' (F0 m pc ls stk) st (CPost D A Wn' a) A)
    (kk : ∀ ws', Wn' ws' → CG y cc nL d mc ms D E A Wn (pc + 3) lv st ws' (cells + mc') (slots + ms')) : CG y cc nL d mc ms D E A Wn pc lv stk ws cells slots := by
  intro l p e s m args below meth c H locs ls hC hH hS hl T hT X
  obtain ⟨a, ha⟩ := run l p e s m args below meth c H locs ls hC hH hS hl
  obtain ⟨v, st₀, t, T', L, h0, X', hL, e1, e2, ⟨⟨ws', hw, hov, hP', hD'⟩, hz, hk⟩, stp⟩ := ha T hT X
  rw [h0] at hz hk
  have hv : v = none := by injection hov
  have hS' : va_S A s.heap T'.heap (locs ++ L) := ⟨Nat.le_trans hS.1 (by rw [e1]; exact hz), fun q h1 h2 => by rw [e1, hk q (Nat.lt_of_lt_of_le h1 hS.1) h2]; exact hS.2.1 q h1 h2, fun q hq => by
      rcases List.mem_append.mp hq with h | h
      · exact hS.2.2 q h
      · exact hL q h⟩
  obtain ⟨t2, a1, b1⟩ := kk ws' hw l p e s m args below meth c T'.heap (locs ++ L) ls hC ⟨by rw [e1]; exact hP', hD'⟩ hS' hl T' rfl X'
  refine ⟨t2, stp t2 ?_, b1⟩
  rw [hv]
  exact a1
def CFi (own : String) (idx : Nat) (y' : MethodName) (cc' : ByteArray) (nL' n : Nat) : Prop := CFb own y' cc' nL' none n ∧ Cond.methodLink own idx y' ∈ tblG ∧ Cond.instanceMethod y' ∈ tblG ∧ y'.name = "<init>"
theorem callB_C {own : String} {idx : Nat} {y' : MethodName} {cc' : ByteArray} {nL' d' mc' ms' n : Nat} {s : State} {args : Array Value} (hts : ∀ w ∈ tblG, w.before args s = true) (hf : CFb own y' cc' nL' none n) (hl : Cond.methodLink own idx y' ∈ tblG) (hdd : d' + 1 ≤ d) : CallB (CRm d mc ms) s args own idx y' cc' nL' none (Cond.code y' cc' nL' none :: tblG) (CRm d' mc' ms') mc' ms' n :=
  callB_of n hts (tblG_in _ _ _ _ hf.2.1) rfl rfl rfl (hts _ hf.1) (hts _ hl) ⟨hf.2.2.1.1, hf.2.2.1.2, hf.2.2.2.1⟩ ⟨by unfold CRm; show d' + 1 + 1 ≤ d + 1; omega, by have := hf.2.2.2.2; unfold CRm; show 8 + (nL' + 11) + 64 * (d' + 1) ≤ 64 * (d + 1); omega⟩
theorem CG_callI {own : String} {idx : Nat} {y' : MethodName} {cc' : ByteArray} {nL' d' mc' ms' n a : Nat} {As stk : List Value} {Wn' : va_W → Prop} (hf : CFi own idx y' cc' nL' n) (ho : y.cls = own) (hM : CMt y' cc' nL' d' mc' ms' (.ref a :: As) D E A ws Wn') (hdd : d' + 1 ≤ d) (hn : As.length = n) (hst : stk = As.reverse ++ .ref a :: st) (h8 : (st.map fun v => v.category).sum ≤ 8) (hcells : cells + mc' ≤ mc) (hslots : slots + ms' ≤ ms) (hd : decode cc pc = .ok (.invokespecial idx, 3))
    (kk : ∀ ws', Wn' ws' → CG y cc nL d mc ms D E A Wn (pc + 3) lv st ws' (cells + mc') (slots + ms')) : CG y cc nL d mc ms D E A Wn pc lv stk ws cells slots := by
  refine CG_ofRun (fun l p e s m args below meth c H locs ls hC hH hS hl => ⟨(.ref a :: As).toArray, ?_⟩) kk
  subst ho
  have hts := hC.2.2.2.2.2.1
  exact va_runI (As := As) (rest := st) (b := a) ⟨hC.1, hC.2.1, hC.2.2.1, hC.2.2.2.2.1, hts⟩ (hM l) ⟨callB_C hts hf.1 hf.2.1 hdd, hf.2.2.2, hts _ hf.2.2.1⟩ (CG_pre hC hH hS) rfl hn hl.1 hst (lv_room h8) hd ⟨hcells, hslots⟩
def CFin (idx : Nat) (y' : MethodName) (cc' : ByteArray) (nL' n : Nat) : Prop := CFb "LiquoriceRoads" y' cc' nL' none n ∧ (idx, y') ∈ nestI ∧ Cond.instanceMethod y' ∈ tblG ∧ y'.name = "<init>"
theorem CG_callIN {idx : Nat} {y' : MethodName} {cc' : ByteArray} {nL' d' mc' ms' n a : Nat} {As stk : List Value} {Wn' : va_W → Prop} (hf : CFin idx y' cc' nL' n) (ho : y.cls = "LiquoriceRoads") (hM : CMt y' cc' nL' d' mc' ms' (.ref a :: As) D E A ws Wn') (hdd : d' + 1 ≤ d) (hn : As.length = n) (hst : stk = As.reverse ++ .ref a :: st) (h8 : (st.map fun v => v.category).sum ≤ 8) (hcells : cells + mc' ≤ mc) (hslots : slots + ms' ≤ ms) (hd : decode cc pc = .ok (.invokespecial idx, 3))
    (kk : ∀ ws', Wn' ws' → CG y cc nL d mc ms D E A Wn (pc + 3) lv st ws' (cells + mc') (slots + ms')) : CG y cc nL d mc ms D E A Wn pc lv stk ws cells slots := by
  refine CG_ofRun (fun l p e s m args below meth c H locs ls hC hH hS hl => ⟨(.ref a :: As).toArray, ?_⟩) kk
  have hts := hC.2.2.2.2.2.1
  have hnw : va_Nw (.methodLinkNest y.cls idx y' "LiquoriceRoads") s := by rw [ho]; exact hC.2.2.2.2.2.2.2.2.2.1.2 _ hf.2.1
  exact va_runIN (As := As) (rest := st) (b := a) ⟨hC.1, hC.2.1, hC.2.2.1, hC.2.2.2.2.1, hts⟩ (hM l) ⟨va_cnB n hts (tblG_in _ _ _ _ hf.1.2.1) rfl rfl rfl hnw (hts _ hf.1.1) ⟨hf.1.2.2.1.1, hf.1.2.2.1.2, hf.1.2.2.2.1⟩ ⟨by unfold CRm; show d' + 1 + 1 ≤ d + 1; omega, by have := hf.1.2.2.2.2; unfold CRm; show 8 + (nL' + 11) + 64 * (d' + 1) ≤ 64 * (d + 1); omega⟩, hf.2.2.2, hts _ hf.2.2.1⟩ (CG_pre hC hH hS) rfl hn hl.1 hst (lv_room h8) hd ⟨hcells, hslots⟩
theorem CG_callVv {own C : String} {idx ci q0 : Nat} {y' : MethodName} {cc' : ByteArray} {nL' d' mc' ms' n a : Nat} {As stk fs : List Value} {r : vw_C} {Wn' : va_W → Prop} (hf : CFv own idx C y' cc' nL' none n) (ho : y.cls = own) (he : ws[q0]? = some (a, .inr (ci, fs))) (hr : classes[ci]? = some r) (hrC : r.1 = C) (hM : CMt y' cc' nL' d' mc' ms' (.ref a :: As) D E A ws Wn') (hdd : d' + 1 ≤ d) (hn : As.length = n) (hst : stk = As.reverse ++ .ref a :: st) (h8 : (st.map fun v => v.category).sum ≤ 8) (hcells : cells + mc' ≤ mc) (hslots : slots + ms' ≤ ms) (hd : decode cc pc = .ok (.invokevirtual idx, 3))
    (kk : ∀ ws', Wn' ws' → CG y cc nL d mc ms D E A Wn (pc + 3) lv st ws' (cells + mc') (slots + ms')) : CG y cc nL d mc ms D E A Wn pc lv stk ws cells slots := by
  refine CG_ofRun (fun l p e s m args below meth c H locs ls hC hH hS hl => ⟨(.ref a :: As).toArray, ?_⟩) kk
  subst ho; subst hrC
  have hts := hC.2.2.2.2.2.1
  have hpre := CG_pre (vs := .ref a :: As) hC hH hS
  have hrecv := va_recv hC.2.2.2.2.2.2.2.1 hH.1 hr he
  exact va_runV (As := As) (rest := st) (b := a) ⟨hC.1, hC.2.1, hC.2.2.1, hC.2.2.2.2.1, hts⟩ (hM l) ⟨callB_C hts hf.1 hf.2.1 hdd, hts _ hf.2.2.1, hts _ hf.2.2.2⟩ ⟨hpre.1, hrecv, hpre.2⟩ rfl hn hl.1 hst (lv_room h8) hd ⟨hcells, hslots⟩
theorem CG_callSv {own : String} {idx : Nat} {y' : MethodName} {cc' : ByteArray} {nL' d' mc' ms' n : Nat} {As stk : List Value} {Wn' : va_W → Prop} (hf : CFs own idx y' cc' nL' none n) (ho : y.cls = own) (hM : CMt y' cc' nL' d' mc' ms' As D E A ws Wn') (hdd : d' + 1 ≤ d) (hn : As.length = n) (hst : stk = As.reverse ++ st) (h8 : (st.map fun v => v.category).sum ≤ 8) (hcells : cells + mc' ≤ mc) (hslots : slots + ms' ≤ ms) (hd : decode cc pc = .ok (.invokestatic idx, 3))
    (kk : ∀ ws', Wn' ws' → CG y cc nL d mc ms D E A Wn (pc + 3) lv st ws' (cells + mc') (slots + ms')) : CG y cc nL d mc ms D E A Wn pc lv stk ws cells slots := by
  refine CG_ofRun (fun l p e s m args below meth c H locs ls hC hH hS hl => ⟨As.toArray, ?_⟩) kk
  subst ho
  have hts := hC.2.2.2.2.2.1
  exact va_runS (As := As) (rest := st) ⟨hC.1, hC.2.1, hC.2.2.1, hC.2.2.2.2.1, hts⟩ (hM l) ⟨callB_C hts hf.1 hf.2.1 hdd, hts _ hf.2.2⟩ (CG_pre hC hH hS) rfl hn hl.1 hst (lv_room h8) hd ⟨hcells, hslots⟩
theorem CG_perm {ws' : va_W} (is : List Nat) (h1 : va_nd is = true) (h2 : is.map (fun i => ws[i]?) = ws'.map some) (kk : CG y cc nL d mc ms D E A Wn pc lv st ws' cells slots) : CG y cc nL d mc ms D E A Wn pc lv st ws cells slots := by
  intro l p e s m args below meth c H locs ls hC hH hS hl
  refine kk l p e s m args below meth c H locs ls hC ⟨?_, hH.2.sub is h1 h2⟩ hS hl
  intro k q hk
  have h3 : (is.map (fun i => ws[i]?))[k]? = some (some q) := by rw [h2, List.getElem?_map, hk]; rfl
  rw [List.getElem?_map] at h3
  cases hi : is[k]? with
  | none => rw [hi] at h3; cases h3
  | some i => rw [hi] at h3; exact hH.1 i q (Option.some.inj h3)
end CROWS2
