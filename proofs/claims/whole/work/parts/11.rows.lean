/-! THE LAYER, part b: a row an instruction, over G. -/
section GR
variable {y : MethodName} {cc : ByteArray} {nL : Nat} {rt : Option FieldType} {d : Nat} {Q : Option AV → Mem → Prop} {pc : Nat} {lv lv' : List (Nat × AV)} {st : List AV} {σ : Mem}
theorem r32_toInt {x : Int} (h : R32 x) : (Int32.ofInt x).toInt = x := by
  rw [Int32.toInt_ofInt]
  unfold R32 at h
  exact Int.bmod_eq_of_le (by simp; omega) (by simp; omega)
theorem r64_toInt {x : Int} (h : R64 x) : (Int64.ofInt x).toInt = x := by
  rw [Int64.toInt_ofInt]
  unfold R64 at h
  exact Int.bmod_eq_of_le (by simp; omega) (by simp; omega)
theorem r32_of (x : Int32) : R32 x.toInt := ⟨Int.le_trans (by decide) x.le_toInt, Int.le_trans x.toInt_le (by decide)⟩
theorem r64_of (x : Int64) : R64 x.toInt := ⟨Int.le_trans (by decide) x.le_toInt, Int.le_trans x.toInt_le (by decide)⟩
theorem r32_lt {a b : Int} (ha : R32 a) (hb : R32 b) : Int32.ofInt a < Int32.ofInt b ↔ a < b := by rw [Int32.lt_iff_toInt_lt, r32_toInt ha, r32_toInt hb]
theorem r32_le {a b : Int} (ha : R32 a) (hb : R32 b) : Int32.ofInt a ≤ Int32.ofInt b ↔ a ≤ b := by rw [Int32.le_iff_toInt_le, r32_toInt ha, r32_toInt hb]
theorem r32_eq {a b : Int} (ha : R32 a) (hb : R32 b) : Int32.ofInt a = Int32.ofInt b ↔ a = b := by rw [← Int32.toInt_inj, r32_toInt ha, r32_toInt hb]
theorem r64_lt {a b : Int} (ha : R64 a) (hb : R64 b) : Int64.ofInt a < Int64.ofInt b ↔ a < b := by rw [Int64.lt_iff_toInt_lt, r64_toInt ha, r64_toInt hb]
theorem r64_le {a b : Int} (ha : R64 a) (hb : R64 b) : Int64.ofInt a ≤ Int64.ofInt b ↔ a ≤ b := by rw [Int64.le_iff_toInt_le, r64_toInt ha, r64_toInt hb]
theorem r64_eq {a b : Int} (ha : R64 a) (hb : R64 b) : Int64.ofInt a = Int64.ofInt b ↔ a = b := by rw [← Int64.toInt_inj, r64_toInt ha, r64_toInt hb]
theorem r32_0 : R32 0 := ⟨by decide, by decide⟩
theorem r32_64 {x : Int} (h : R32 x) : R64 x := ⟨by unfold R32 at h; omega, by unfold R32 at h; omega⟩
/-- bits, as the machine has them -/
def bAnd (x y : Int) : Int := (Int32.ofInt x &&& Int32.ofInt y).toInt
def bOr (x y : Int) : Int := (Int32.ofInt x ||| Int32.ofInt y).toInt
def bXor (x y : Int) : Int := (Int32.ofInt x ^^^ Int32.ofInt y).toInt
def bShl (x y : Int) : Int := (Int32.ofInt x <<< (Int32.ofInt y &&& 31)).toInt
def bShr (x y : Int) : Int := (Int32.ofInt x >>> (Int32.ofInt y &&& 31)).toInt
def bUshr (x y : Int) : Int := ((Int32.ofInt x).toUInt32 >>> ((Int32.ofInt y).toUInt32 &&& 31)).toInt32.toInt
def lOr (x y : Int) : Int := (Int64.ofInt x ||| Int64.ofInt y).toInt
def lShl (x y : Int) : Int := (Int64.ofInt x <<< ((Int32.ofInt y).toInt64 &&& 63)).toInt
def lShr (x y : Int) : Int := (Int64.ofInt x >>> ((Int32.ofInt y).toInt64 &&& 63)).toInt
def bI (p : Prop) [Decidable p] : Int := if p then 1 else 0
theorem bI_01 (p : Prop) [Decidable p] : bI p = 0 ∨ bI p = 1 := by unfold bI; split <;> simp
theorem bI_R (p : Prop) [Decidable p] : R32 (bI p) := by unfold bI R32; split <;> simp
theorem bI_0 (p : Prop) [Decidable p] : bI p = 0 ↔ ¬ p := by unfold bI; split <;> simp_all
theorem bI_1 (p : Prop) [Decidable p] : bI p = 1 ↔ p := by unfold bI; split <;> simp_all
theorem ofI_toI (x : Int32) : Int32.ofInt x.toInt = x := Int32.ofInt_toInt x
theorem ofI_toI64 (x : Int64) : Int64.ofInt x.toInt = x := Int64.ofInt_toInt x

theorem G_pick (ks : List Nat) (h : ks.filterMap (fun k => lv[k]?) = lv') (k : G y cc nL rt d Q pc lv' st σ) : G y cc nL rt d Q pc lv st σ := by
  intro l p e s m args below meth c D E ad A H locs ls hC hH hS hl
  have hx := hC.1
  have hb := hC.2.1
  refine k l p e s m args below meth c D E ad A H locs ls hC hH hS (lv_sub hl ks ?_)
  subst h
  unfold lv_pick lvV
  rw [List.map_filterMap]
  congr 1
  funext i
  rw [List.getElem?_map]

theorem G_iload {i : Nat} {x : Int} (k : Nat) (h : lv[k]? = some (i, aI x)) (hd : decode cc pc = .ok (.iload i, 2)) (kk : G y cc nL rt d Q (pc + 2) lv (aI x :: st) σ) : G y cc nL rt d Q pc lv st σ := by
  intro l p e s m args below meth c D E ad A H locs ls hC hH hS hl
  have hx := hC.1
  have hb := hC.2.1
  exact lv_iload hx hb hd (lv_at hl k (by unfold lvV; rw [List.getElem?_map, h]; rfl)) (kk l p e s m args below meth c D E ad A H locs _ hC hH hS hl)

theorem G_iload_n {f : Fin 4} {i : Nat} {x : Int} (k : Nat) (h : lv[k]? = some (i, aI x)) (hi : (f : Nat) = i) (hd : decode cc pc = .ok (.iload_n f, 1)) (kk : G y cc nL rt d Q (pc + 1) lv (aI x :: st) σ) : G y cc nL rt d Q pc lv st σ := by
  intro l p e s m args below meth c D E ad A H locs ls hC hH hS hl
  have hx := hC.1
  have hb := hC.2.1
  exact lv_iload_n hx hb hd hi (lv_at hl k (by unfold lvV; rw [List.getElem?_map, h]; rfl)) (kk l p e s m args below meth c D E ad A H locs _ hC hH hS hl)

theorem G_lload {i : Nat} {x : Int} (k : Nat) (h : lv[k]? = some (i, aL x)) (hd : decode cc pc = .ok (.lload i, 2)) (kk : G y cc nL rt d Q (pc + 2) lv (aL x :: st) σ) : G y cc nL rt d Q pc lv st σ := by
  intro l p e s m args below meth c D E ad A H locs ls hC hH hS hl
  have hx := hC.1
  have hb := hC.2.1
  exact lv_lload hx hb hd (lv_at hl k (by unfold lvV; rw [List.getElem?_map, h]; rfl)) (kk l p e s m args below meth c D E ad A H locs _ hC hH hS hl)

theorem G_lload_n {f : Fin 4} {i : Nat} {x : Int} (k : Nat) (h : lv[k]? = some (i, aL x)) (hi : (f : Nat) = i) (hd : decode cc pc = .ok (.lload_n f, 1)) (kk : G y cc nL rt d Q (pc + 1) lv (aL x :: st) σ) : G y cc nL rt d Q pc lv st σ := by
  intro l p e s m args below meth c D E ad A H locs ls hC hH hS hl
  have hx := hC.1
  have hb := hC.2.1
  exact lv_lload_n hx hb hd hi (lv_at hl k (by unfold lvV; rw [List.getElem?_map, h]; rfl)) (kk l p e s m args below meth c D E ad A H locs _ hC hH hS hl)

theorem G_aload {i q : Nat} (k : Nat) (h : lv[k]? = some (i, aR q)) (hd : decode cc pc = .ok (.aload i, 2)) (kk : G y cc nL rt d Q (pc + 2) lv (aR q :: st) σ) : G y cc nL rt d Q pc lv st σ := by
  intro l p e s m args below meth c D E ad A H locs ls hC hH hS hl
  have hx := hC.1
  have hb := hC.2.1
  exact lv_aload hx hb hd (lv_at hl k (by unfold lvV; rw [List.getElem?_map, h]; rfl)) (kk l p e s m args below meth c D E ad A H locs _ hC hH hS hl)

theorem G_aload_n {f : Fin 4} {i q : Nat} (k : Nat) (h : lv[k]? = some (i, aR q)) (hi : (f : Nat) = i) (hd : decode cc pc = .ok (.aload_n f, 1)) (kk : G y cc nL rt d Q (pc + 1) lv (aR q :: st) σ) : G y cc nL rt d Q pc lv st σ := by
  intro l p e s m args below meth c D E ad A H locs ls hC hH hS hl
  have hx := hC.1
  have hb := hC.2.1
  exact lv_aload_n hx hb hd hi (lv_at hl k (by unfold lvV; rw [List.getElem?_map, h]; rfl)) (kk l p e s m args below meth c D E ad A H locs _ hC hH hS hl)

def lst1 (i : Nat) (v : AV) (lv : List (Nat × AV)) : List (Nat × AV) := (i, v) :: lv.filter (fun q => !(q.1 == i) && !(q.1 + 1 == i && cat q.2 == 2))
def lst2 (i : Nat) (v : AV) (lv : List (Nat × AV)) : List (Nat × AV) := (i, v) :: lv.filter (fun q => !(q.1 == i) && (!(q.1 == i + 1) && !(q.1 + 1 == i && cat q.2 == 2)))
theorem lst1_eq (ad : Nat → Nat) (i : Nat) (v : AV) (lv : List (Nat × AV)) : (i, cv ad v) :: (lvV ad lv).filter (fun q => !(q.1 == i) && !(q.1 + 1 == i && q.2.category == 2)) = lvV ad (lst1 i v lv) := by
  unfold lvV lst1
  rw [List.filter_map, List.map_cons]
  simp only [Function.comp_def, cat_eq]
theorem lst2_eq (ad : Nat → Nat) (i : Nat) (v : AV) (lv : List (Nat × AV)) : (i, cv ad v) :: (lvV ad lv).filter (fun q => !(q.1 == i) && (!(q.1 == i + 1) && !(q.1 + 1 == i && q.2.category == 2))) = lvV ad (lst2 i v lv) := by
  unfold lvV lst2
  rw [List.filter_map, List.map_cons]
  simp only [Function.comp_def, cat_eq]

theorem G_istore {i : Nat} {x : Int} (h : lst1 i (aI x) lv = lv') (hn : i < nL) (hd : decode cc pc = .ok (.istore i, 2)) (kk : G y cc nL rt d Q (pc + 2) lv' st σ) : G y cc nL rt d Q pc lv (aI x :: st) σ := by
  intro l p e s m args below meth c D E ad A H locs ls hC hH hS hl
  have hx := hC.1
  have hb := hC.2.1
  subst h
  exact lv_istore hx hb hd hl hn (lst1_eq ad i (aI x) lv) (fun ls2 hl2 => kk l p e s m args below meth c D E ad A H locs ls2 hC hH hS hl2)

theorem G_istore_n {f : Fin 4} {i : Nat} {x : Int} (h : lst1 i (aI x) lv = lv') (hi : (f : Nat) = i) (hn : i < nL) (hd : decode cc pc = .ok (.istore_n f, 1)) (kk : G y cc nL rt d Q (pc + 1) lv' st σ) : G y cc nL rt d Q pc lv (aI x :: st) σ := by
  intro l p e s m args below meth c D E ad A H locs ls hC hH hS hl
  have hx := hC.1
  have hb := hC.2.1
  subst h
  exact lv_istore_n hx hb hd hi hl hn (lst1_eq ad i (aI x) lv) (fun ls2 hl2 => kk l p e s m args below meth c D E ad A H locs ls2 hC hH hS hl2)

theorem G_lstore {i : Nat} {x : Int} (h : lst2 i (aL x) lv = lv') (hn : i + 1 < nL) (hd : decode cc pc = .ok (.lstore i, 2)) (kk : G y cc nL rt d Q (pc + 2) lv' st σ) : G y cc nL rt d Q pc lv (aL x :: st) σ := by
  intro l p e s m args below meth c D E ad A H locs ls hC hH hS hl
  have hx := hC.1
  have hb := hC.2.1
  subst h
  exact lv_lstore hx hb hd hl hn (lst2_eq ad i (aL x) lv) (fun ls2 hl2 => kk l p e s m args below meth c D E ad A H locs ls2 hC hH hS hl2)

theorem G_lstore_n {f : Fin 4} {i : Nat} {x : Int} (h : lst2 i (aL x) lv = lv') (hi : (f : Nat) = i) (hn : i + 1 < nL) (hd : decode cc pc = .ok (.lstore_n f, 1)) (kk : G y cc nL rt d Q (pc + 1) lv' st σ) : G y cc nL rt d Q pc lv (aL x :: st) σ := by
  intro l p e s m args below meth c D E ad A H locs ls hC hH hS hl
  have hx := hC.1
  have hb := hC.2.1
  subst h
  exact lv_lstore_n hx hb hd hi hl hn (lst2_eq ad i (aL x) lv) (fun ls2 hl2 => kk l p e s m args below meth c D E ad A H locs ls2 hC hH hS hl2)

theorem G_astore {i q : Nat} (h : lst1 i (aR q) lv = lv') (hn : i < nL) (hd : decode cc pc = .ok (.astore i, 2)) (kk : G y cc nL rt d Q (pc + 2) lv' st σ) : G y cc nL rt d Q pc lv (aR q :: st) σ := by
  intro l p e s m args below meth c D E ad A H locs ls hC hH hS hl
  have hx := hC.1
  have hb := hC.2.1
  subst h
  exact lv_astore hx hb hd hl hn (lst1_eq ad i (aR q) lv) (fun ls2 hl2 => kk l p e s m args below meth c D E ad A H locs ls2 hC hH hS hl2)

theorem G_astore_n {f : Fin 4} {i q : Nat} (h : lst1 i (aR q) lv = lv') (hi : (f : Nat) = i) (hn : i < nL) (hd : decode cc pc = .ok (.astore_n f, 1)) (kk : G y cc nL rt d Q (pc + 1) lv' st σ) : G y cc nL rt d Q pc lv (aR q :: st) σ := by
  intro l p e s m args below meth c D E ad A H locs ls hC hH hS hl
  have hx := hC.1
  have hb := hC.2.1
  subst h
  exact lv_astore_n hx hb hd hi hl hn (lst1_eq ad i (aR q) lv) (fun ls2 hl2 => kk l p e s m args below meth c D E ad A H locs ls2 hC hH hS hl2)

theorem G_iinc {i k : Nat} {n x : Int} (hk : lv[k]? = some (i, aI x)) (h : lst1 i (aI (x + n)) lv = lv') (hn : i < nL) (hd : decode cc pc = .ok (.iinc i n, 3)) (kk : G y cc nL rt d Q (pc + 3) lv' st σ) : G y cc nL rt d Q pc lv st σ := by
  intro l p e s m args below meth c D E ad A H locs ls hC hH hS hl
  have hx := hC.1
  have hb := hC.2.1
  subst h
  exact lv_iinc hx hb hd hl (k := k) (by unfold lvV; rw [List.getElem?_map, hk]; rfl) (Int32.ofInt_add x n).symm hn (lst1_eq ad i (aI (x + n)) lv) (fun ls2 hl2 => kk l p e s m args below meth c D E ad A H locs ls2 hC hH hS hl2)

theorem G_iconst {n : Int} (hd : decode cc pc = .ok (.iconst n, 1)) (kk : G y cc nL rt d Q (pc + 1) lv (aI n :: st) σ) : G y cc nL rt d Q pc lv st σ := by
  intro l p e s m args below meth c D E ad A H locs ls hC hH hS hl
  have hx := hC.1
  have hb := hC.2.1
  exact lv_iconst hx hb hd rfl (kk l p e s m args below meth c D E ad A H locs _ hC hH hS hl)

theorem G_bipush {n : Int} (hn : (Int8.ofInt n).toInt32 = Int32.ofInt n) (hd : decode cc pc = .ok (.bipush n, 2)) (kk : G y cc nL rt d Q (pc + 2) lv (aI n :: st) σ) : G y cc nL rt d Q pc lv st σ := by
  intro l p e s m args below meth c D E ad A H locs ls hC hH hS hl
  have hx := hC.1
  have hb := hC.2.1
  exact lv_bipush hx hb hd hn (kk l p e s m args below meth c D E ad A H locs _ hC hH hS hl)

theorem G_sipush {n : Int} (hn : (Int16.ofInt n).toInt32 = Int32.ofInt n) (hd : decode cc pc = .ok (.sipush n, 3)) (kk : G y cc nL rt d Q (pc + 3) lv (aI n :: st) σ) : G y cc nL rt d Q pc lv st σ := by
  intro l p e s m args below meth c D E ad A H locs ls hC hH hS hl
  have hx := hC.1
  have hb := hC.2.1
  exact lv_sipush hx hb hd hn (kk l p e s m args below meth c D E ad A H locs _ hC hH hS hl)

theorem G_ldc {own : String} {n : Int} {v : Int32} {index : Nat} (hy : y.cls = own) (hv : v = Int32.ofInt n) (hw : Cond.constant own index v ∈ tblG) (hd : decode cc pc = .ok (.ldc index, 2)) (kk : G y cc nL rt d Q (pc + 2) lv (aI n :: st) σ) : G y cc nL rt d Q pc lv st σ := by
  intro l p e s m args below meth c D E ad A H locs ls hC hH hS hl
  have hx := hC.1
  have hb := hC.2.1
  subst hv hy
  exact lv_ldc hx hb hC.2.2.2.2.1 (hC.2.2.2.2.2.1 _ hw) hd (kk l p e s m args below meth c D E ad A H locs _ hC hH hS hl)

theorem G_ldcw {own : String} {n : Int} {v : Int32} {index : Nat} (hy : y.cls = own) (hv : v = Int32.ofInt n) (hw : Cond.constant own index v ∈ tblG) (hd : decode cc pc = .ok (.ldc_w index, 3)) (kk : G y cc nL rt d Q (pc + 3) lv (aI n :: st) σ) : G y cc nL rt d Q pc lv st σ := by
  intro l p e s m args below meth c D E ad A H locs ls hC hH hS hl
  have hx := hC.1
  have hb := hC.2.1
  subst hv hy
  exact lv_ldcw hx hb hC.2.2.2.2.1 (hC.2.2.2.2.2.1 _ hw) hd (kk l p e s m args below meth c D E ad A H locs _ hC hH hS hl)

theorem G_ldc2 {own : String} {n : Int} {v : Int64} {index : Nat} (hy : y.cls = own) (hv : v = Int64.ofInt n) (hw : Cond.constantLong own index v ∈ tblG) (hd : decode cc pc = .ok (.ldc2_w index, 3)) (kk : G y cc nL rt d Q (pc + 3) lv (aL n :: st) σ) : G y cc nL rt d Q pc lv st σ := by
  intro l p e s m args below meth c D E ad A H locs ls hC hH hS hl
  have hx := hC.1
  have hb := hC.2.1
  subst hv hy
  exact lv_ldc2 hx hb hC.2.2.2.2.1 (hC.2.2.2.2.2.1 _ hw) hd (kk l p e s m args below meth c D E ad A H locs _ hC hH hS hl)

theorem G_lconst {f : Fin 2} {n : Int} (hn : Int64.ofNat (f : Nat) = Int64.ofInt n) (hd : decode cc pc = .ok (.lconst f, 1)) (kk : G y cc nL rt d Q (pc + 1) lv (aL n :: st) σ) : G y cc nL rt d Q pc lv st σ := by
  intro l p e s m args below meth c D E ad A H locs ls hC hH hS hl
  have hx := hC.1
  have hb := hC.2.1
  exact lv_lconst hx hb hd hn (kk l p e s m args below meth c D E ad A H locs _ hC hH hS hl)

theorem G_null (hd : decode cc pc = .ok (.aconst_null, 1)) (kk : G y cc nL rt d Q (pc + 1) lv (aN :: st) σ) : G y cc nL rt d Q pc lv st σ := by
  intro l p e s m args below meth c D E ad A H locs ls hC hH hS hl
  have hx := hC.1
  have hb := hC.2.1
  exact lv_null hx hb hd (kk l p e s m args below meth c D E ad A H locs _ hC hH hS hl)

theorem G_iadd {a b : Int} (hd : decode cc pc = .ok (.iadd, 1)) (kk : G y cc nL rt d Q (pc + 1) lv (aI (a + b) :: st) σ) : G y cc nL rt d Q pc lv (aI b :: aI a :: st) σ := by
  intro l p e s m args below meth c D E ad A H locs ls hC hH hS hl
  have hx := hC.1
  have hb := hC.2.1
  refine lv_iadd hx hb hd ?_
  have h := kk l p e s m args below meth c D E ad A H locs ls hC hH hS hl
  simp only [List.map_cons, cv, Int32.ofInt_add] at h
  exact h

theorem G_isub {a b : Int} (hd : decode cc pc = .ok (.isub, 1)) (kk : G y cc nL rt d Q (pc + 1) lv (aI (a - b) :: st) σ) : G y cc nL rt d Q pc lv (aI b :: aI a :: st) σ := by
  intro l p e s m args below meth c D E ad A H locs ls hC hH hS hl
  have hx := hC.1
  have hb := hC.2.1
  refine lv_isub hx hb hd ?_
  have h := kk l p e s m args below meth c D E ad A H locs ls hC hH hS hl
  simp only [List.map_cons, cv, Int32.ofInt_sub] at h
  exact h

theorem G_imul {a b : Int} (hd : decode cc pc = .ok (.imul, 1)) (kk : G y cc nL rt d Q (pc + 1) lv (aI (a * b) :: st) σ) : G y cc nL rt d Q pc lv (aI b :: aI a :: st) σ := by
  intro l p e s m args below meth c D E ad A H locs ls hC hH hS hl
  have hx := hC.1
  have hb := hC.2.1
  refine lv_imul hx hb hd ?_
  have h := kk l p e s m args below meth c D E ad A H locs ls hC hH hS hl
  simp only [List.map_cons, cv, Int32.ofInt_mul] at h
  exact h

theorem G_iand {a b : Int} (hd : decode cc pc = .ok (.iand, 1)) (kk : G y cc nL rt d Q (pc + 1) lv (aI (bAnd a b) :: st) σ) : G y cc nL rt d Q pc lv (aI b :: aI a :: st) σ := by
  intro l p e s m args below meth c D E ad A H locs ls hC hH hS hl
  have hx := hC.1
  have hb := hC.2.1
  refine lv_iand hx hb hd ?_
  have h := kk l p e s m args below meth c D E ad A H locs ls hC hH hS hl
  simp only [List.map_cons, cv, bAnd, ofI_toI] at h
  exact h

theorem G_ior {a b : Int} (hd : decode cc pc = .ok (.ior, 1)) (kk : G y cc nL rt d Q (pc + 1) lv (aI (bOr a b) :: st) σ) : G y cc nL rt d Q pc lv (aI b :: aI a :: st) σ := by
  intro l p e s m args below meth c D E ad A H locs ls hC hH hS hl
  have hx := hC.1
  have hb := hC.2.1
  refine lv_ior hx hb hd ?_
  have h := kk l p e s m args below meth c D E ad A H locs ls hC hH hS hl
  simp only [List.map_cons, cv, bOr, ofI_toI] at h
  exact h

theorem G_ixor {a b : Int} (hd : decode cc pc = .ok (.ixor, 1)) (kk : G y cc nL rt d Q (pc + 1) lv (aI (bXor a b) :: st) σ) : G y cc nL rt d Q pc lv (aI b :: aI a :: st) σ := by
  intro l p e s m args below meth c D E ad A H locs ls hC hH hS hl
  have hx := hC.1
  have hb := hC.2.1
  refine lv_ixor hx hb hd ?_
  have h := kk l p e s m args below meth c D E ad A H locs ls hC hH hS hl
  simp only [List.map_cons, cv, bXor, ofI_toI] at h
  exact h

theorem G_ishl {a b : Int} (hd : decode cc pc = .ok (.ishl, 1)) (kk : G y cc nL rt d Q (pc + 1) lv (aI (bShl a b) :: st) σ) : G y cc nL rt d Q pc lv (aI b :: aI a :: st) σ := by
  intro l p e s m args below meth c D E ad A H locs ls hC hH hS hl
  have hx := hC.1
  have hb := hC.2.1
  refine lv_ishl hx hb hd ?_
  have h := kk l p e s m args below meth c D E ad A H locs ls hC hH hS hl
  simp only [List.map_cons, cv, bShl, ofI_toI] at h
  exact h

theorem G_ishr {a b : Int} (hd : decode cc pc = .ok (.ishr, 1)) (kk : G y cc nL rt d Q (pc + 1) lv (aI (bShr a b) :: st) σ) : G y cc nL rt d Q pc lv (aI b :: aI a :: st) σ := by
  intro l p e s m args below meth c D E ad A H locs ls hC hH hS hl
  have hx := hC.1
  have hb := hC.2.1
  refine lv_ishr hx hb hd ?_
  have h := kk l p e s m args below meth c D E ad A H locs ls hC hH hS hl
  simp only [List.map_cons, cv, bShr, ofI_toI] at h
  exact h

theorem G_iushr {a b : Int} (hd : decode cc pc = .ok (.iushr, 1)) (kk : G y cc nL rt d Q (pc + 1) lv (aI (bUshr a b) :: st) σ) : G y cc nL rt d Q pc lv (aI b :: aI a :: st) σ := by
  intro l p e s m args below meth c D E ad A H locs ls hC hH hS hl
  have hx := hC.1
  have hb := hC.2.1
  exact lv_iushr hx hb hd (ofI_toI _).symm (kk l p e s m args below meth c D E ad A H locs _ hC hH hS hl)

theorem G_ineg {a : Int} (hd : decode cc pc = .ok (.ineg, 1)) (kk : G y cc nL rt d Q (pc + 1) lv (aI (-a) :: st) σ) : G y cc nL rt d Q pc lv (aI a :: st) σ := by
  intro l p e s m args below meth c D E ad A H locs ls hC hH hS hl
  have hx := hC.1
  have hb := hC.2.1
  refine lv_ineg hx hb hd ?_
  have h := kk l p e s m args below meth c D E ad A H locs ls hC hH hS hl
  simp only [List.map_cons, cv, Int32.ofInt_neg] at h
  exact h

theorem G_ladd {a b : Int} (hd : decode cc pc = .ok (.ladd, 1)) (kk : G y cc nL rt d Q (pc + 1) lv (aL (a + b) :: st) σ) : G y cc nL rt d Q pc lv (aL b :: aL a :: st) σ := by
  intro l p e s m args below meth c D E ad A H locs ls hC hH hS hl
  have hx := hC.1
  have hb := hC.2.1
  refine lv_ladd hx hb hd ?_
  have h := kk l p e s m args below meth c D E ad A H locs ls hC hH hS hl
  simp only [List.map_cons, cv, Int64.ofInt_add] at h
  exact h

theorem G_lsub {a b : Int} (hd : decode cc pc = .ok (.lsub, 1)) (kk : G y cc nL rt d Q (pc + 1) lv (aL (a - b) :: st) σ) : G y cc nL rt d Q pc lv (aL b :: aL a :: st) σ := by
  intro l p e s m args below meth c D E ad A H locs ls hC hH hS hl
  have hx := hC.1
  have hb := hC.2.1
  refine lv_lsub hx hb hd ?_
  have h := kk l p e s m args below meth c D E ad A H locs ls hC hH hS hl
  simp only [List.map_cons, cv, Int64.ofInt_sub] at h
  exact h

theorem G_lmul {a b : Int} (hd : decode cc pc = .ok (.lmul, 1)) (kk : G y cc nL rt d Q (pc + 1) lv (aL (a * b) :: st) σ) : G y cc nL rt d Q pc lv (aL b :: aL a :: st) σ := by
  intro l p e s m args below meth c D E ad A H locs ls hC hH hS hl
  have hx := hC.1
  have hb := hC.2.1
  refine lv_lmul hx hb hd ?_
  have h := kk l p e s m args below meth c D E ad A H locs ls hC hH hS hl
  simp only [List.map_cons, cv, Int64.ofInt_mul] at h
  exact h

theorem G_lor {a b : Int} (hd : decode cc pc = .ok (.lor, 1)) (kk : G y cc nL rt d Q (pc + 1) lv (aL (lOr a b) :: st) σ) : G y cc nL rt d Q pc lv (aL b :: aL a :: st) σ := by
  intro l p e s m args below meth c D E ad A H locs ls hC hH hS hl
  have hx := hC.1
  have hb := hC.2.1
  refine lv_lor hx hb hd ?_
  have h := kk l p e s m args below meth c D E ad A H locs ls hC hH hS hl
  simp only [List.map_cons, cv, lOr, ofI_toI64] at h
  exact h

theorem G_lneg {a : Int} (hd : decode cc pc = .ok (.lneg, 1)) (kk : G y cc nL rt d Q (pc + 1) lv (aL (-a) :: st) σ) : G y cc nL rt d Q pc lv (aL a :: st) σ := by
  intro l p e s m args below meth c D E ad A H locs ls hC hH hS hl
  have hx := hC.1
  have hb := hC.2.1
  refine lv_lneg hx hb hd ?_
  have h := kk l p e s m args below meth c D E ad A H locs ls hC hH hS hl
  simp only [List.map_cons, cv, Int64.ofInt_neg] at h
  exact h

theorem G_lshl {a b : Int} (hd : decode cc pc = .ok (.lshl, 1)) (kk : G y cc nL rt d Q (pc + 1) lv (aL (lShl a b) :: st) σ) : G y cc nL rt d Q pc lv (aI b :: aL a :: st) σ := by
  intro l p e s m args below meth c D E ad A H locs ls hC hH hS hl
  have hx := hC.1
  have hb := hC.2.1
  exact lv_lshl hx hb hd (ofI_toI64 _).symm (kk l p e s m args below meth c D E ad A H locs _ hC hH hS hl)

theorem G_lshr {a b : Int} (hd : decode cc pc = .ok (.lshr, 1)) (kk : G y cc nL rt d Q (pc + 1) lv (aL (lShr a b) :: st) σ) : G y cc nL rt d Q pc lv (aI b :: aL a :: st) σ := by
  intro l p e s m args below meth c D E ad A H locs ls hC hH hS hl
  have hx := hC.1
  have hb := hC.2.1
  exact lv_lshr hx hb hd (ofI_toI64 _).symm (kk l p e s m args below meth c D E ad A H locs _ hC hH hS hl)

theorem G_idiv {a b : Int} (ha : R32 a) (hb2 : R32 b) (hz : b ≠ 0) (hd : decode cc pc = .ok (.idiv, 1)) (kk : G y cc nL rt d Q (pc + 1) lv (aI (a.tdiv b) :: st) σ) : G y cc nL rt d Q pc lv (aI b :: aI a :: st) σ := by
  intro l p e s m args below meth c D E ad A H locs ls hC hH hS hl
  have hx := hC.1
  have hb := hC.2.1
  refine lv_idiv hx hb hd (fun h => hz ((r32_eq hb2 r32_0).mp h)) ?_
  have h := kk l p e s m args below meth c D E ad A H locs ls hC hH hS hl
  have he : Int32.ofInt a / Int32.ofInt b = Int32.ofInt (a.tdiv b) := by
    rw [← Int32.toInt_inj, Int32.toInt_div, r32_toInt ha, r32_toInt hb2]; exact Int32.toInt_ofInt.symm
  simp only [List.map_cons, cv] at h
  rw [he]
  exact h

theorem G_ldiv {a b : Int} (ha : R64 a) (hb2 : R64 b) (hz : b ≠ 0) (hd : decode cc pc = .ok (.ldiv, 1)) (kk : G y cc nL rt d Q (pc + 1) lv (aL (a.tdiv b) :: st) σ) : G y cc nL rt d Q pc lv (aL b :: aL a :: st) σ := by
  intro l p e s m args below meth c D E ad A H locs ls hC hH hS hl
  have hx := hC.1
  have hb := hC.2.1
  refine lv_ldiv hx hb hd (fun h => hz ((r64_eq hb2 (b := 0) ⟨by decide, by decide⟩).mp h)) ?_
  have h := kk l p e s m args below meth c D E ad A H locs ls hC hH hS hl
  have he : Int64.ofInt a / Int64.ofInt b = Int64.ofInt (a.tdiv b) := by
    rw [← Int64.toInt_inj, Int64.toInt_div, r64_toInt ha, r64_toInt hb2]; exact Int64.toInt_ofInt.symm
  simp only [List.map_cons, cv] at h
  rw [he]
  exact h

theorem G_irem {a b : Int} (ha : R32 a) (hb2 : R32 b) (hz : b ≠ 0) (hd : decode cc pc = .ok (.irem, 1)) (kk : G y cc nL rt d Q (pc + 1) lv (aI (a.tmod b) :: st) σ) : G y cc nL rt d Q pc lv (aI b :: aI a :: st) σ := by
  intro l p e s m args below meth c D E ad A H locs ls hC hH hS hl
  have hx := hC.1
  have hb := hC.2.1
  refine lv_irem hx hb hd (fun h => hz ((r32_eq hb2 r32_0).mp h)) ?_
  have h := kk l p e s m args below meth c D E ad A H locs ls hC hH hS hl
  have he : Int32.ofInt a - Int32.ofInt a / Int32.ofInt b * Int32.ofInt b = Int32.ofInt (a.tmod b) := by
    have he : Int32.ofInt a / Int32.ofInt b = Int32.ofInt (a.tdiv b) := by
      rw [← Int32.toInt_inj, Int32.toInt_div, r32_toInt ha, r32_toInt hb2]; exact Int32.toInt_ofInt.symm
    rw [he, ← Int32.ofInt_mul, ← Int32.ofInt_sub]
    congr 1
    have := Int.mul_tdiv_add_tmod a b
    rw [Int.mul_comm] at this
    omega
  simp only [List.map_cons, cv] at h
  rw [he]
  exact h

theorem G_lrem {a b : Int} (ha : R64 a) (hb2 : R64 b) (hz : b ≠ 0) (hd : decode cc pc = .ok (.lrem, 1)) (kk : G y cc nL rt d Q (pc + 1) lv (aL (a.tmod b) :: st) σ) : G y cc nL rt d Q pc lv (aL b :: aL a :: st) σ := by
  intro l p e s m args below meth c D E ad A H locs ls hC hH hS hl
  have hx := hC.1
  have hb := hC.2.1
  refine lv_lrem hx hb hd (fun h => hz ((r64_eq hb2 (b := 0) ⟨by decide, by decide⟩).mp h)) ?_
  have h := kk l p e s m args below meth c D E ad A H locs ls hC hH hS hl
  have he : Int64.ofInt a - Int64.ofInt a / Int64.ofInt b * Int64.ofInt b = Int64.ofInt (a.tmod b) := by
    have he : Int64.ofInt a / Int64.ofInt b = Int64.ofInt (a.tdiv b) := by
      rw [← Int64.toInt_inj, Int64.toInt_div, r64_toInt ha, r64_toInt hb2]; exact Int64.toInt_ofInt.symm
    rw [he, ← Int64.ofInt_mul, ← Int64.ofInt_sub]
    congr 1
    have := Int.mul_tdiv_add_tmod a b
    rw [Int.mul_comm] at this
    omega
  simp only [List.map_cons, cv] at h
  rw [he]
  exact h

theorem G_i2l {a : Int} (ha : R32 a) (hd : decode cc pc = .ok (.i2l, 1)) (kk : G y cc nL rt d Q (pc + 1) lv (aL a :: st) σ) : G y cc nL rt d Q pc lv (aI a :: st) σ := by
  intro l p e s m args below meth c D E ad A H locs ls hC hH hS hl
  have hx := hC.1
  have hb := hC.2.1
  refine lv_i2l hx hb hd ?_ (kk l p e s m args below meth c D E ad A H locs _ hC hH hS hl)
  rw [← Int64.toInt_inj, Int32.toInt_toInt64, r32_toInt ha, r64_toInt (r32_64 ha)]

theorem G_l2i {a : Int} (hd : decode cc pc = .ok (.l2i, 1)) (kk : G y cc nL rt d Q (pc + 1) lv (aI a :: st) σ) : G y cc nL rt d Q pc lv (aL a :: st) σ := by
  intro l p e s m args below meth c D E ad A H locs ls hC hH hS hl
  have hx := hC.1
  have hb := hC.2.1
  refine lv_l2i hx hb hd ?_ (kk l p e s m args below meth c D E ad A H locs _ hC hH hS hl)
  exact Int64.toInt32_ofInt

theorem G_i2c {a : Int} (ha : 0 ≤ a ∧ a < 65536) (hd : decode cc pc = .ok (.i2c, 1)) (kk : G y cc nL rt d Q (pc + 1) lv (aI a :: st) σ) : G y cc nL rt d Q pc lv (aI a :: st) σ := by
  intro l p e s m args below meth c D E ad A H locs ls hC hH hS hl
  have hx := hC.1
  have hb := hC.2.1
  refine lv_i2c hx hb hd ?_ (kk l p e s m args below meth c D E ad A H locs _ hC hH hS hl)
  obtain ⟨n, rfl⟩ : ∃ n : Nat, a = n := ⟨a.toNat, by omega⟩
  have hn : n < 65536 := by omega
  have h1 : Int32.ofInt (n : Int) = Int32.ofNat n := rfl
  rw [h1]
  have h2 : (Int32.ofNat n).toUInt32 = UInt32.ofNat n := rfl
  rw [h2]
  have h3 : UInt32.ofNat n % 65536 = UInt32.ofNat n := by
    rw [← UInt32.toNat_inj]
    simp
    omega
  rw [h3]
  rfl

theorem G_dup {v : AV} (hv : cat v = 1) (hd : decode cc pc = .ok (.dup, 1)) (kk : G y cc nL rt d Q (pc + 1) lv (v :: v :: st) σ) : G y cc nL rt d Q pc lv (v :: st) σ := by
  intro l p e s m args below meth c D E ad A H locs ls hC hH hS hl
  have hx := hC.1
  have hb := hC.2.1
  exact lv_dup hx hb hd (by rw [cat_eq]; exact hv) (kk l p e s m args below meth c D E ad A H locs _ hC hH hS hl)

theorem G_dup2 {v w : AV} (hv : cat v = 1) (hw : cat w = 1) (hd : decode cc pc = .ok (.dup2, 1)) (kk : G y cc nL rt d Q (pc + 1) lv (v :: w :: v :: w :: st) σ) : G y cc nL rt d Q pc lv (v :: w :: st) σ := by
  intro l p e s m args below meth c D E ad A H locs ls hC hH hS hl
  have hx := hC.1
  have hb := hC.2.1
  exact lv_dup2_11 hx hb hd (by rw [cat_eq]; exact hv) (by rw [cat_eq]; exact hw) (kk l p e s m args below meth c D E ad A H locs _ hC hH hS hl)

theorem G_pop {v : AV} (hv : cat v = 1) (hd : decode cc pc = .ok (.pop, 1)) (kk : G y cc nL rt d Q (pc + 1) lv st σ) : G y cc nL rt d Q pc lv (v :: st) σ := by
  intro l p e s m args below meth c D E ad A H locs ls hC hH hS hl
  have hx := hC.1
  have hb := hC.2.1
  exact lv_pop hx hb hd (by rw [cat_eq]; exact hv) (kk l p e s m args below meth c D E ad A H locs _ hC hH hS hl)

theorem G_goto {off : Int} {tgt : Nat} (hd : decode cc pc = .ok (.goto off, 3)) (ht : (pc : Int) + off = (tgt : Int)) (kk : G y cc nL rt d Q tgt lv st σ) : G y cc nL rt d Q pc lv st σ := by
  intro l p e s m args below meth c D E ad A H locs ls hC hH hS hl
  have hx := hC.1
  have hb := hC.2.1
  exact lv_goto hx hb hd ht (kk l p e s m args below meth c D E ad A H locs _ hC hH hS hl)

theorem G_icmp_eq {a b : Int} {off : Int} {tgt : Nat} (ha : R32 a) (hb2 : R32 b) (hd : decode cc pc = .ok (.if_icmp .eq off, 3)) (ht : (pc : Int) + off = (tgt : Int)) (kt : a = b → G y cc nL rt d Q tgt lv st σ) (kf : a ≠ b → G y cc nL rt d Q (pc + 3) lv st σ) : G y cc nL rt d Q pc lv (aI b :: aI a :: st) σ := by
  intro l p e s m args below meth c D E ad A H locs ls hC hH hS hl
  have hx := hC.1
  have hb := hC.2.1
  have e1 := r32_lt ha hb2
  have e2 := r32_le ha hb2
  have e3 := r32_eq ha hb2
  have e4 := r32_lt hb2 ha
  have e5 := r32_le hb2 ha
  refine lv_icmp_eq hx hb hd ht (fun q => kt ?_ l p e s m args below meth c D E ad A H locs _ hC hH hS hl) (fun q => kf ?_ l p e s m args below meth c D E ad A H locs _ hC hH hS hl)
  · simp only [GE.ge, GT.gt, ne_eq, e1, e2, e3, e4, e5] at q; omega
  · simp only [GE.ge, GT.gt, ne_eq, e1, e2, e3, e4, e5] at q; omega

theorem G_if_eq {a : Int} {off : Int} {tgt : Nat} (ha : R32 a) (hd : decode cc pc = .ok (.ifCond .eq off, 3)) (ht : (pc : Int) + off = (tgt : Int)) (kt : a = 0 → G y cc nL rt d Q tgt lv st σ) (kf : a ≠ 0 → G y cc nL rt d Q (pc + 3) lv st σ) : G y cc nL rt d Q pc lv (aI a :: st) σ := by
  intro l p e s m args below meth c D E ad A H locs ls hC hH hS hl
  have hx := hC.1
  have hb := hC.2.1
  have e1 : Int32.ofInt a < 0 ↔ a < 0 := r32_lt ha r32_0
  have e2 : Int32.ofInt a ≤ 0 ↔ a ≤ 0 := r32_le ha r32_0
  have e3 : Int32.ofInt a = 0 ↔ a = 0 := r32_eq ha r32_0
  have e4 : 0 < Int32.ofInt a ↔ 0 < a := r32_lt r32_0 ha
  have e5 : 0 ≤ Int32.ofInt a ↔ 0 ≤ a := r32_le r32_0 ha
  refine lv_if_eq hx hb hd ht (fun q => kt ?_ l p e s m args below meth c D E ad A H locs _ hC hH hS hl) (fun q => kf ?_ l p e s m args below meth c D E ad A H locs _ hC hH hS hl)
  · simp only [GE.ge, GT.gt, ne_eq, e1, e2, e3, e4, e5] at q; omega
  · simp only [GE.ge, GT.gt, ne_eq, e1, e2, e3, e4, e5] at q; omega

theorem G_lcmp_eq {a b : Int} {off : Int} {tgt : Nat} (ha : R64 a) (hb2 : R64 b) (hd0 : decode cc pc = .ok (.lcmp, 1)) (hd : decode cc (pc + 1) = .ok (.ifCond .eq off, 3)) (ht : ((pc + 1 : Nat) : Int) + off = (tgt : Int)) (kt : a = b → G y cc nL rt d Q tgt lv st σ) (kf : a ≠ b → G y cc nL rt d Q (pc + 4) lv st σ) : G y cc nL rt d Q pc lv (aL b :: aL a :: st) σ := by
  intro l p e s m args below meth c D E ad A H locs ls hC hH hS hl
  have hx := hC.1
  have hb := hC.2.1
  have e1 := r64_lt ha hb2
  have e3 := r64_eq ha hb2
  have e4 := r64_lt hb2 ha
  have hc : (Int64.ofInt a < Int64.ofInt b → lg_cmp (Int64.ofInt a) (Int64.ofInt b) = -1) ∧ (Int64.ofInt a = Int64.ofInt b → lg_cmp (Int64.ofInt a) (Int64.ofInt b) = 0) ∧ (Int64.ofInt b < Int64.ofInt a → lg_cmp (Int64.ofInt a) (Int64.ofInt b) = 1) := by
    unfold lg_cmp
    refine ⟨fun h => ?_, fun h => ?_, fun h => ?_⟩
    · rw [if_neg (by rw [GT.gt, e4]; have := e1.mp h; omega), if_neg (by rw [e3]; have := e1.mp h; omega)]
    · rw [if_neg (by rw [GT.gt, e4]; have := e3.mp h; omega), if_pos h]
    · rw [if_pos h]
  refine W.lcmp hx hb hd0 ?_
  refine lv_if_eq hx hb hd ht (fun q => kt ?_ l p e s m args below meth c D E ad A H locs _ hC hH hS hl) (fun q => kf ?_ l p e s m args below meth c D E ad A H locs _ hC hH hS hl)
  · rcases Int.lt_trichotomy a b with h | h | h
    · rw [hc.1 (e1.mpr h)] at q; first | omega | exact absurd q (by decide)
    · rw [hc.2.1 (e3.mpr h)] at q; first | omega | exact absurd q (by decide)
    · rw [hc.2.2 (e4.mpr h)] at q; first | omega | exact absurd q (by decide)
  · rcases Int.lt_trichotomy a b with h | h | h
    · rw [hc.1 (e1.mpr h)] at q; first | omega | exact absurd q (by decide) | exact absurd (by decide) q
    · rw [hc.2.1 (e3.mpr h)] at q; first | omega | exact absurd q (by decide) | exact absurd (by decide) q
    · rw [hc.2.2 (e4.mpr h)] at q; first | omega | exact absurd q (by decide) | exact absurd (by decide) q

theorem G_icmp_ne {a b : Int} {off : Int} {tgt : Nat} (ha : R32 a) (hb2 : R32 b) (hd : decode cc pc = .ok (.if_icmp .ne off, 3)) (ht : (pc : Int) + off = (tgt : Int)) (kt : a ≠ b → G y cc nL rt d Q tgt lv st σ) (kf : a = b → G y cc nL rt d Q (pc + 3) lv st σ) : G y cc nL rt d Q pc lv (aI b :: aI a :: st) σ := by
  intro l p e s m args below meth c D E ad A H locs ls hC hH hS hl
  have hx := hC.1
  have hb := hC.2.1
  have e1 := r32_lt ha hb2
  have e2 := r32_le ha hb2
  have e3 := r32_eq ha hb2
  have e4 := r32_lt hb2 ha
  have e5 := r32_le hb2 ha
  refine lv_icmp_ne hx hb hd ht (fun q => kt ?_ l p e s m args below meth c D E ad A H locs _ hC hH hS hl) (fun q => kf ?_ l p e s m args below meth c D E ad A H locs _ hC hH hS hl)
  · simp only [GE.ge, GT.gt, ne_eq, e1, e2, e3, e4, e5] at q; omega
  · simp only [GE.ge, GT.gt, ne_eq, e1, e2, e3, e4, e5] at q; omega

theorem G_if_ne {a : Int} {off : Int} {tgt : Nat} (ha : R32 a) (hd : decode cc pc = .ok (.ifCond .ne off, 3)) (ht : (pc : Int) + off = (tgt : Int)) (kt : a ≠ 0 → G y cc nL rt d Q tgt lv st σ) (kf : a = 0 → G y cc nL rt d Q (pc + 3) lv st σ) : G y cc nL rt d Q pc lv (aI a :: st) σ := by
  intro l p e s m args below meth c D E ad A H locs ls hC hH hS hl
  have hx := hC.1
  have hb := hC.2.1
  have e1 : Int32.ofInt a < 0 ↔ a < 0 := r32_lt ha r32_0
  have e2 : Int32.ofInt a ≤ 0 ↔ a ≤ 0 := r32_le ha r32_0
  have e3 : Int32.ofInt a = 0 ↔ a = 0 := r32_eq ha r32_0
  have e4 : 0 < Int32.ofInt a ↔ 0 < a := r32_lt r32_0 ha
  have e5 : 0 ≤ Int32.ofInt a ↔ 0 ≤ a := r32_le r32_0 ha
  refine lv_if_ne hx hb hd ht (fun q => kt ?_ l p e s m args below meth c D E ad A H locs _ hC hH hS hl) (fun q => kf ?_ l p e s m args below meth c D E ad A H locs _ hC hH hS hl)
  · simp only [GE.ge, GT.gt, ne_eq, e1, e2, e3, e4, e5] at q; omega
  · simp only [GE.ge, GT.gt, ne_eq, e1, e2, e3, e4, e5] at q; omega

theorem G_lcmp_ne {a b : Int} {off : Int} {tgt : Nat} (ha : R64 a) (hb2 : R64 b) (hd0 : decode cc pc = .ok (.lcmp, 1)) (hd : decode cc (pc + 1) = .ok (.ifCond .ne off, 3)) (ht : ((pc + 1 : Nat) : Int) + off = (tgt : Int)) (kt : a ≠ b → G y cc nL rt d Q tgt lv st σ) (kf : a = b → G y cc nL rt d Q (pc + 4) lv st σ) : G y cc nL rt d Q pc lv (aL b :: aL a :: st) σ := by
  intro l p e s m args below meth c D E ad A H locs ls hC hH hS hl
  have hx := hC.1
  have hb := hC.2.1
  have e1 := r64_lt ha hb2
  have e3 := r64_eq ha hb2
  have e4 := r64_lt hb2 ha
  have hc : (Int64.ofInt a < Int64.ofInt b → lg_cmp (Int64.ofInt a) (Int64.ofInt b) = -1) ∧ (Int64.ofInt a = Int64.ofInt b → lg_cmp (Int64.ofInt a) (Int64.ofInt b) = 0) ∧ (Int64.ofInt b < Int64.ofInt a → lg_cmp (Int64.ofInt a) (Int64.ofInt b) = 1) := by
    unfold lg_cmp
    refine ⟨fun h => ?_, fun h => ?_, fun h => ?_⟩
    · rw [if_neg (by rw [GT.gt, e4]; have := e1.mp h; omega), if_neg (by rw [e3]; have := e1.mp h; omega)]
    · rw [if_neg (by rw [GT.gt, e4]; have := e3.mp h; omega), if_pos h]
    · rw [if_pos h]
  refine W.lcmp hx hb hd0 ?_
  refine lv_if_ne hx hb hd ht (fun q => kt ?_ l p e s m args below meth c D E ad A H locs _ hC hH hS hl) (fun q => kf ?_ l p e s m args below meth c D E ad A H locs _ hC hH hS hl)
  · rcases Int.lt_trichotomy a b with h | h | h
    · rw [hc.1 (e1.mpr h)] at q; first | omega | exact absurd q (by decide)
    · rw [hc.2.1 (e3.mpr h)] at q; first | omega | exact absurd q (by decide)
    · rw [hc.2.2 (e4.mpr h)] at q; first | omega | exact absurd q (by decide)
  · rcases Int.lt_trichotomy a b with h | h | h
    · rw [hc.1 (e1.mpr h)] at q; first | omega | exact absurd q (by decide) | exact absurd (by decide) q
    · rw [hc.2.1 (e3.mpr h)] at q; first | omega | exact absurd q (by decide) | exact absurd (by decide) q
    · rw [hc.2.2 (e4.mpr h)] at q; first | omega | exact absurd q (by decide) | exact absurd (by decide) q

theorem G_icmp_lt {a b : Int} {off : Int} {tgt : Nat} (ha : R32 a) (hb2 : R32 b) (hd : decode cc pc = .ok (.if_icmp .lt off, 3)) (ht : (pc : Int) + off = (tgt : Int)) (kt : a < b → G y cc nL rt d Q tgt lv st σ) (kf : b ≤ a → G y cc nL rt d Q (pc + 3) lv st σ) : G y cc nL rt d Q pc lv (aI b :: aI a :: st) σ := by
  intro l p e s m args below meth c D E ad A H locs ls hC hH hS hl
  have hx := hC.1
  have hb := hC.2.1
  have e1 := r32_lt ha hb2
  have e2 := r32_le ha hb2
  have e3 := r32_eq ha hb2
  have e4 := r32_lt hb2 ha
  have e5 := r32_le hb2 ha
  refine lv_icmp_lt hx hb hd ht (fun q => kt ?_ l p e s m args below meth c D E ad A H locs _ hC hH hS hl) (fun q => kf ?_ l p e s m args below meth c D E ad A H locs _ hC hH hS hl)
  · simp only [GE.ge, GT.gt, ne_eq, e1, e2, e3, e4, e5] at q; omega
  · simp only [GE.ge, GT.gt, ne_eq, e1, e2, e3, e4, e5] at q; omega

theorem G_if_lt {a : Int} {off : Int} {tgt : Nat} (ha : R32 a) (hd : decode cc pc = .ok (.ifCond .lt off, 3)) (ht : (pc : Int) + off = (tgt : Int)) (kt : a < 0 → G y cc nL rt d Q tgt lv st σ) (kf : 0 ≤ a → G y cc nL rt d Q (pc + 3) lv st σ) : G y cc nL rt d Q pc lv (aI a :: st) σ := by
  intro l p e s m args below meth c D E ad A H locs ls hC hH hS hl
  have hx := hC.1
  have hb := hC.2.1
  have e1 : Int32.ofInt a < 0 ↔ a < 0 := r32_lt ha r32_0
  have e2 : Int32.ofInt a ≤ 0 ↔ a ≤ 0 := r32_le ha r32_0
  have e3 : Int32.ofInt a = 0 ↔ a = 0 := r32_eq ha r32_0
  have e4 : 0 < Int32.ofInt a ↔ 0 < a := r32_lt r32_0 ha
  have e5 : 0 ≤ Int32.ofInt a ↔ 0 ≤ a := r32_le r32_0 ha
  refine lv_if_lt hx hb hd ht (fun q => kt ?_ l p e s m args below meth c D E ad A H locs _ hC hH hS hl) (fun q => kf ?_ l p e s m args below meth c D E ad A H locs _ hC hH hS hl)
  · simp only [GE.ge, GT.gt, ne_eq, e1, e2, e3, e4, e5] at q; omega
  · simp only [GE.ge, GT.gt, ne_eq, e1, e2, e3, e4, e5] at q; omega

theorem G_lcmp_lt {a b : Int} {off : Int} {tgt : Nat} (ha : R64 a) (hb2 : R64 b) (hd0 : decode cc pc = .ok (.lcmp, 1)) (hd : decode cc (pc + 1) = .ok (.ifCond .lt off, 3)) (ht : ((pc + 1 : Nat) : Int) + off = (tgt : Int)) (kt : a < b → G y cc nL rt d Q tgt lv st σ) (kf : b ≤ a → G y cc nL rt d Q (pc + 4) lv st σ) : G y cc nL rt d Q pc lv (aL b :: aL a :: st) σ := by
  intro l p e s m args below meth c D E ad A H locs ls hC hH hS hl
  have hx := hC.1
  have hb := hC.2.1
  have e1 := r64_lt ha hb2
  have e3 := r64_eq ha hb2
  have e4 := r64_lt hb2 ha
  have hc : (Int64.ofInt a < Int64.ofInt b → lg_cmp (Int64.ofInt a) (Int64.ofInt b) = -1) ∧ (Int64.ofInt a = Int64.ofInt b → lg_cmp (Int64.ofInt a) (Int64.ofInt b) = 0) ∧ (Int64.ofInt b < Int64.ofInt a → lg_cmp (Int64.ofInt a) (Int64.ofInt b) = 1) := by
    unfold lg_cmp
    refine ⟨fun h => ?_, fun h => ?_, fun h => ?_⟩
    · rw [if_neg (by rw [GT.gt, e4]; have := e1.mp h; omega), if_neg (by rw [e3]; have := e1.mp h; omega)]
    · rw [if_neg (by rw [GT.gt, e4]; have := e3.mp h; omega), if_pos h]
    · rw [if_pos h]
  refine W.lcmp hx hb hd0 ?_
  refine lv_if_lt hx hb hd ht (fun q => kt ?_ l p e s m args below meth c D E ad A H locs _ hC hH hS hl) (fun q => kf ?_ l p e s m args below meth c D E ad A H locs _ hC hH hS hl)
  · rcases Int.lt_trichotomy a b with h | h | h
    · rw [hc.1 (e1.mpr h)] at q; first | omega | exact absurd q (by decide)
    · rw [hc.2.1 (e3.mpr h)] at q; first | omega | exact absurd q (by decide)
    · rw [hc.2.2 (e4.mpr h)] at q; first | omega | exact absurd q (by decide)
  · rcases Int.lt_trichotomy a b with h | h | h
    · rw [hc.1 (e1.mpr h)] at q; first | omega | exact absurd q (by decide) | exact absurd (by decide) q
    · rw [hc.2.1 (e3.mpr h)] at q; first | omega | exact absurd q (by decide) | exact absurd (by decide) q
    · rw [hc.2.2 (e4.mpr h)] at q; first | omega | exact absurd q (by decide) | exact absurd (by decide) q

theorem G_icmp_ge {a b : Int} {off : Int} {tgt : Nat} (ha : R32 a) (hb2 : R32 b) (hd : decode cc pc = .ok (.if_icmp .ge off, 3)) (ht : (pc : Int) + off = (tgt : Int)) (kt : b ≤ a → G y cc nL rt d Q tgt lv st σ) (kf : a < b → G y cc nL rt d Q (pc + 3) lv st σ) : G y cc nL rt d Q pc lv (aI b :: aI a :: st) σ := by
  intro l p e s m args below meth c D E ad A H locs ls hC hH hS hl
  have hx := hC.1
  have hb := hC.2.1
  have e1 := r32_lt ha hb2
  have e2 := r32_le ha hb2
  have e3 := r32_eq ha hb2
  have e4 := r32_lt hb2 ha
  have e5 := r32_le hb2 ha
  refine lv_icmp_ge hx hb hd ht (fun q => kt ?_ l p e s m args below meth c D E ad A H locs _ hC hH hS hl) (fun q => kf ?_ l p e s m args below meth c D E ad A H locs _ hC hH hS hl)
  · simp only [GE.ge, GT.gt, ne_eq, e1, e2, e3, e4, e5] at q; omega
  · simp only [GE.ge, GT.gt, ne_eq, e1, e2, e3, e4, e5] at q; omega

theorem G_if_ge {a : Int} {off : Int} {tgt : Nat} (ha : R32 a) (hd : decode cc pc = .ok (.ifCond .ge off, 3)) (ht : (pc : Int) + off = (tgt : Int)) (kt : 0 ≤ a → G y cc nL rt d Q tgt lv st σ) (kf : a < 0 → G y cc nL rt d Q (pc + 3) lv st σ) : G y cc nL rt d Q pc lv (aI a :: st) σ := by
  intro l p e s m args below meth c D E ad A H locs ls hC hH hS hl
  have hx := hC.1
  have hb := hC.2.1
  have e1 : Int32.ofInt a < 0 ↔ a < 0 := r32_lt ha r32_0
  have e2 : Int32.ofInt a ≤ 0 ↔ a ≤ 0 := r32_le ha r32_0
  have e3 : Int32.ofInt a = 0 ↔ a = 0 := r32_eq ha r32_0
  have e4 : 0 < Int32.ofInt a ↔ 0 < a := r32_lt r32_0 ha
  have e5 : 0 ≤ Int32.ofInt a ↔ 0 ≤ a := r32_le r32_0 ha
  refine lv_if_ge hx hb hd ht (fun q => kt ?_ l p e s m args below meth c D E ad A H locs _ hC hH hS hl) (fun q => kf ?_ l p e s m args below meth c D E ad A H locs _ hC hH hS hl)
  · simp only [GE.ge, GT.gt, ne_eq, e1, e2, e3, e4, e5] at q; omega
  · simp only [GE.ge, GT.gt, ne_eq, e1, e2, e3, e4, e5] at q; omega

theorem G_lcmp_ge {a b : Int} {off : Int} {tgt : Nat} (ha : R64 a) (hb2 : R64 b) (hd0 : decode cc pc = .ok (.lcmp, 1)) (hd : decode cc (pc + 1) = .ok (.ifCond .ge off, 3)) (ht : ((pc + 1 : Nat) : Int) + off = (tgt : Int)) (kt : b ≤ a → G y cc nL rt d Q tgt lv st σ) (kf : a < b → G y cc nL rt d Q (pc + 4) lv st σ) : G y cc nL rt d Q pc lv (aL b :: aL a :: st) σ := by
  intro l p e s m args below meth c D E ad A H locs ls hC hH hS hl
  have hx := hC.1
  have hb := hC.2.1
  have e1 := r64_lt ha hb2
  have e3 := r64_eq ha hb2
  have e4 := r64_lt hb2 ha
  have hc : (Int64.ofInt a < Int64.ofInt b → lg_cmp (Int64.ofInt a) (Int64.ofInt b) = -1) ∧ (Int64.ofInt a = Int64.ofInt b → lg_cmp (Int64.ofInt a) (Int64.ofInt b) = 0) ∧ (Int64.ofInt b < Int64.ofInt a → lg_cmp (Int64.ofInt a) (Int64.ofInt b) = 1) := by
    unfold lg_cmp
    refine ⟨fun h => ?_, fun h => ?_, fun h => ?_⟩
    · rw [if_neg (by rw [GT.gt, e4]; have := e1.mp h; omega), if_neg (by rw [e3]; have := e1.mp h; omega)]
    · rw [if_neg (by rw [GT.gt, e4]; have := e3.mp h; omega), if_pos h]
    · rw [if_pos h]
  refine W.lcmp hx hb hd0 ?_
  refine lv_if_ge hx hb hd ht (fun q => kt ?_ l p e s m args below meth c D E ad A H locs _ hC hH hS hl) (fun q => kf ?_ l p e s m args below meth c D E ad A H locs _ hC hH hS hl)
  · rcases Int.lt_trichotomy a b with h | h | h
    · rw [hc.1 (e1.mpr h)] at q; first | omega | exact absurd q (by decide)
    · rw [hc.2.1 (e3.mpr h)] at q; first | omega | exact absurd q (by decide)
    · rw [hc.2.2 (e4.mpr h)] at q; first | omega | exact absurd q (by decide)
  · rcases Int.lt_trichotomy a b with h | h | h
    · rw [hc.1 (e1.mpr h)] at q; first | omega | exact absurd q (by decide) | exact absurd (by decide) q
    · rw [hc.2.1 (e3.mpr h)] at q; first | omega | exact absurd q (by decide) | exact absurd (by decide) q
    · rw [hc.2.2 (e4.mpr h)] at q; first | omega | exact absurd q (by decide) | exact absurd (by decide) q

theorem G_icmp_gt {a b : Int} {off : Int} {tgt : Nat} (ha : R32 a) (hb2 : R32 b) (hd : decode cc pc = .ok (.if_icmp .gt off, 3)) (ht : (pc : Int) + off = (tgt : Int)) (kt : b < a → G y cc nL rt d Q tgt lv st σ) (kf : a ≤ b → G y cc nL rt d Q (pc + 3) lv st σ) : G y cc nL rt d Q pc lv (aI b :: aI a :: st) σ := by
  intro l p e s m args below meth c D E ad A H locs ls hC hH hS hl
  have hx := hC.1
  have hb := hC.2.1
  have e1 := r32_lt ha hb2
  have e2 := r32_le ha hb2
  have e3 := r32_eq ha hb2
  have e4 := r32_lt hb2 ha
  have e5 := r32_le hb2 ha
  refine lv_icmp_gt hx hb hd ht (fun q => kt ?_ l p e s m args below meth c D E ad A H locs _ hC hH hS hl) (fun q => kf ?_ l p e s m args below meth c D E ad A H locs _ hC hH hS hl)
  · simp only [GE.ge, GT.gt, ne_eq, e1, e2, e3, e4, e5] at q; omega
  · simp only [GE.ge, GT.gt, ne_eq, e1, e2, e3, e4, e5] at q; omega

theorem G_if_gt {a : Int} {off : Int} {tgt : Nat} (ha : R32 a) (hd : decode cc pc = .ok (.ifCond .gt off, 3)) (ht : (pc : Int) + off = (tgt : Int)) (kt : 0 < a → G y cc nL rt d Q tgt lv st σ) (kf : a ≤ 0 → G y cc nL rt d Q (pc + 3) lv st σ) : G y cc nL rt d Q pc lv (aI a :: st) σ := by
  intro l p e s m args below meth c D E ad A H locs ls hC hH hS hl
  have hx := hC.1
  have hb := hC.2.1
  have e1 : Int32.ofInt a < 0 ↔ a < 0 := r32_lt ha r32_0
  have e2 : Int32.ofInt a ≤ 0 ↔ a ≤ 0 := r32_le ha r32_0
  have e3 : Int32.ofInt a = 0 ↔ a = 0 := r32_eq ha r32_0
  have e4 : 0 < Int32.ofInt a ↔ 0 < a := r32_lt r32_0 ha
  have e5 : 0 ≤ Int32.ofInt a ↔ 0 ≤ a := r32_le r32_0 ha
  refine lv_if_gt hx hb hd ht (fun q => kt ?_ l p e s m args below meth c D E ad A H locs _ hC hH hS hl) (fun q => kf ?_ l p e s m args below meth c D E ad A H locs _ hC hH hS hl)
  · simp only [GE.ge, GT.gt, ne_eq, e1, e2, e3, e4, e5] at q; omega
  · simp only [GE.ge, GT.gt, ne_eq, e1, e2, e3, e4, e5] at q; omega

theorem G_lcmp_gt {a b : Int} {off : Int} {tgt : Nat} (ha : R64 a) (hb2 : R64 b) (hd0 : decode cc pc = .ok (.lcmp, 1)) (hd : decode cc (pc + 1) = .ok (.ifCond .gt off, 3)) (ht : ((pc + 1 : Nat) : Int) + off = (tgt : Int)) (kt : b < a → G y cc nL rt d Q tgt lv st σ) (kf : a ≤ b → G y cc nL rt d Q (pc + 4) lv st σ) : G y cc nL rt d Q pc lv (aL b :: aL a :: st) σ := by
  intro l p e s m args below meth c D E ad A H locs ls hC hH hS hl
  have hx := hC.1
  have hb := hC.2.1
  have e1 := r64_lt ha hb2
  have e3 := r64_eq ha hb2
  have e4 := r64_lt hb2 ha
  have hc : (Int64.ofInt a < Int64.ofInt b → lg_cmp (Int64.ofInt a) (Int64.ofInt b) = -1) ∧ (Int64.ofInt a = Int64.ofInt b → lg_cmp (Int64.ofInt a) (Int64.ofInt b) = 0) ∧ (Int64.ofInt b < Int64.ofInt a → lg_cmp (Int64.ofInt a) (Int64.ofInt b) = 1) := by
    unfold lg_cmp
    refine ⟨fun h => ?_, fun h => ?_, fun h => ?_⟩
    · rw [if_neg (by rw [GT.gt, e4]; have := e1.mp h; omega), if_neg (by rw [e3]; have := e1.mp h; omega)]
    · rw [if_neg (by rw [GT.gt, e4]; have := e3.mp h; omega), if_pos h]
    · rw [if_pos h]
  refine W.lcmp hx hb hd0 ?_
  refine lv_if_gt hx hb hd ht (fun q => kt ?_ l p e s m args below meth c D E ad A H locs _ hC hH hS hl) (fun q => kf ?_ l p e s m args below meth c D E ad A H locs _ hC hH hS hl)
  · rcases Int.lt_trichotomy a b with h | h | h
    · rw [hc.1 (e1.mpr h)] at q; first | omega | exact absurd q (by decide)
    · rw [hc.2.1 (e3.mpr h)] at q; first | omega | exact absurd q (by decide)
    · rw [hc.2.2 (e4.mpr h)] at q; first | omega | exact absurd q (by decide)
  · rcases Int.lt_trichotomy a b with h | h | h
    · rw [hc.1 (e1.mpr h)] at q; first | omega | exact absurd q (by decide) | exact absurd (by decide) q
    · rw [hc.2.1 (e3.mpr h)] at q; first | omega | exact absurd q (by decide) | exact absurd (by decide) q
    · rw [hc.2.2 (e4.mpr h)] at q; first | omega | exact absurd q (by decide) | exact absurd (by decide) q

theorem G_icmp_le {a b : Int} {off : Int} {tgt : Nat} (ha : R32 a) (hb2 : R32 b) (hd : decode cc pc = .ok (.if_icmp .le off, 3)) (ht : (pc : Int) + off = (tgt : Int)) (kt : a ≤ b → G y cc nL rt d Q tgt lv st σ) (kf : b < a → G y cc nL rt d Q (pc + 3) lv st σ) : G y cc nL rt d Q pc lv (aI b :: aI a :: st) σ := by
  intro l p e s m args below meth c D E ad A H locs ls hC hH hS hl
  have hx := hC.1
  have hb := hC.2.1
  have e1 := r32_lt ha hb2
  have e2 := r32_le ha hb2
  have e3 := r32_eq ha hb2
  have e4 := r32_lt hb2 ha
  have e5 := r32_le hb2 ha
  refine lv_icmp_le hx hb hd ht (fun q => kt ?_ l p e s m args below meth c D E ad A H locs _ hC hH hS hl) (fun q => kf ?_ l p e s m args below meth c D E ad A H locs _ hC hH hS hl)
  · simp only [GE.ge, GT.gt, ne_eq, e1, e2, e3, e4, e5] at q; omega
  · simp only [GE.ge, GT.gt, ne_eq, e1, e2, e3, e4, e5] at q; omega

theorem G_if_le {a : Int} {off : Int} {tgt : Nat} (ha : R32 a) (hd : decode cc pc = .ok (.ifCond .le off, 3)) (ht : (pc : Int) + off = (tgt : Int)) (kt : a ≤ 0 → G y cc nL rt d Q tgt lv st σ) (kf : 0 < a → G y cc nL rt d Q (pc + 3) lv st σ) : G y cc nL rt d Q pc lv (aI a :: st) σ := by
  intro l p e s m args below meth c D E ad A H locs ls hC hH hS hl
  have hx := hC.1
  have hb := hC.2.1
  have e1 : Int32.ofInt a < 0 ↔ a < 0 := r32_lt ha r32_0
  have e2 : Int32.ofInt a ≤ 0 ↔ a ≤ 0 := r32_le ha r32_0
  have e3 : Int32.ofInt a = 0 ↔ a = 0 := r32_eq ha r32_0
  have e4 : 0 < Int32.ofInt a ↔ 0 < a := r32_lt r32_0 ha
  have e5 : 0 ≤ Int32.ofInt a ↔ 0 ≤ a := r32_le r32_0 ha
  refine lv_if_le hx hb hd ht (fun q => kt ?_ l p e s m args below meth c D E ad A H locs _ hC hH hS hl) (fun q => kf ?_ l p e s m args below meth c D E ad A H locs _ hC hH hS hl)
  · simp only [GE.ge, GT.gt, ne_eq, e1, e2, e3, e4, e5] at q; omega
  · simp only [GE.ge, GT.gt, ne_eq, e1, e2, e3, e4, e5] at q; omega

theorem G_lcmp_le {a b : Int} {off : Int} {tgt : Nat} (ha : R64 a) (hb2 : R64 b) (hd0 : decode cc pc = .ok (.lcmp, 1)) (hd : decode cc (pc + 1) = .ok (.ifCond .le off, 3)) (ht : ((pc + 1 : Nat) : Int) + off = (tgt : Int)) (kt : a ≤ b → G y cc nL rt d Q tgt lv st σ) (kf : b < a → G y cc nL rt d Q (pc + 4) lv st σ) : G y cc nL rt d Q pc lv (aL b :: aL a :: st) σ := by
  intro l p e s m args below meth c D E ad A H locs ls hC hH hS hl
  have hx := hC.1
  have hb := hC.2.1
  have e1 := r64_lt ha hb2
  have e3 := r64_eq ha hb2
  have e4 := r64_lt hb2 ha
  have hc : (Int64.ofInt a < Int64.ofInt b → lg_cmp (Int64.ofInt a) (Int64.ofInt b) = -1) ∧ (Int64.ofInt a = Int64.ofInt b → lg_cmp (Int64.ofInt a) (Int64.ofInt b) = 0) ∧ (Int64.ofInt b < Int64.ofInt a → lg_cmp (Int64.ofInt a) (Int64.ofInt b) = 1) := by
    unfold lg_cmp
    refine ⟨fun h => ?_, fun h => ?_, fun h => ?_⟩
    · rw [if_neg (by rw [GT.gt, e4]; have := e1.mp h; omega), if_neg (by rw [e3]; have := e1.mp h; omega)]
    · rw [if_neg (by rw [GT.gt, e4]; have := e3.mp h; omega), if_pos h]
    · rw [if_pos h]
  refine W.lcmp hx hb hd0 ?_
  refine lv_if_le hx hb hd ht (fun q => kt ?_ l p e s m args below meth c D E ad A H locs _ hC hH hS hl) (fun q => kf ?_ l p e s m args below meth c D E ad A H locs _ hC hH hS hl)
  · rcases Int.lt_trichotomy a b with h | h | h
    · rw [hc.1 (e1.mpr h)] at q; first | omega | exact absurd q (by decide)
    · rw [hc.2.1 (e3.mpr h)] at q; first | omega | exact absurd q (by decide)
    · rw [hc.2.2 (e4.mpr h)] at q; first | omega | exact absurd q (by decide)
  · rcases Int.lt_trichotomy a b with h | h | h
    · rw [hc.1 (e1.mpr h)] at q; first | omega | exact absurd q (by decide) | exact absurd (by decide) q
    · rw [hc.2.1 (e3.mpr h)] at q; first | omega | exact absurd q (by decide) | exact absurd (by decide) q
    · rw [hc.2.2 (e4.mpr h)] at q; first | omega | exact absurd q (by decide) | exact absurd (by decide) q

theorem G_ifnull {q : Nat} {off : Int} (hd : decode cc pc = .ok (.ifnull off, 3)) (kk : G y cc nL rt d Q (pc + 3) lv st σ) : G y cc nL rt d Q pc lv (aR q :: st) σ := by
  intro l p e s m args below meth c D E ad A H locs ls hC hH hS hl
  have hx := hC.1
  have hb := hC.2.1
  exact lv_ifnull hx hb hd (kk l p e s m args below meth c D E ad A H locs _ hC hH hS hl)

theorem G_ifnullN {off : Int} {tgt : Nat} (hd : decode cc pc = .ok (.ifnull off, 3)) (ht : (pc : Int) + off = (tgt : Int)) (kk : G y cc nL rt d Q tgt lv st σ) : G y cc nL rt d Q pc lv (aN :: st) σ := by
  intro l p e s m args below meth c D E ad A H locs ls hC hH hS hl
  have hx := hC.1
  have hb := hC.2.1
  exact lv_ifnullN hx hb hd ht (kk l p e s m args below meth c D E ad A H locs _ hC hH hS hl)

theorem G_ifnonnull {q : Nat} {off : Int} {tgt : Nat} (hd : decode cc pc = .ok (.ifnonnull off, 3)) (ht : (pc : Int) + off = (tgt : Int)) (kk : G y cc nL rt d Q tgt lv st σ) : G y cc nL rt d Q pc lv (aR q :: st) σ := by
  intro l p e s m args below meth c D E ad A H locs ls hC hH hS hl
  have hx := hC.1
  have hb := hC.2.1
  exact lv_ifnonnull hx hb hd ht (kk l p e s m args below meth c D E ad A H locs _ hC hH hS hl)

theorem G_ifnonnullN {off : Int} (hd : decode cc pc = .ok (.ifnonnull off, 3)) (kk : G y cc nL rt d Q (pc + 3) lv st σ) : G y cc nL rt d Q pc lv (aN :: st) σ := by
  intro l p e s m args below meth c D E ad A H locs ls hC hH hS hl
  have hx := hC.1
  have hb := hC.2.1
  exact lv_ifnonnullN hx hb hd (kk l p e s m args below meth c D E ad A H locs _ hC hH hS hl)

theorem G_tsw {x dflt lo hi off : Int} {offs : Array Int} {len tgt : Nat} (k : Nat) (v : Int) (hv : lo + k = v) (hr : R32 v) (hle : v ≤ hi) (ho : offs[k]? = some off) (ht : (pc : Int) + off = (tgt : Int)) (hx1 : R32 x) (hd : decode cc pc = .ok (.tableswitch dflt lo hi offs, len)) (kt : x = v → G y cc nL rt d Q tgt lv st σ) (kf : x ≠ v → G y cc nL rt d Q pc lv (aI x :: st) σ) : G y cc nL rt d Q pc lv (aI x :: st) σ := by
  intro l p e s m args below meth c D E ad A H locs ls hC hH hS hl
  have hx := hC.1
  have hb := hC.2.1
  by_cases h : x = v
  · subst h
    have e0 : (Int32.ofInt x).toInt = x := r32_toInt hx1
    refine lv_tableIn hx hb hd (by rw [e0]; omega) (by rw [e0]; omega) (off := off) ?_ ht (kt rfl l p e s m args below meth c D E ad A H locs _ hC hH hS hl)
    rw [e0]
    have : (x - lo).toNat = k := by omega
    rw [this]
    exact ho
  · exact kf h l p e s m args below meth c D E ad A H locs _ hC hH hS hl

theorem G_tswd {x dflt lo hi : Int} {offs : Array Int} {len tgt : Nat} (hx1 : R32 x) (h : x < lo ∨ hi < x) (ht : (pc : Int) + dflt = (tgt : Int)) (hd : decode cc pc = .ok (.tableswitch dflt lo hi offs, len)) (kk : G y cc nL rt d Q tgt lv st σ) : G y cc nL rt d Q pc lv (aI x :: st) σ := by
  intro l p e s m args below meth c D E ad A H locs ls hC hH hS hl
  have hx := hC.1
  have hb := hC.2.1
  exact lv_tableOut hx hb hd (by rw [r32_toInt hx1]; exact h) ht (kk l p e s m args below meth c D E ad A H locs _ hC hH hS hl)

theorem G_lsw {x dflt off : Int} {ps : Array (Int × Int)} {len tgt : Nat} (v : Int) (hp : (ps.toList.zip (ps.toList.drop 1)).all (fun (a, next) => a.1 < next.1) = true) (ho : Op.lookupswitch.offset ps.toList dflt v = off) (ht : (pc : Int) + off = (tgt : Int)) (hx1 : R32 x) (hd : decode cc pc = .ok (.lookupswitch dflt ps, len)) (kt : x = v → G y cc nL rt d Q tgt lv st σ) (kf : x ≠ v → G y cc nL rt d Q pc lv (aI x :: st) σ) : G y cc nL rt d Q pc lv (aI x :: st) σ := by
  intro l p e s m args below meth c D E ad A H locs ls hC hH hS hl
  have hx := hC.1
  have hb := hC.2.1
  by_cases h : x = v
  · subst h
    have e0 : (Int32.ofInt x).toInt = x := r32_toInt hx1
    exact lv_lookup hx hb hd hp (by rw [e0]; exact ho) ht (kt rfl l p e s m args below meth c D E ad A H locs _ hC hH hS hl)
  · exact kf h l p e s m args below meth c D E ad A H locs _ hC hH hS hl

theorem G_lswd {x dflt : Int} {ps : Array (Int × Int)} {len tgt : Nat} (hp : (ps.toList.zip (ps.toList.drop 1)).all (fun (a, next) => a.1 < next.1) = true) (ho : Op.lookupswitch.offset ps.toList dflt x = dflt) (ht : (pc : Int) + dflt = (tgt : Int)) (hx1 : R32 x) (hd : decode cc pc = .ok (.lookupswitch dflt ps, len)) (kk : G y cc nL rt d Q tgt lv st σ) : G y cc nL rt d Q pc lv (aI x :: st) σ := by
  intro l p e s m args below meth c D E ad A H locs ls hC hH hS hl
  have hx := hC.1
  have hb := hC.2.1
  exact lv_lookup hx hb hd hp (by rw [r32_toInt hx1]; exact ho) ht (kk l p e s m args below meth c D E ad A H locs _ hC hH hS hl)

end GR
