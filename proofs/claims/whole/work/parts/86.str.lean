/-! the two String constants: place 1000 + i, their bytes 1010 + i -/
theorem G_ldcS0 {y : MethodName} {cc : ByteArray} {nL : Nat} {rt : Option FieldType} {d : Nat} {Q : Option AV → Mem → Prop} {pc : Nat} {lv : List (Nat × AV)} {st : List AV} {σ : Mem} (hy : y.cls = "LiquoriceRoads$Tape") (hd : decode cc pc = .ok (.ldc 67, 2)) (kk : G y cc nL rt d Q (pc + 2) lv (aR 1000 :: st) σ) : G y cc nL rt d Q pc lv st σ := by
  intro l p e s m args below meth c D E ad A H locs ls hC hH hS hl
  have hX := hC.2.2.2.2.2.2.2.2.2
  exact va_ldcS hC.1 hC.2.1 (by rw [← hy]; exact hC.2.2.2.2.1) hX.2.1 hd (kk l p e s m args below meth c D E ad A H locs ls hC hH hS hl)
theorem G_ldcS1 {y : MethodName} {cc : ByteArray} {nL : Nat} {rt : Option FieldType} {d : Nat} {Q : Option AV → Mem → Prop} {pc : Nat} {lv : List (Nat × AV)} {st : List AV} {σ : Mem} (hy : y.cls = "LiquoriceRoads$Tape") (hd : decode cc pc = .ok (.ldc 60, 2)) (kk : G y cc nL rt d Q (pc + 2) lv (aR 1001 :: st) σ) : G y cc nL rt d Q pc lv st σ := by
  intro l p e s m args below meth c D E ad A H locs ls hC hH hS hl
  have hX := hC.2.2.2.2.2.2.2.2.2
  exact va_ldcS hC.1 hC.2.1 (by rw [← hy]; exact hC.2.2.2.2.1) hX.2.2.1 hd (kk l p e s m args below meth c D E ad A H locs ls hC hH hS hl)
theorem G_sval {y : MethodName} {cc : ByteArray} {nL : Nat} {rt : Option FieldType} {d : Nat} {Q : Option AV → Mem → Prop} {pc : Nat} {lv : List (Nat × AV)} {st : List AV} {σ : Mem} {i : Nat} (hi : i < 2) (hy : y.cls = "java/lang/String") (hw : Cond.fieldLink "java/lang/String" 9 "java/lang/String" "value" "[B" ∈ tblG) (hd : decode cc pc = .ok (.getfield 9, 3)) (kk : G y cc nL rt d Q (pc + 3) lv (aR (1010 + i) :: st) σ) : G y cc nL rt d Q pc lv (aR (1000 + i) :: st) σ := by
  intro l p e s m args below meth c D E ad A H locs ls hC hH hS hl
  have hX := hC.2.2.2.2.2.2.2.2.2
  exact vk_getf hC.1 hC.2.1 (hX.1.1 i hi).2.2.1 hS (by rw [← hy]; exact hC.2.2.2.2.1) (hC.2.2.2.2.2.1 _ hw) (fun x h => h) hd (kk l p e s m args below meth c D E ad A H locs ls hC hH hS hl)
theorem G_scod {y : MethodName} {cc : ByteArray} {nL : Nat} {rt : Option FieldType} {d : Nat} {Q : Option AV → Mem → Prop} {pc : Nat} {lv : List (Nat × AV)} {st : List AV} {σ : Mem} {i : Nat} (hi : i < 2) (hy : y.cls = "java/lang/String") (hw : Cond.fieldLink "java/lang/String" 15 "java/lang/String" "coder" "B" ∈ tblG) (hd : decode cc pc = .ok (.getfield 15, 3)) (kk : G y cc nL rt d Q (pc + 3) lv (aI 0 :: st) σ) : G y cc nL rt d Q pc lv (aR (1000 + i) :: st) σ := by
  intro l p e s m args below meth c D E ad A H locs ls hC hH hS hl
  have hX := hC.2.2.2.2.2.2.2.2.2
  exact vk_getf hC.1 hC.2.1 (hX.1.1 i hi).2.1 hS (by rw [← hy]; exact hC.2.2.2.2.1) (hC.2.2.2.2.2.1 _ hw) (fun x h => h) hd (kk l p e s m args below meth c D E ad A H locs ls hC hH hS hl)
theorem G_scmp {y : MethodName} {cc : ByteArray} {nL : Nat} {rt : Option FieldType} {d : Nat} {Q : Option AV → Mem → Prop} {pc : Nat} {lv : List (Nat × AV)} {st : List AV} {σ : Mem} (hy : y.cls = "java/lang/String") (hw : Cond.fieldLink "java/lang/String" 38 "java/lang/String" "COMPACT_STRINGS" "Z" ∈ tblG) (hd : decode cc pc = .ok (.getstatic 38, 3)) (kk : G y cc nL rt d Q (pc + 3) lv (aI 1 :: st) σ) : G y cc nL rt d Q pc lv st σ := by
  intro l p e s m args below meth c D E ad A H locs ls hC hH hS hl
  have hX := hC.2.2.2.2.2.2.2.2.2
  exact va_gets hC.1 hC.2.1 hX.2.2.2.1 hS (by rw [← hy]; exact hC.2.2.2.2.1) (hC.2.2.2.2.2.1 _ hw) (fun x h => h) hd (kk l p e s m args below meth c D E ad A H locs ls hC hH hS hl)
theorem G_slen {y : MethodName} {cc : ByteArray} {nL : Nat} {rt : Option FieldType} {d : Nat} {Q : Option AV → Mem → Prop} {pc : Nat} {lv : List (Nat × AV)} {st : List AV} {σ : Mem} {i : Nat} {v : Int} (hi : i < 2) (hv : Int32.ofNat (strLen.getD i 0) = Int32.ofInt v) (hd : decode cc pc = .ok (.arraylength, 1)) (kk : G y cc nL rt d Q (pc + 1) lv (aI v :: st) σ) : G y cc nL rt d Q pc lv (aR (1010 + i) :: st) σ := by
  intro l p e s m args below meth c D E ad A H locs ls hC hH hS hl
  have hX := hC.2.2.2.2.2.2.2.2.2
  exact va_tlen hC.1 hC.2.1 (hX.1.1 i hi).2.2.2 hS hv hd (kk l p e s m args below meth c D E ad A H locs ls hC hH hS hl)
