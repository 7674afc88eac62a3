/-! the two String constants: place 1000 + i, their bytes 1010 + i -/
theorem G_ldcS0 {y : MethodName} {cc : ByteArray} {nL : Nat} {rt : Option FieldType} {d : Nat} {Q : Option AV → Mem → Prop} {pc : Nat} {lv : List (Nat × AV)} {st : List AV} {σ : Mem} (hy : y.cls = "LiquoriceRoads$Tape") (hd : decode cc pc = .ok (.ldc 67, 2)) (kk : G y cc nL rt d Q (pc + 2) lv (aR 1000 :: st) σ) : G y cc nL rt d Q pc lv st σ := by
  intro l p e s m args below meth c D E ad A H locs ls hC hH hS hl
  have hX := hC.2.2.2.2.2.2.2.2.2
  exact va_ldcS hC.1 hC.2.1 (by rw [← hy]; exact hC.2.2.2.2.1) hX.2.1 hd (kk l p e s m args below meth c D E ad A H locs ls hC hH hS hl)
theorem G_ldcS1 {y : MethodName} {cc : ByteArray} {nL : Nat} {rt : Option FieldType} {d : Nat} {Q : Option AV → Mem → Prop} {pc : Nat} {lv : List (Nat × AV)} {st : List AV} {σ : Mem} (hy : y.cls = "LiquoriceRoads$Tape") (hd : decode cc pc = .ok (.ldc 60, 2)) (kk : G y cc nL rt d Q (pc + 2) lv (aR 1001 :: st) σ) : G y cc nL rt d Q pc lv st σ := by
  intro l p e s m args below meth c D E ad A H locs ls hC hH hS hl
  have hX := hC.2.2.2.2.2.2.2.2.2
  exact va_ldcS hC.1 hC.2.1 (by rw [← hy]; exact hC.2.2.2.2.1) hX.2.2.1 hd (kk l p e s m args below meth c D E ad A H locs ls hC hH hS hl)
theorem G_sval {y : MethodName} {cc : ByteArray} {nL : Nat} {rt : Option FieldType} {d : Nat} {Q : Option AV → Mem → Prop} {pc : Nat} {lv : List (Nat × AV)} {st : List AV} {σ : Mem} {i : Nat} (hi : i < 2) (hy : y.cls = "java/lang/String") (hw : Cond.fieldLink "java/lang/String" 9 "java/lang/String" "value" "[B" ∈ tblG) (hd : decode cc pc = .ok (.getfield 9, 3)) (kk : G y cc nL rt d Q (pc + 3) lv (aR (1010 + i) :: st) σ) : G y cc nL rt d Q pc lv (aR (1000 + i) :: st) σ := by
  intro l p e s m args below meth c D E ad A H locs ls hC hH hS hl
  have hX := hC.2.2.2.2.2.2.2.2.2
  exact vk_getf hC.1 hC.2.1 (hX.1.1 i hi).2.2.1 hS (by rw [← hy]; exact hC.2.2.2.2.1) (hC.2.2.2.2.2.1 _ hw) (fun x h => h) hd (kk l p e s m args below meth c D E ad A H locs ls hC hH hS hl)
theorem G_scod {y : MethodName} {cc : ByteArray} {nL : Nat} {rt : Option FieldType} {d : Nat} {Q : Option AV → Mem → Prop} {pc : Nat} {lv : List (Nat × AV)} {st : List AV} {σ : Mem} {i : Nat} (hi : i < 2) (hy : y.cls = "java/lang/String") (hw : Cond.fieldLink "java/lang/String" 15 "java/lang/String" "coder" "B" ∈ tblG) (hd : decode cc pc = .ok (.getfield 15, 3)) (kk : G y cc nL rt d Q (pc + 3) lv (aI 0 :: st) σ) : G y cc nL rt d Q pc lv (aR (1000 + i) :: st) σ := by
  intro l p e s m args below meth c D E ad A H locs ls hC hH hS hl
  have hX := hC.2.2.2.2.2.2.2.2.2
  exact vk_getf hC.1 hC.2.1 (hX.1.1 i hi).2.1 hS (by rw [← hy]; exact hC.2.2.2.2.1) (hC.2.2.2.2.2.1 _ hw) (fun x h => h) hd (kk l p e s m args below meth c D E ad A H locs ls hC hH hS hl)
theorem G_scmp {y : MethodName} {cc : ByteArray} {nL : Nat} {rt : Option FieldType} {d : Nat} {Q : Option AV → Mem → Prop} {pc : Nat} {lv : List (Nat × AV)} {st : List AV} {σ : Mem} (hy : y.cls = "java/lang/String") (hw : Cond.fieldLink "java/lang/String" 38 "java/lang/String" "COMPACT_STRINGS" "Z" ∈ tblG) (hd : decode cc pc = .ok (.getstatic 38, 3)) (kk : G y cc nL rt d Q (pc + 3) lv (aI 1 :: st) σ) : G y cc nL rt d Q pc lv st σ := by
  intro l p e s m args below meth c D E ad A H locs ls hC hH hS hl
  have hX := hC.2.2.2.2.2.2.2.2.2
  exact va_gets hC.1 hC.2.1 hX.2.2.2.1 hS (by rw [← hy]; exact hC.2.2.2.2.1) (hC.2.2.2.2.2.1 _ hw) (fun x h => h) hd (kk l p e s m args below meth c D E ad A H locs ls hC hH hS hl)
theorem G_slen {y : MethodName} {cc : ByteArray} {nL : Nat} {rt : Option FieldType} {d : Nat} {Q : Option AV → Mem → Prop} {pc : Nat} {lv : List (Nat × AV)} {st : List AV} {σ : Mem} {i : Nat} {v : Int} (hi : i < 2) (hv : Int32.ofNat (strLen.getD i 0) = Int32.ofInt v) (hd : decode cc pc = .ok (.arraylength, 1)) (kk : G y cc nL rt d Q (pc + 1) lv (aI v :: st) σ) : G y cc nL rt d Q pc lv (aR (1010 + i) :: st) σ := by
  intro l p e s m args below meth c D E ad A H locs ls hC hH hS hl
  have hX := hC.2.2.2.2.2.2.2.2.2
  exact va_tlen hC.1 hC.2.1 (hX.1.1 i hi).2.2.2 hS hv hd (kk l p e s m args below meth c D E ad A H locs ls hC hH hS hl)

theorem strLen_lt : ∀ i, i < 2 → strLen.getD i 0 < 2147483648 := by decide +kernel
theorem G_sbyt {y : MethodName} {cc : ByteArray} {nL : Nat} {rt : Option FieldType} {d : Nat} {Q : Option AV → Mem → Prop} {pc : Nat} {lv : List (Nat × AV)} {st : List AV} {σ : Mem} {i : Nat} {k v : Int} (hi : i < 2) (h0 : 0 ≤ k) (h1 : k < (strLen.getD i 0 : Nat)) (hv : (strByt.getD i []).getD k.toNat 0 = Int32.ofInt v) (hd : decode cc pc = .ok (.baload, 1)) (kk : G y cc nL rt d Q (pc + 1) lv (aI v :: st) σ) : G y cc nL rt d Q pc lv (aI k :: aR (1010 + i) :: st) σ := by
  intro l p e s m args below meth c D E ad A H locs ls hC hH hS hl
  have hX := hC.2.2.2.2.2.2.2.2.2
  have hin := idx_in h0 h1 (strLen_lt i hi)
  exact va_tb hC.1 hC.2.1 (hX.1.1 i hi).2.2.2 hS hin.1 (v := .int (Int32.ofInt v)) (by rw [hin.2]; exact congrArg Value.int hv) hd (kk l p e s m args below meth c D E ad A H locs ls hC hH hS hl)
theorem G_callVs {y : MethodName} {cc : ByteArray} {nL : Nat} {rt : Option FieldType} {d : Nat} {Q : Option AV → Mem → Prop} {pc : Nat} {lv : List (Nat × AV)} {st : List AV} {σ : Mem} {own : String} {idx i : Nat} {y' : MethodName} {cc' : ByteArray} {nL' d' n : Nat} {rt' : Option FieldType} {as stk : List AV} {Q' : Option AV → Mem → Prop} (hi : i < 2) (hf : CFv own idx "java/lang/String" y' cc' nL' rt' n) (hy : y.cls = own) (hM : Mt y' cc' nL' rt' d' (aR (1000 + i) :: as) σ Q') (hdd : d' + 1 ≤ d) (hn : as.length = n) (hst : stk = as.reverse ++ aR (1000 + i) :: st) (h8 : (st.map cat).sum ≤ 8) (hd : decode cc pc = .ok (.invokevirtual idx, 3))
    (kk : ∀ r σ', Q' r σ' → OKm σ' → (∀ v, r = some v → okv v) → G y cc nL rt d Q (pc + 3) lv (r.toList ++ st) σ') : G y cc nL rt d Q pc lv stk σ := by
  refine G_ofRun (a := #[]) (fun l p e s m args below meth c D E ad A H locs ls hC hH hS hl => ⟨(Value.ref (ad (1000 + i)) :: as.map (cv ad)).toArray, ?_⟩) kk
  have hpre := pre_G (l := l) (y' := y') (cc' := cc') (nL' := nL') (d' := d') (rt' := rt') (as := aR (1000 + i) :: as) (vs := Value.ref (ad (1000 + i)) :: as.map (cv ad)) rfl hC hH hS
  subst hy
  have hX := hC.2.2.2.2.2.2.2.2.2
  have hrecv := vk_recv hX.1 hi hS
  refine va_runV (As := as.map (cv ad)) (rest := st.map (cv ad)) (b := ad (1000 + i)) ⟨hC.1, hC.2.1, hC.2.2.1, hC.2.2.2.2.1, hC.2.2.2.2.2.1⟩ (hM l D E ad A) ⟨callB_G hC.2.2.2.2.2.1 hf.1 hf.2.1 hdd, hC.2.2.2.2.2.1 _ hf.2.2.1, hC.2.2.2.2.2.1 _ hf.2.2.2⟩ ⟨hpre.1, hrecv, hpre.2⟩ rfl (by rw [List.length_map]; exact hn) hl.1 ?_ (lv_room ?_) hd ⟨Nat.le_refl 0, Nat.le_refl 0⟩
  · rw [hst]; simp [cv]
  · simpa [Function.comp_def, cat_eq] using h8

theorem G_wret {y : MethodName} {cc : ByteArray} {nL : Nat} {rt : Option FieldType} {d : Nat} {Q : Option AV → Mem → Prop} {pc : Nat} {lv : List (Nat × AV)} {σ : Mem} {x : Int} {ty : FieldType} (hr : rt = some ty) (hn : narrow ty (.int (Int32.ofInt x)) = .int (Int32.ofInt x)) (hR : R32 x) (hd : decode cc pc = .ok (.ireturn, 1)) (hq : Q (some (aI x)) σ) (hO : OKm σ) : G y cc nL rt d Q pc lv [aI x] σ := by
  intro l p e s m args below meth c D E ad A H locs ls hC hH hS hl
  have hx := hC.1
  have hb := hC.2.1
  refine W.zret hx hb (by rw [hC.2.2.2.1, hr]) hn (fun t ht hW => ⟨⟨_, σ, hq, hO, fun v hv => by cases hv; exact hR, rfl, by rw [ht]; exact hH⟩, hS.F ht⟩) hS.2.2 hd hC.2.2.2.2.2.2.1

theorem narrow_c {x : Int} (h : 0 ≤ x ∧ x < 65536) : narrow .char (.int (Int32.ofInt x)) = .int (Int32.ofInt x) := by
  obtain ⟨n, rfl⟩ : ∃ n : Nat, x = n := ⟨x.toNat, by omega⟩
  have hn : n < 65536 := by omega
  have h1 : Int32.ofInt (n : Int) = Int32.ofNat n := rfl
  rw [h1]
  have h2 : (Int32.ofNat n).toUInt32 = UInt32.ofNat n := rfl
  have h3 : UInt32.ofNat n % 65536 = UInt32.ofNat n := by
    rw [← UInt32.toNat_inj]
    simp
    omega
  show Value.int ((Int32.ofNat n).toUInt32 % 65536).toInt32 = _
  rw [h2, h3]
  rfl

theorem G_sfmt {y : MethodName} {cc : ByteArray} {nL : Nat} {rt : Option FieldType} {d : Nat} {Q : Option AV → Mem → Prop} {pc : Nat} {lv : List (Nat × AV)} {st : List AV} {σ : Mem} (hy : y.cls = "java/lang/String") (hw : Cond.fieldLink "java/lang/String" 1053 "jdk/internal/util/Preconditions" "SIOOBE_FORMATTER" "Ljava/util/function/BiFunction;" ∈ tblG) (hd : decode cc pc = .ok (.getstatic 1053, 3)) (kk : G y cc nL rt d Q (pc + 3) lv (aR 1020 :: st) σ) (kn : G y cc nL rt d Q (pc + 3) lv (aN :: st) σ) : G y cc nL rt d Q pc lv st σ := by
  intro l p e s m args below meth c D E ad A H locs ls hC hH hS hl
  have hX := hC.2.2.2.2.2.2.2.2.2
  have hz := hX.2.2.2.2.1
  by_cases q : ad 1021 = 0
  · rw [if_pos q] at hz
    exact va_gets hC.1 hC.2.1 hz hS (by rw [← hy]; exact hC.2.2.2.2.1) (hC.2.2.2.2.2.1 _ hw) (fun x h => h) hd (kn l p e s m args below meth c D E ad A H locs ls hC hH hS hl)
  · rw [if_neg q] at hz
    exact va_gets hC.1 hC.2.1 hz hS (by rw [← hy]; exact hC.2.2.2.2.1) (hC.2.2.2.2.2.1 _ hw) (fun x h => h) hd (kk l p e s m args below meth c D E ad A H locs ls hC hH hS hl)
