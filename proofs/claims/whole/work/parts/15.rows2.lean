section GR2
variable {y : MethodName} {cc : ByteArray} {nL : Nat} {rt : Option FieldType} {d : Nat} {Q : Option AV → Mem → Prop} {pc : Nat} {lv lv' : List (Nat × AV)} {st : List AV} {σ : Mem}
theorem G_astoreN {i : Nat} (h : lst1 i aN lv = lv') (hn : i < nL) (hd : decode cc pc = .ok (.astore i, 2)) (kk : G y cc nL rt d Q (pc + 2) lv' st σ) : G y cc nL rt d Q pc lv (aN :: st) σ := by
  intro l p e s m args below meth c D E ad A H locs ls hC hH hS hl
  have hx := hC.1
  have hb := hC.2.1
  subst h
  exact lv_astoreN hx hb hd hl hn (lst1_eq ad i aN lv) (fun ls2 hl2 => kk l p e s m args below meth c D E ad A H locs ls2 hC hH hS hl2)

theorem G_astore_nN {f : Fin 4} {i : Nat} (h : lst1 i aN lv = lv') (hi : (f : Nat) = i) (hn : i < nL) (hd : decode cc pc = .ok (.astore_n f, 1)) (kk : G y cc nL rt d Q (pc + 1) lv' st σ) : G y cc nL rt d Q pc lv (aN :: st) σ := by
  intro l p e s m args below meth c D E ad A H locs ls hC hH hS hl
  have hx := hC.1
  have hb := hC.2.1
  subst h
  exact lv_astore_nN hx hb hd hi hl hn (lst1_eq ad i aN lv) (fun ls2 hl2 => kk l p e s m args below meth c D E ad A H locs ls2 hC hH hS hl2)

theorem G_aloadN {i : Nat} (k : Nat) (h : lv[k]? = some (i, aN)) (hd : decode cc pc = .ok (.aload i, 2)) (kk : G y cc nL rt d Q (pc + 2) lv (aN :: st) σ) : G y cc nL rt d Q pc lv st σ := by
  intro l p e s m args below meth c D E ad A H locs ls hC hH hS hl
  have hx := hC.1
  have hb := hC.2.1
  exact lv_aloadN hx hb hd (lv_at hl k (by unfold lvV; rw [List.getElem?_map, h]; rfl)) (kk l p e s m args below meth c D E ad A H locs _ hC hH hS hl)

theorem G_aload_nN {f : Fin 4} {i : Nat} (k : Nat) (h : lv[k]? = some (i, aN)) (hi : (f : Nat) = i) (hd : decode cc pc = .ok (.aload_n f, 1)) (kk : G y cc nL rt d Q (pc + 1) lv (aN :: st) σ) : G y cc nL rt d Q pc lv st σ := by
  intro l p e s m args below meth c D E ad A H locs ls hC hH hS hl
  have hx := hC.1
  have hb := hC.2.1
  exact lv_aload_nN hx hb hd hi (lv_at hl k (by unfold lvV; rw [List.getElem?_map, h]; rfl)) (kk l p e s m args below meth c D E ad A H locs _ hC hH hS hl)

end GR2
