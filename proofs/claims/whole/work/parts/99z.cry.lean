section CROWS3
variable {y : MethodName} {cc : ByteArray} {nL d mc ms : Nat} {D : va_G} {E : Nat → ClassId} {A : Nat → Prop} {Wn : va_W → Prop} {pc : Nat} {lv lv' : List (Nat × Value)} {st : List Value} {ws ws' : va_W} {cells slots : Nat}
theorem CG_sub (is : List Nat) (h : lv_pick lv is = lv') (kk : CG y cc nL d mc ms D E A Wn pc lv' st ws cells slots) : CG y cc nL d mc ms D E A Wn pc lv st ws cells slots := by
  intro l p e s m args below meth c H locs ls hC hH hS hl
  exact kk l p e s m args below meth c H locs ls hC hH hS (lv_sub hl is h)
theorem CG_istore_n {f : Fin 4} {i : Nat} {x : Int32} (hi : (f : Nat) = i) (hn : i < nL) (hr : (i, Value.int x) :: lv.filter (fun q => !(q.1 == i) && !(q.1 + 1 == i && q.2.category == 2)) = lv') (hd : decode cc pc = .ok (.istore_n f, 1)) (kk : CG y cc nL d mc ms D E A Wn (pc + 1) lv' st ws cells slots) : CG y cc nL d mc ms D E A Wn pc lv (.int x :: st) ws cells slots := by
  intro l p e s m args below meth c H locs ls hC hH hS hl
  exact lv_istore_n hC.1 hC.2.1 hd hi hl hn hr (fun ls2 hl2 => kk l p e s m args below meth c H locs ls2 hC hH hS hl2)
theorem CG_iinc {i k : Nat} {n : Int} {x v : Int32} (hk : lv[k]? = some (i, .int x)) (hv : x + Int32.ofInt n = v) (hn : i < nL) (hr : (i, Value.int v) :: lv.filter (fun q => !(q.1 == i) && !(q.1 + 1 == i && q.2.category == 2)) = lv') (hd : decode cc pc = .ok (.iinc i n, 3)) (kk : CG y cc nL d mc ms D E A Wn (pc + 3) lv' st ws cells slots) : CG y cc nL d mc ms D E A Wn pc lv st ws cells slots := by
  intro l p e s m args below meth c H locs ls hC hH hS hl
  exact lv_iinc hC.1 hC.2.1 hd hl hk hv hn hr (fun ls2 hl2 => kk l p e s m args below meth c H locs ls2 hC hH hS hl2)
theorem CG_icmp_ge {a b : Int32} {off : Int} {tgt : Nat} (hd : decode cc pc = .ok (.if_icmp .ge off, 3)) (ht : (pc : Int) + off = (tgt : Int)) (kt : b ≤ a → CG y cc nL d mc ms D E A Wn tgt lv st ws cells slots) (kf : ¬ b ≤ a → CG y cc nL d mc ms D E A Wn (pc + 3) lv st ws cells slots) : CG y cc nL d mc ms D E A Wn pc lv (.int b :: .int a :: st) ws cells slots := by
  intro l p e s m args below meth c H locs ls hC hH hS hl
  exact lv_icmp_ge hC.1 hC.2.1 hd ht (fun q => kt q l p e s m args below meth c H locs ls hC hH hS hl) (fun q => kf q l p e s m args below meth c H locs ls hC hH hS hl)
theorem CG_icmp_le {a b : Int32} {off : Int} {tgt : Nat} (hd : decode cc pc = .ok (.if_icmp .le off, 3)) (ht : (pc : Int) + off = (tgt : Int)) (kt : a ≤ b → CG y cc nL d mc ms D E A Wn tgt lv st ws cells slots) (kf : ¬ a ≤ b → CG y cc nL d mc ms D E A Wn (pc + 3) lv st ws cells slots) : CG y cc nL d mc ms D E A Wn pc lv (.int b :: .int a :: st) ws cells slots := by
  intro l p e s m args below meth c H locs ls hC hH hS hl
  exact lv_icmp_le hC.1 hC.2.1 hd ht (fun q => kt q l p e s m args below meth c H locs ls hC hH hS hl) (fun q => kf q l p e s m args below meth c H locs ls hC hH hS hl)
theorem CG_if_lt {a : Int32} {off : Int} {tgt : Nat} (hd : decode cc pc = .ok (.ifCond .lt off, 3)) (ht : (pc : Int) + off = (tgt : Int)) (kt : a < 0 → CG y cc nL d mc ms D E A Wn tgt lv st ws cells slots) (kf : ¬ a < 0 → CG y cc nL d mc ms D E A Wn (pc + 3) lv st ws cells slots) : CG y cc nL d mc ms D E A Wn pc lv (.int a :: st) ws cells slots := by
  intro l p e s m args below meth c H locs ls hC hH hS hl
  exact lv_if_lt hC.1 hC.2.1 hd ht (fun q => kt q l p e s m args below meth c H locs ls hC hH hS hl) (fun q => kf q l p e s m args below meth c H locs ls hC hH hS hl)
theorem CG_iald {a n : Nat} {f : Nat → Int32} {i v : Int32} (q0 : Nat) (ha : ws[q0]? = some (a, .inl (E 0, n, .inl f))) (hin : vp_in i n) (hv : f i.toNatClampNeg = v) (hd : decode cc pc = .ok (.iaload, 1)) (kk : CG y cc nL d mc ms D E A Wn (pc + 1) lv (.int v :: st) ws cells slots) : CG y cc nL d mc ms D E A Wn pc lv (.int i :: .ref a :: st) ws cells slots := by
  intro l p e s m args below meth c H locs ls hC hH hS hl
  subst hv
  exact va_iald hC.1 hC.2.1 hC.2.2.2.2.2.2.2.1 hH.1 q0 0 ha rfl hin hd (kk l p e s m args below meth c H locs ls hC hH hS hl)
theorem CG_iast {a n : Nat} {f f' : Nat → Int32} {i x : Int32} (q0 : Nat) (ha : ws[q0]? = some (a, .inl (E 0, n, .inl f))) (hin : vp_in i n) (hf : upd f i.toNatClampNeg x = f') (hw : ws.set q0 (a, .inl (E 0, n, .inl f')) = ws') (hd : decode cc pc = .ok (.iastore, 1)) (kk : CG y cc nL d mc ms D E A Wn (pc + 1) lv st ws' cells slots) : CG y cc nL d mc ms D E A Wn pc lv (.int x :: .int i :: .ref a :: st) ws cells slots := by
  intro l p e s m args below meth c H locs ls hC hH hS hl
  subst hf; subst hw
  exact va_iast hC.1 hC.2.1 hC.2.2.2.2.2.2.2.1 hH.1 hH.2 hS q0 0 ha rfl hin hd (fun H1 locs1 hP1 hD1 hS1 => kk l p e s m args below meth c H1 locs1 ls hC ⟨hP1, hD1⟩ hS1 hl)
theorem CG_alen {a n : Nat} {f : Nat → Int32} {v : Int32} (q0 : Nat) (ha : ws[q0]? = some (a, .inl (E 0, n, .inl f))) (hv : Int32.ofNat n = v) (hd : decode cc pc = .ok (.arraylength, 1)) (kk : CG y cc nL d mc ms D E A Wn (pc + 1) lv (.int v :: st) ws cells slots) : CG y cc nL d mc ms D E A Wn pc lv (.ref a :: st) ws cells slots := by
  intro l p e s m args below meth c H locs ls hC hH hS hl
  exact va_alen hC.1 hC.2.1 hC.2.2.2.2.2.2.2.1 hH.1 q0 0 ha rfl hv hd (kk l p e s m args below meth c H locs ls hC hH hS hl)
theorem CG_copy {own : String} {index a0 a n0 n1 : Nat} {f g g' : Nat → Int32} {sp dp n : Int32} (q0 q1 : Nat) (ho : y.cls = own) (h4 : Cond.methodLink own index arraycopyName ∈ tblG ∧ Cond.native arraycopyName ∈ tblG ∧ Cond.static arraycopyName ∈ tblG ∧ Cond.initialized "java/lang/System" ∈ tblG) (ha0 : ws[q0]? = some (a0, .inl (E 0, n0, .inl f))) (ha1 : ws[q1]? = some (a, .inl (E 0, n1, .inl g))) (h1 : ¬ sp < 0) (h2 : ¬ dp < 0) (h3 : ¬ n < 0) (hb0 : sp.toNatClampNeg + n.toNatClampNeg ≤ n0) (hb1 : dp.toNatClampNeg + n.toNatClampNeg ≤ n1) (hg : va_cpy f g sp.toNatClampNeg dp.toNatClampNeg n.toNatClampNeg = g') (hst : (st.map fun v => v.category).sum ≤ 8) (hw : ws.set q1 (a, .inl (E 0, n1, .inl g')) = ws') (hd : decode cc pc = .ok (.invokestatic index, 3)) (kk : CG y cc nL d mc ms D E A Wn (pc + 3) lv st ws' cells slots) : CG y cc nL d mc ms D E A Wn pc lv (.int n :: .int dp :: .ref a :: .int sp :: .ref a0 :: st) ws cells slots := by
  intro l p e s m args below meth c H locs ls hC hH hS hl
  subst ho; subst hg; subst hw
  have hts := hC.2.2.2.2.2.1
  have hnf : nativeFrameWords "java/lang/System" "arraycopy" 5 ≤ 40 := by decide +kernel
  exact va_copyi hC.1 hC.2.1 (by rw [hC.2.2.1]; exact hl.1.symm) hC.2.2.2.2.1 (hts _ h4.1) (hts _ h4.2.1) (hts _ h4.2.2.1) (hts _ h4.2.2.2) hC.2.2.2.2.2.2.2.1 hH.1 hH.2 hS q0 q1 0 0 ha0 ha1 rfl rfl rfl h1 h2 h3 hb0 hb1 (fun i _ => rfl) (by unfold CRm; show 1 ≤ d + 1; omega) (by unfold CRm; show _ ≤ 64 * (d + 1); omega) hd (fun H1 locs1 hP1 hD1 hS1 => kk l p e s m args below meth c H1 locs1 ls hC ⟨hP1, hD1⟩ hS1 hl)
theorem CG_aast {a n v ci : Nat} {r : vw_C} {vs : List Value} {f f' : Nat → Option Nat} {i : Int32} (q0 qk : Nat) (ha : ws[q0]? = some (a, .inl (E 3, n, .inr (.inr (.inr (.inr f)))))) (hv : ws[qk]? = some (v, .inr (ci, vs))) (hc : classes[ci]? = some r) (hr : r.1 = TX) (hin : vp_in i n) (hf : va_up f i.toNatClampNeg (some v) = f') (hw : ws.set q0 (a, .inl (E 3, n, .inr (.inr (.inr (.inr f'))))) = ws') (hd : decode cc pc = .ok (.aastore, 1)) (kk : CG y cc nL d mc ms D E A Wn (pc + 1) lv st ws' cells slots) : CG y cc nL d mc ms D E A Wn pc lv (.ref v :: .int i :: .ref a :: st) ws cells slots := by
  intro l p e s m args below meth c H locs ls hC hH hS hl
  subst hf; subst hw
  exact va_astq hC.1 hC.2.1 hC.2.2.2.2.2.2.2.1 hH.1 hH.2 hS q0 3 qk ci ha (by rw [hr]; rfl) hv hc hin hd (fun H1 locs1 hP1 hD1 hS1 => kk l p e s m args below meth c H1 locs1 ls hC ⟨hP1, hD1⟩ hS1 hl)
end CROWS3
