/-! THE LAYER, part c: fields, arrays, calls, returns. -/
section GH
variable {y : MethodName} {cc : ByteArray} {nL : Nat} {rt : Option FieldType} {d : Nat} {Q : Option AV → Mem → Prop} {pc : Nat} {lv lv' : List (Nat × AV)} {st : List AV} {σ : Mem}
theorem cel_obj {E : Nat → ClassId} {ad : Nat → Nat} {p ci : Nat} {ks : List (Nat × Nat)} (h : shp p = (0, ci, ks)) : cel E ad σ p = .inr (ci, (flds σ p ks).map (cv ad)) := by unfold cel; rw [h]; rfl
theorem cel_int {E : Nat → ClassId} {ad : Nat → Nat} {p n : Nat} {ks : List (Nat × Nat)} (h : shp p = (1, n, ks)) : cel E ad σ p = .inl (E 0, n, .inl (fun i : Nat => Int32.ofInt (σ p (i : Int)))) := by unfold cel; rw [h]; rfl
theorem cel_long {E : Nat → ClassId} {ad : Nat → Nat} {p n : Nat} {ks : List (Nat × Nat)} (h : shp p = (2, n, ks)) : cel E ad σ p = .inl (E 1, n, .inr (.inl (fun i : Nat => Int64.ofInt (σ p (i : Int))))) := by unfold cel; rw [h]; rfl
theorem cel_bool {E : Nat → ClassId} {ad : Nat → Nat} {p n : Nat} {ks : List (Nat × Nat)} (h : shp p = (3, n, ks)) : cel E ad σ p = .inl (E 2, n, .inl (fun i : Nat => Int32.ofInt (σ p (i : Int)))) := by unfold cel; rw [h]; rfl
theorem cel_ref {E : Nat → ClassId} {ad : Nat → Nat} {p n : Nat} {ks : List (Nat × Nat)} (h : shp p = (4, n, ks)) : cel E ad σ p = .inl (E 3, n, .inr (.inr (.inr (.inr (fun i : Nat => some (ad (54 + 5 * i))))))) := by unfold cel; rw [h]; rfl
theorem flds_at {p k : Nat} {ks : List (Nat × Nat)} {kd : Nat × Nat} (hk : ks[k]? = some kd) : (flds σ p ks)[k]? = some (fa σ p k kd) := by
  unfold flds
  rw [List.getElem?_mapIdx, hk]
  rfl
theorem flds_set {σ' : Mem} {p k : Nat} {ks : List (Nat × Nat)} {kd : Nat × Nat} {v : AV} (hk : ks[k]? = some kd) (hv : fa σ' p k kd = v) (hne : ∀ j : Nat, j ≠ k → σ' p (j : Int) = σ p (j : Int)) : (flds σ p ks).set k v = flds σ' p ks := by
  apply List.ext_getElem?
  intro j
  rw [List.getElem?_set]
  have hkl : k < (flds σ p ks).length := by
    have := (List.getElem?_eq_some_iff.mp hk).1
    simpa [flds] using this
  by_cases e : k = j
  · subst e
    rw [if_pos rfl, if_pos hkl, flds_at hk, hv]
  · rw [if_neg e]
    unfold flds
    rw [List.getElem?_mapIdx, List.getElem?_mapIdx]
    congr 1
    funext kd'
    unfold fa
    rw [hne j (Ne.symm e)]
theorem idx_in {i : Int} {n : Nat} (h0 : 0 ≤ i) (h1 : i < n) (hn : n < 2147483648) : vp_in (Int32.ofInt i) n ∧ (Int32.ofInt i).toNatClampNeg = i.toNat := by
  have hR : R32 i := ⟨by omega, by omega⟩
  have e : (Int32.ofInt i).toNatClampNeg = i.toNat := by
    show (Int32.ofInt i).toInt.toNat = i.toNat
    rw [r32_toInt hR]
  refine ⟨fun h => ?_, e⟩
  rcases h with h | h
  · have := (r32_lt hR r32_0).mp h
    omega
  · rw [e] at h
    omega
def GF (own : String) (idx ci k : Nat) : Prop := ∃ (C : String) (T : u_T) (N : Nat), classes[ci]? = some (C, T, N) ∧ k < N ∧ (∀ w ∈ u_ws C T N, w ∈ tblG) ∧ Cond.fieldLink own idx (T k).1 (T k).2.1 (T k).2.2.1 ∈ tblG
def GFN (own : String) (idx ci k : Nat) : Prop := ∃ (C : String) (T : u_T) (N : Nat) (host : String), classes[ci]? = some (C, T, N) ∧ k < N ∧ (∀ w ∈ u_ws C T N, w ∈ tblG) ∧ Cond.fieldLinkNest own idx (T k).1 (T k).2.1 (T k).2.2.1 host = nestF
def PF (own : String) (idx ci k : Nat) (ty : FieldType) : Prop := ∃ (C : String) (T : u_T) (N : Nat) (ty0 : Nat → FieldType), classes[ci]? = some (C, T, N) ∧ k < N ∧ (∀ w ∈ u_ws C T N, w ∈ tblG) ∧ Cond.fieldLink own idx (T k).1 (T k).2.1 (T k).2.2.1 ∈ tblG ∧ (∀ j, j < N → parseFieldDescriptor (T j).2.2.1 = some (ty0 j)) ∧ (∀ a, a < N → ∀ b, b < N → a ≠ b → (T a).2.1 ≠ (T b).2.1) ∧ (T k).2.2.2 = false ∧ ty0 k = ty

theorem G_get {own : String} {idx ci k q : Nat} {ks : List (Nat × Nat)} {kd : Nat × Nat} {v : AV} (hg : GF own idx ci k) (hy : y.cls = own) (hs : shp q = (0, ci, ks)) (hk : ks[k]? = some kd) (hv : fa σ q k kd = v) (hd : decode cc pc = .ok (.getfield idx, 3)) (kk : G y cc nL rt d Q (pc + 3) lv (v :: st) σ) : G y cc nL rt d Q pc lv (aR q :: st) σ := by
  intro l p e s m args below meth c D E ad A H locs ls hC hH hS hl
  have hx := hC.1
  have hb := hC.2.1
  obtain ⟨C, T, N, hc, hkN, hin, hlk⟩ := hg
  subst hy hv
  refine va_get hx hb hC.2.2.2.2.2.1 hin hC.2.2.2.2.1 hC.2.2.2.2.2.2.2.1 hH.1 q (by rw [Wd_at (shp_obj_lt hs), cel_obj hs]) hc k hkN (hC.2.2.2.2.2.1 _ hlk) (fun _ h => h) (v := cv ad (fa σ q k kd)) (by rw [List.getElem?_map, flds_at hk]; rfl) hd ?_
  exact kk l p e s m args below meth c D E ad A H locs _ hC hH hS hl

theorem G_getN {own : String} {idx ci k q : Nat} {ks : List (Nat × Nat)} {kd : Nat × Nat} {v : AV} (hg : GFN own idx ci k) (hy : y.cls = own) (hs : shp q = (0, ci, ks)) (hk : ks[k]? = some kd) (hv : fa σ q k kd = v) (hd : decode cc pc = .ok (.getfield idx, 3)) (kk : G y cc nL rt d Q (pc + 3) lv (v :: st) σ) : G y cc nL rt d Q pc lv (aR q :: st) σ := by
  intro l p e s m args below meth c D E ad A H locs ls hC hH hS hl
  have hx := hC.1
  have hb := hC.2.1
  obtain ⟨C, T, N, host, hc, hkN, hin, hlk⟩ := hg
  subst hy hv
  refine va_getN hx hb hC.2.2.2.2.2.1 hin hC.2.2.2.2.1 hC.2.2.2.2.2.2.2.1 hH.1 q (by rw [Wd_at (shp_obj_lt hs), cel_obj hs]) hc k hkN (va_Nw.use rfl (by rw [hlk]; exact hC.2.2.2.2.2.2.2.2.2.2.2.2.2.2.2)) (fun _ h => h) (v := cv ad (fa σ q k kd)) (by rw [List.getElem?_map, flds_at hk]; rfl) hd ?_
  exact kk l p e s m args below meth c D E ad A H locs _ hC hH hS hl

theorem G_put {own : String} {idx ci k q : Nat} {ks : List (Nat × Nat)} {kd : Nat × Nat} {v : AV} {x ki : Int} {ty : FieldType} (hg : PF own idx ci k ty) (hy : y.cls = own) (hs : shp q = (0, ci, ks)) (hk : ks[k]? = some kd) (hki : ki = (k : Int)) (hv : fa (mset σ q ki x) q k kd = v) (hn : ∀ ad, narrow ty (cv ad v) = cv ad v) (hf : ∀ ad, fits ty (cv ad v) = true) (hd : decode cc pc = .ok (.putfield idx, 3)) (kk : G y cc nL rt d Q (pc + 3) lv st (mset σ q ki x)) : G y cc nL rt d Q pc lv (v :: aR q :: st) σ := by
  intro l p e s m args below meth c D E ad A H locs ls hC hH hS hl
  have hx := hC.1
  have hb := hC.2.1
  obtain ⟨C, T, N, ty0, hc, hkN, hin, hlk, hty, hnm, hfin, hte⟩ := hg
  subst hy hki
  have hq := shp_obj_lt hs
  refine va_put hx hb hC.2.2.2.2.2.1 hin ty0 hty hnm hC.2.2.2.2.1 hC.2.2.2.2.2.2.2.1 hH.1 hH.2 hS q (by rw [Wd_at hq, cel_obj hs]) hc k hkN (hC.2.2.2.2.2.1 _ hlk) (fun _ h => h) hfin (by rw [hty k hkN, hte]) (hn ad) (hf ad) (by have := (List.getElem?_eq_some_iff.mp hk).1; simpa [flds] using this) hd ?_
  intro H1 locs1 hP1 hD1 hS1
  have hne : ∀ j : Nat, j ≠ k → mset σ q (k : Int) x q (j : Int) = σ q (j : Int) := fun j hj => by unfold mset; rw [if_neg (fun e => hj (by have := e.2; omega))]
  have hW : (Wd E ad σ).set q (ad q, .inr (ci, ((flds σ q ks).map (cv ad)).set k (cv ad v))) = Wd E ad (mset σ q (k : Int) x) := by
    refine Wd_set hq ?_ (fun r hr => (mset_ne hr).symm)
    rw [cel_obj hs, ← flds_set hk hv hne, List.map_set]
  rw [hW] at hP1 hD1
  exact kk l p e s m args below meth c D E ad A H1 locs1 _ hC ⟨hP1, hD1⟩ hS1 hl

theorem G_iald {q n : Nat} {i : Int} {ks : List (Nat × Nat)} (hs : shp q = (1, n, ks)) (h0 : 0 ≤ i) (h1 : i < n) (hd : decode cc pc = .ok (.iaload, 1)) (kk : G y cc nL rt d Q (pc + 1) lv (aI (σ q i) :: st) σ) : G y cc nL rt d Q pc lv (aI i :: aR q :: st) σ := by
  intro l p e s m args below meth c D E ad A H locs ls hC hH hS hl
  have hx := hC.1
  have hb := hC.2.1
  have hn : n < 2147483648 := by have := shp_lt q; rw [hs] at this; exact this
  have hq : q < 93 := shp_row_lt hs (by omega)
  obtain ⟨hin, hi⟩ := idx_in h0 h1 hn
  refine va_iald (rest := st.map (cv ad)) hx hb hC.2.2.2.2.2.2.2.1 hH.1 q 0 (by rw [Wd_at hq, cel_int hs]) rfl hin hd ?_
  rw [hi]
  have e0 : ((i.toNat : Nat) : Int) = i := by omega
  simp only [e0]
  exact kk l p e s m args below meth c D E ad A H locs _ hC hH hS hl

theorem G_lald {q n : Nat} {i : Int} {ks : List (Nat × Nat)} (hs : shp q = (2, n, ks)) (h0 : 0 ≤ i) (h1 : i < n) (hd : decode cc pc = .ok (.laload, 1)) (kk : G y cc nL rt d Q (pc + 1) lv (aL (σ q i) :: st) σ) : G y cc nL rt d Q pc lv (aI i :: aR q :: st) σ := by
  intro l p e s m args below meth c D E ad A H locs ls hC hH hS hl
  have hx := hC.1
  have hb := hC.2.1
  have hn : n < 2147483648 := by have := shp_lt q; rw [hs] at this; exact this
  have hq : q < 93 := shp_row_lt hs (by omega)
  obtain ⟨hin, hi⟩ := idx_in h0 h1 hn
  refine va_lald (rest := st.map (cv ad)) hx hb hC.2.2.2.2.2.2.2.1 hH.1 q 1 (by rw [Wd_at hq, cel_long hs]) rfl hin hd ?_
  rw [hi]
  have e0 : ((i.toNat : Nat) : Int) = i := by omega
  simp only [e0]
  exact kk l p e s m args below meth c D E ad A H locs _ hC hH hS hl

theorem G_zald {q n : Nat} {i : Int} {ks : List (Nat × Nat)} (hs : shp q = (3, n, ks)) (h0 : 0 ≤ i) (h1 : i < n) (hd : decode cc pc = .ok (.baload, 1)) (kk : G y cc nL rt d Q (pc + 1) lv (aI (σ q i) :: st) σ) : G y cc nL rt d Q pc lv (aI i :: aR q :: st) σ := by
  intro l p e s m args below meth c D E ad A H locs ls hC hH hS hl
  have hx := hC.1
  have hb := hC.2.1
  have hn : n < 2147483648 := by have := shp_lt q; rw [hs] at this; exact this
  have hq : q < 93 := shp_row_lt hs (by omega)
  obtain ⟨hin, hi⟩ := idx_in h0 h1 hn
  refine va_zald (rest := st.map (cv ad)) hx hb hC.2.2.2.2.2.2.2.1 hH.1 q 2 (by rw [Wd_at hq, cel_bool hs]) rfl hin hd ?_
  rw [hi]
  have e0 : ((i.toNat : Nat) : Int) = i := by omega
  simp only [e0]
  exact kk l p e s m args below meth c D E ad A H locs _ hC hH hS hl

theorem G_aald {q n : Nat} {i : Int} {ks : List (Nat × Nat)} (hs : shp q = (4, n, ks)) (h0 : 0 ≤ i) (h1 : i < n) (hd : decode cc pc = .ok (.aaload, 1)) (kk : G y cc nL rt d Q (pc + 1) lv (aR (54 + 5 * i.toNat) :: st) σ) : G y cc nL rt d Q pc lv (aI i :: aR q :: st) σ := by
  intro l p e s m args below meth c D E ad A H locs ls hC hH hS hl
  have hx := hC.1
  have hb := hC.2.1
  have hn : n < 2147483648 := by have := shp_lt q; rw [hs] at this; exact this
  have hq : q < 93 := shp_row_lt hs (by omega)
  obtain ⟨hin, hi⟩ := idx_in h0 h1 hn
  refine va_aldq (rest := st.map (cv ad)) hx hb hC.2.2.2.2.2.2.2.1 hH.1 q 3 (by rw [Wd_at hq, cel_ref hs]) rfl hin hd ?_
  rw [hi]
  exact kk l p e s m args below meth c D E ad A H locs _ hC hH hS hl

theorem upd_mset {q : Nat} {i x : Int} (h0 : 0 ≤ i) : upd (fun j : Nat => Int32.ofInt (σ q (j : Int))) i.toNat (Int32.ofInt x) = fun j : Nat => Int32.ofInt (mset σ q i x q (j : Int)) := by
  funext j
  unfold upd mset
  by_cases hj : j = i.toNat
  · rw [if_pos hj, if_pos ⟨rfl, by omega⟩]
  · rw [if_neg hj, if_neg (fun e => hj (by have := e.2; omega))]
theorem updL_mset {q : Nat} {i x : Int} (h0 : 0 ≤ i) : vp_updL (fun j : Nat => Int64.ofInt (σ q (j : Int))) i.toNat (Int64.ofInt x) = fun j : Nat => Int64.ofInt (mset σ q i x q (j : Int)) := by
  funext j
  unfold vp_updL mset
  by_cases hj : j = i.toNat
  · rw [if_pos hj, if_pos ⟨rfl, by omega⟩]
  · rw [if_neg hj, if_neg (fun e => hj (by have := e.2; omega))]
theorem nar_b {x : Int} (h : x = 0 ∨ x = 1) : vp_nar .boolean (Int32.ofInt x) = Int32.ofInt x := by
  rcases h with rfl | rfl <;> rfl
theorem narrow_b {x : Int} (h : x = 0 ∨ x = 1) : narrow .boolean (.int (Int32.ofInt x)) = .int (Int32.ofInt x) := by
  rcases h with rfl | rfl <;> rfl
theorem fits_b {x : Int} (h : x = 0 ∨ x = 1) : fits .boolean (.int (Int32.ofInt x)) = true := by
  rcases h with rfl | rfl <;> rfl

theorem G_iast {q n : Nat} {i x : Int} {ks : List (Nat × Nat)} (hs : shp q = (1, n, ks)) (h0 : 0 ≤ i) (h1 : i < n) (hd : decode cc pc = .ok (.iastore, 1)) (kk : G y cc nL rt d Q (pc + 1) lv st (mset σ q i x)) : G y cc nL rt d Q pc lv (aI x :: aI i :: aR q :: st) σ := by
  intro l p e s m args below meth c D E ad A H locs ls hC hH hS hl
  have hx := hC.1
  have hb := hC.2.1
  have hn : n < 2147483648 := by have := shp_lt q; rw [hs] at this; exact this
  have hq : q < 93 := shp_row_lt hs (by omega)
  obtain ⟨hin, hi⟩ := idx_in h0 h1 hn
  refine va_iast (rest := st.map (cv ad)) hx hb hC.2.2.2.2.2.2.2.1 hH.1 hH.2 hS q 0 (by rw [Wd_at hq, cel_int hs]) rfl hin hd ?_
  intro H1 locs1 hP1 hD1 hS1
  rw [hi, upd_mset h0, Wd_set (σ' := mset σ q i x) hq (by rw [cel_int hs]) (fun r hr => (mset_ne hr).symm)] at hP1 hD1
  exact kk l p e s m args below meth c D E ad A H1 locs1 _ hC ⟨hP1, hD1⟩ hS1 hl

theorem G_last {q n : Nat} {i x : Int} {ks : List (Nat × Nat)} (hs : shp q = (2, n, ks)) (h0 : 0 ≤ i) (h1 : i < n) (hd : decode cc pc = .ok (.lastore, 1)) (kk : G y cc nL rt d Q (pc + 1) lv st (mset σ q i x)) : G y cc nL rt d Q pc lv (aL x :: aI i :: aR q :: st) σ := by
  intro l p e s m args below meth c D E ad A H locs ls hC hH hS hl
  have hx := hC.1
  have hb := hC.2.1
  have hn : n < 2147483648 := by have := shp_lt q; rw [hs] at this; exact this
  have hq : q < 93 := shp_row_lt hs (by omega)
  obtain ⟨hin, hi⟩ := idx_in h0 h1 hn
  refine va_last (rest := st.map (cv ad)) hx hb hC.2.2.2.2.2.2.2.1 hH.1 hH.2 hS q 1 (by rw [Wd_at hq, cel_long hs]) rfl hin hd ?_
  intro H1 locs1 hP1 hD1 hS1
  rw [hi, updL_mset h0, Wd_set (σ' := mset σ q i x) hq (by rw [cel_long hs]) (fun r hr => (mset_ne hr).symm)] at hP1 hD1
  exact kk l p e s m args below meth c D E ad A H1 locs1 _ hC ⟨hP1, hD1⟩ hS1 hl

theorem G_zast {q n : Nat} {i x : Int} {ks : List (Nat × Nat)} (hs : shp q = (3, n, ks)) (h0 : 0 ≤ i) (h1 : i < n) (hx01 : x = 0 ∨ x = 1) (hd : decode cc pc = .ok (.bastore, 1)) (kk : G y cc nL rt d Q (pc + 1) lv st (mset σ q i x)) : G y cc nL rt d Q pc lv (aI x :: aI i :: aR q :: st) σ := by
  intro l p e s m args below meth c D E ad A H locs ls hC hH hS hl
  have hx := hC.1
  have hb := hC.2.1
  have hn : n < 2147483648 := by have := shp_lt q; rw [hs] at this; exact this
  have hq : q < 93 := shp_row_lt hs (by omega)
  obtain ⟨hin, hi⟩ := idx_in h0 h1 hn
  refine va_zast (rest := st.map (cv ad)) hx hb hC.2.2.2.2.2.2.2.1 hH.1 hH.2 hS q 2 (by rw [Wd_at hq, cel_bool hs]) rfl hin hd ?_
  intro H1 locs1 hP1 hD1 hS1
  rw [hi, nar_b hx01, upd_mset h0, Wd_set (σ' := mset σ q i x) hq (by rw [cel_bool hs]) (fun r hr => (mset_ne hr).symm)] at hP1 hD1
  exact kk l p e s m args below meth c D E ad A H1 locs1 _ hC ⟨hP1, hD1⟩ hS1 hl

theorem G_alen {q n t : Nat} {v : Int} {ks : List (Nat × Nat)} (hs : shp q = (t, n, ks)) (ht : t = 1 ∨ t = 2) (hq : q < 93) (hv : v = (n : Int)) (hd : decode cc pc = .ok (.arraylength, 1)) (kk : G y cc nL rt d Q (pc + 1) lv (aI v :: st) σ) : G y cc nL rt d Q pc lv (aR q :: st) σ := by
  intro l p e s m args below meth c D E ad A H locs ls hC hH hS hl
  have hx := hC.1
  have hb := hC.2.1
  subst hv
  rcases ht with rfl | rfl
  · exact va_alen (ty := .int) hx hb hC.2.2.2.2.2.2.2.1 hH.1 q 0 (by rw [Wd_at hq, cel_int hs]) rfl (v := Int32.ofInt (n : Int)) rfl hd (kk l p e s m args below meth c D E ad A H locs _ hC hH hS hl)
  · exact va_alen (ty := .long) hx hb hC.2.2.2.2.2.2.2.1 hH.1 q 1 (by rw [Wd_at hq, cel_long hs]) rfl (v := Int32.ofInt (n : Int)) rfl hd (kk l p e s m args below meth c D E ad A H locs _ hC hH hS hl)

theorem G_alenR {q n : Nat} {v : Int} {ks : List (Nat × Nat)} (hs : shp q = (4, n, ks)) (hq : q < 93) (hv : v = (n : Int)) (hd : decode cc pc = .ok (.arraylength, 1)) (kk : G y cc nL rt d Q (pc + 1) lv (aI v :: st) σ) : G y cc nL rt d Q pc lv (aR q :: st) σ := by
  intro l p e s m args below meth c D E ad A H locs ls hC hH hS hl
  have hx := hC.1
  have hb := hC.2.1
  subst hv
  exact va_alen (ty := .object "LiquoriceRoads$Text") hx hb hC.2.2.2.2.2.2.2.1 hH.1 q 3 (by rw [Wd_at hq, cel_ref hs]) rfl (v := Int32.ofInt (n : Int)) rfl hd (kk l p e s m args below meth c D E ad A H locs _ hC hH hS hl)

theorem G_iret {x : Int} (hr : rt = some .int) (hR : R32 x) (hd : decode cc pc = .ok (.ireturn, 1)) (hq : Q (some (aI x)) σ) (hO : OKm σ) : G y cc nL rt d Q pc lv [aI x] σ := by
  intro l p e s m args below meth c D E ad A H locs ls hC hH hS hl
  have hx := hC.1
  have hb := hC.2.1
  refine W.iret hx hb (by rw [hC.2.2.2.1, hr]) (fun t ht hW => ⟨⟨_, σ, hq, hO, fun v hv => by cases hv; exact hR, rfl, by rw [ht]; exact hH⟩, hS.F ht⟩) hS.2.2 hd hC.2.2.2.2.2.2.1

theorem G_zret {x : Int} (hr : rt = some .boolean) (hR : x = 0 ∨ x = 1) (hd : decode cc pc = .ok (.ireturn, 1)) (hq : Q (some (aI x)) σ) (hO : OKm σ) : G y cc nL rt d Q pc lv [aI x] σ := by
  intro l p e s m args below meth c D E ad A H locs ls hC hH hS hl
  have hx := hC.1
  have hb := hC.2.1
  refine W.zret hx hb (by rw [hC.2.2.2.1, hr]) (narrow_b hR) (fun t ht hW => ⟨⟨_, σ, hq, hO, fun v hv => by cases hv; show R32 x; rcases hR with rfl | rfl <;> exact ⟨by decide, by decide⟩, rfl, by rw [ht]; exact hH⟩, hS.F ht⟩) hS.2.2 hd hC.2.2.2.2.2.2.1

theorem G_lret {x : Int} (hr : rt = some .long) (hR : R64 x) (hd : decode cc pc = .ok (.lreturn, 1)) (hq : Q (some (aL x)) σ) (hO : OKm σ) : G y cc nL rt d Q pc lv [aL x] σ := by
  intro l p e s m args below meth c D E ad A H locs ls hC hH hS hl
  have hx := hC.1
  have hb := hC.2.1
  refine W.lret hx hb (by rw [hC.2.2.2.1, hr]) (fun t ht hW => ⟨⟨_, σ, hq, hO, fun v hv => by cases hv; exact hR, rfl, by rw [ht]; exact hH⟩, hS.F ht⟩) hS.2.2 hd hC.2.2.2.2.2.2.1

theorem G_vret (hr : rt = none) (hd : decode cc pc = .ok (.return_, 1)) (hq : Q none σ) (hO : OKm σ) : G y cc nL rt d Q pc lv [] σ := by
  intro l p e s m args below meth c D E ad A H locs ls hC hH hS hl
  have hx := hC.1
  have hb := hC.2.1
  refine W.vret hx hb (by rw [hC.2.2.2.1, hr]) (fun t ht hW => ⟨⟨none, σ, hq, hO, (fun v hv => by cases hv), rfl, by rw [ht]; exact hH⟩, hS.F ht⟩) hS.2.2 hd hC.2.2.2.2.2.2.1

theorem G_aret {p0 : Nat} {n : String} (hr : rt = some (.object n)) (hd : decode cc pc = .ok (.areturn, 1)) (hq : Q (some (aR p0)) σ) (hO : OKm σ) : G y cc nL rt d Q pc lv [aR p0] σ := by
  intro l p e s m args below meth c D E ad A H locs ls hC hH hS hl
  have hx := hC.1
  have hb := hC.2.1
  refine W.aret hx hb (by rw [hC.2.2.2.1, hr]) (Or.inl ⟨n, rfl⟩) (Or.inr ⟨ad p0, rfl⟩) (fun t ht hW => ⟨⟨_, σ, hq, hO, fun v hv => by cases hv; trivial, rfl, by rw [ht]; exact hH⟩, hS.F ht⟩) hS.2.2 hd hC.2.2.2.2.2.2.1

theorem G_nret {n : String} (hr : rt = some (.object n)) (hd : decode cc pc = .ok (.areturn, 1)) (hq : Q (some aN) σ) (hO : OKm σ) : G y cc nL rt d Q pc lv [aN] σ := by
  intro l p e s m args below meth c D E ad A H locs ls hC hH hS hl
  have hx := hC.1
  have hb := hC.2.1
  refine W.aret hx hb (by rw [hC.2.2.2.1, hr]) (Or.inl ⟨n, rfl⟩) (Or.inl rfl) (fun t ht hW => ⟨⟨_, σ, hq, hO, fun v hv => by cases hv; trivial, rfl, by rw [ht]; exact hH⟩, hS.F ht⟩) hS.2.2 hd hC.2.2.2.2.2.2.1


theorem G_ofRun {stk : List AV} {a : Array Value} {Q' : Option AV → Mem → Prop}
    (run : ∀ (l : Launch) (p : Program) (e : Env) (s : State) (m : MethodId) (args : Array Value) (below : List Frame) (meth : Method) (c : Code) (D : va_G) (E : Nat → ClassId) (ad : Nat → Nat) (A : Nat → Prop) (H : Heap) (locs : List Loc) (ls : Array Slot),
      Cx y cc nL rt p s m args meth c D E ad A → Hp D E ad A σ H → va_S A s.heap H locs → lv_has ls nL (lvV ad lv) →
      ∃ a, va_Run p l e (Rm d) s m args below meth c H locs 0 0 0 0 (F0 m pc ls (stk.map (cv ad))) (st.map (cv ad)) (Post D E ad A Q' a) A)
    (kk : ∀ r σ', Q' r σ' → OKm σ' → (∀ v, r = some v → okv v) → G y cc nL rt d Q (pc + 3) lv (r.toList ++ st) σ') : G y cc nL rt d Q pc lv stk σ := by
  intro l p e s m args below meth c D E ad A H locs ls hC hH hS hl T hT X
  obtain ⟨a, ha⟩ := run l p e s m args below meth c D E ad A H locs ls hC hH hS hl
  obtain ⟨v, st₀, t, T', L, h0, X', hL, e1, e2, ⟨⟨r, σ', q1, q2, q3, q4, q5⟩, hz, hk⟩, stp⟩ := ha T hT X
  rw [h0] at hz hk
  have hv : v = r.map (cv ad) := by injection q4
  have hS' : va_S A s.heap T'.heap (locs ++ L) := ⟨Nat.le_trans hS.1 (by rw [e1]; exact hz), fun q h1 h2 => by rw [e1, hk q (Nat.lt_of_lt_of_le h1 hS.1) h2]; exact hS.2.1 q h1 h2, fun q hq => by
      rcases List.mem_append.mp hq with h | h
      · exact hS.2.2 q h
      · exact hL q h⟩
  obtain ⟨t2, a1, b1⟩ := kk r σ' q1 q2 q3 l p e s m args below meth c D E ad A T'.heap (locs ++ L) ls hC (by rw [e1]; exact q5) hS' hl T' rfl X'
  refine ⟨t2, stp t2 ?_, b1⟩
  have : (r.toList ++ st).map (cv ad) = v.toList ++ st.map (cv ad) := by
    rw [hv]
    cases r <;> simp
  rw [this] at a1
  exact a1
abbrev CFb (own : String) (y' : MethodName) (cc' : ByteArray) (nL' : Nat) (rt' : Option FieldType) (n : Nat) : Prop :=
  Cond.initialized y'.cls ∈ tblG ∧ Cond.code y' cc' nL' rt' ∈ tblG ∧ (y'.cls ≠ "java/lang/invoke/MethodHandle" ∧ y'.cls ≠ "java/lang/invoke/VarHandle") ∧ (parseMethodDescriptor y'.desc).map (fun d => d.parameters.length) = some n ∧ nL' ≤ 45
def CFv (own : String) (idx : Nat) (C : String) (y' : MethodName) (cc' : ByteArray) (nL' : Nat) (rt' : Option FieldType) (n : Nat) : Prop :=
  CFb own y' cc' nL' rt' n ∧ Cond.methodLink own idx y' ∈ tblG ∧ Cond.instanceMethod y' ∈ tblG ∧ Cond.selects C y' y' ∈ tblG
def CFs (own : String) (idx : Nat) (y' : MethodName) (cc' : ByteArray) (nL' : Nat) (rt' : Option FieldType) (n : Nat) : Prop :=
  CFb own y' cc' nL' rt' n ∧ Cond.methodLink own idx y' ∈ tblG ∧ Cond.static y' ∈ tblG
def CFn (own : String) (idx : Nat) (y' : MethodName) (cc' : ByteArray) (nL' : Nat) (rt' : Option FieldType) (n : Nat) : Prop :=
  CFb own y' cc' nL' rt' n ∧ ((own, idx) ∈ nestL ∧ y' = yX11_within) ∧ Cond.static y' ∈ tblG
theorem tblG_in (y' : MethodName) (cc' : ByteArray) (nL' : Nat) (rt' : Option FieldType) (h : Cond.code y' cc' nL' rt' ∈ tblG) : GoodIn tblG (Cond.code y' cc' nL' rt' :: tblG) := by
  intro w hw
  rcases List.mem_cons.mp hw with rfl | h2
  · exact ⟨h, tblG_good h⟩
  · exact ⟨h2, tblG_good h2⟩
theorem callB_G {own : String} {idx : Nat} {y' : MethodName} {cc' : ByteArray} {nL' d' n : Nat} {rt' : Option FieldType} {s : State} {args : Array Value} (hts : ∀ w ∈ tblG, w.before args s = true) (hf : CFb own y' cc' nL' rt' n) (hl : Cond.methodLink own idx y' ∈ tblG) (hdd : d' + 1 ≤ d) : CallB (Rm d) s args own idx y' cc' nL' rt' (Cond.code y' cc' nL' rt' :: tblG) (Rm d') 0 0 n :=
  callB_of n hts (tblG_in _ _ _ _ hf.2.1) rfl rfl rfl (hts _ hf.1) (hts _ hl) ⟨hf.2.2.1.1, hf.2.2.1.2, hf.2.2.2.1⟩ ⟨by unfold Rm; show d' + 1 + 1 ≤ d + 1; omega, by have := hf.2.2.2.2; unfold Rm; show 8 + (nL' + 11) + 64 * (d' + 1) ≤ 64 * (d + 1); omega⟩
theorem pre_G {l : Launch} {y' : MethodName} {cc' : ByteArray} {nL' d' : Nat} {rt' : Option FieldType} {p : Program} {s : State} {m : MethodId} {args : Array Value} {meth : Method} {c : Code} {D : va_G} {E : Nat → ClassId} {ad : Nat → Nat} {A : Nat → Prop} {H : Heap} {locs : List Loc} {as : List AV} {vs : List Value} (hvs : vs = as.map (cv ad))
    (hC : Cx y cc nL rt p s m args meth c D E ad A) (hH : Hp D E ad A σ H) (hS : va_S A s.heap H locs) : PreS s H (va_Pc (as.map (cv ad)) (fun U => va_K D classes (tyL E) U ∧ Hp D E ad A σ U.heap ∧ (∀ q, U.heap.size ≤ q → A q) ∧ Ext ad A U U.heap)) vs := by
  subst hvs
  refine ⟨fun a U g mk q => ?_, fun U hU hW => ⟨rfl, va_K.moved hW.alike hC.2.2.2.2.2.2.2.1, by rw [hU]; exact hH, fun q hq => hC.2.2.2.2.2.2.2.2.1 q (Nat.le_trans hS.1 (by rw [hU] at hq; exact hq)), ?_⟩⟩
  · obtain ⟨q0, qK, qH, qA, qE⟩ := q
    exact ⟨q0, va_K.moved (u := U) (U := U.calling g mk a) (Vm.Alike.refl U.vm) qK, qH, qA, qE.same rfl⟩
  · rw [hU]
    exact hC.2.2.2.2.2.2.2.2.2.go hW hS.2.1
theorem G_callV {own C : String} {idx ci : Nat} {y' : MethodName} {cc' : ByteArray} {nL' d' n q : Nat} {rt' : Option FieldType} {ks : List (Nat × Nat)} {as stk : List AV} {Q' : Option AV → Mem → Prop} (hf : CFv own idx C y' cc' nL' rt' n) (hy : y.cls = own) (hs : shp q = (0, ci, ks)) (hc : (classes[ci]?).map (fun r => r.1) = some C) (hM : Mt y' cc' nL' rt' d' (aR q :: as) σ Q') (hdd : d' + 1 ≤ d) (hn : as.length = n) (hst : stk = as.reverse ++ aR q :: st) (h8 : (st.map cat).sum ≤ 8) (hd : decode cc pc = .ok (.invokevirtual idx, 3))
    (kk : ∀ r σ', Q' r σ' → OKm σ' → (∀ v, r = some v → okv v) → G y cc nL rt d Q (pc + 3) lv (r.toList ++ st) σ') : G y cc nL rt d Q pc lv stk σ := by
  refine G_ofRun (a := #[]) (fun l p e s m args below meth c D E ad A H locs ls hC hH hS hl => ⟨(Value.ref (ad q) :: as.map (cv ad)).toArray, ?_⟩) kk
  have hpre := pre_G (l := l) (y' := y') (cc' := cc') (nL' := nL') (d' := d') (rt' := rt') (as := aR q :: as) (vs := Value.ref (ad q) :: as.map (cv ad)) rfl hC hH hS
  subst hy
  obtain ⟨r, hr, hrC⟩ : ∃ r, classes[ci]? = some r ∧ r.1 = C := by
    cases h : classes[ci]? with
    | none => rw [h] at hc; cases hc
    | some r => rw [h] at hc; exact ⟨r, rfl, by injection hc⟩
  have hrecv := va_recv hC.2.2.2.2.2.2.2.1 hH.1 hr (show (Wd E ad σ)[q]? = some (ad q, .inr (ci, _)) by rw [Wd_at (shp_obj_lt hs), cel_obj hs])
  rw [hrC] at hrecv
  refine va_runV (As := as.map (cv ad)) (rest := st.map (cv ad)) (b := ad q) ⟨hC.1, hC.2.1, hC.2.2.1, hC.2.2.2.2.1, hC.2.2.2.2.2.1⟩ (hM l D E ad A) ⟨callB_G hC.2.2.2.2.2.1 hf.1 hf.2.1 hdd, hC.2.2.2.2.2.1 _ hf.2.2.1, hC.2.2.2.2.2.1 _ hf.2.2.2⟩ ⟨hpre.1, hrecv, hpre.2⟩ rfl (by rw [List.length_map]; exact hn) hl.1 ?_ (lv_room ?_) hd ⟨Nat.le_refl 0, Nat.le_refl 0⟩
  · rw [hst]; simp [cv]
  · simpa [Function.comp_def, cat_eq] using h8
theorem G_callS {own : String} {idx : Nat} {y' : MethodName} {cc' : ByteArray} {nL' d' n : Nat} {rt' : Option FieldType} {as stk : List AV} {Q' : Option AV → Mem → Prop} (hf : CFs own idx y' cc' nL' rt' n) (hy : y.cls = own) (hM : Mt y' cc' nL' rt' d' as σ Q') (hdd : d' + 1 ≤ d) (hn : as.length = n) (hst : stk = as.reverse ++ st) (h8 : (st.map cat).sum ≤ 8) (hd : decode cc pc = .ok (.invokestatic idx, 3))
    (kk : ∀ r σ', Q' r σ' → OKm σ' → (∀ v, r = some v → okv v) → G y cc nL rt d Q (pc + 3) lv (r.toList ++ st) σ') : G y cc nL rt d Q pc lv stk σ := by
  refine G_ofRun (a := #[]) (fun l p e s m args below meth c D E ad A H locs ls hC hH hS hl => ⟨(as.map (cv ad)).toArray, ?_⟩) kk
  have hpre := pre_G (l := l) (y' := y') (cc' := cc') (nL' := nL') (d' := d') (rt' := rt') (as := as) (vs := as.map (cv ad)) rfl hC hH hS
  subst hy
  refine va_runS (As := as.map (cv ad)) (rest := st.map (cv ad)) ⟨hC.1, hC.2.1, hC.2.2.1, hC.2.2.2.2.1, hC.2.2.2.2.2.1⟩ (hM l D E ad A) ⟨callB_G hC.2.2.2.2.2.1 hf.1 hf.2.1 hdd, hC.2.2.2.2.2.1 _ hf.2.2⟩ hpre rfl (by rw [List.length_map]; exact hn) hl.1 ?_ (lv_room ?_) hd ⟨Nat.le_refl 0, Nat.le_refl 0⟩
  · rw [hst]; simp
  · simpa [Function.comp_def, cat_eq] using h8
theorem G_callN {own : String} {idx : Nat} {y' : MethodName} {cc' : ByteArray} {nL' d' n : Nat} {rt' : Option FieldType} {as stk : List AV} {Q' : Option AV → Mem → Prop} (hf : CFn own idx y' cc' nL' rt' n) (hy : y.cls = own) (hM : Mt y' cc' nL' rt' d' as σ Q') (hdd : d' + 1 ≤ d) (hn : as.length = n) (hst : stk = as.reverse ++ st) (h8 : (st.map cat).sum ≤ 8) (hd : decode cc pc = .ok (.invokestatic idx, 3))
    (kk : ∀ r σ', Q' r σ' → OKm σ' → (∀ v, r = some v → okv v) → G y cc nL rt d Q (pc + 3) lv (r.toList ++ st) σ') : G y cc nL rt d Q pc lv stk σ := by
  refine G_ofRun (a := #[]) (fun l p e s m args below meth c D E ad A H locs ls hC hH hS hl => ⟨(as.map (cv ad)).toArray, ?_⟩) kk
  have hpre := pre_G (l := l) (y' := y') (cc' := cc') (nL' := nL') (d' := d') (rt' := rt') (as := as) (vs := as.map (cv ad)) rfl hC hH hS
  subst hy
  obtain ⟨hf1, ⟨hf2, hfy⟩, hf3⟩ := hf
  have hnw : va_Nw (.methodLinkNest y.cls idx y' "LiquoriceRoads") s := by rw [hfy]; exact hC.2.2.2.2.2.2.2.2.2.2.2.2.2.2.1 _ hf2
  have hts := hC.2.2.2.2.2.1
  refine va_runSN (As := as.map (cv ad)) (rest := st.map (cv ad)) ⟨hC.1, hC.2.1, hC.2.2.1, hC.2.2.2.2.1, hts⟩ (hM l D E ad A) ⟨va_cnB n hts (tblG_in _ _ _ _ hf1.2.1) rfl rfl rfl hnw (hts _ hf1.1) ⟨hf1.2.2.1.1, hf1.2.2.1.2, hf1.2.2.2.1⟩ ⟨by unfold Rm; show d' + 1 + 1 ≤ d + 1; omega, by have := hf1.2.2.2.2; unfold Rm; show 8 + (nL' + 11) + 64 * (d' + 1) ≤ 64 * (d + 1); omega⟩, hts _ hf3, trivial⟩ hpre rfl (by rw [List.length_map]; exact hn) hl.1 ?_ (lv_room ?_) hd ⟨Nat.le_refl 0, Nat.le_refl 0⟩
  · rw [hst]; simp
  · simpa [Function.comp_def, cat_eq] using h8
/-- what a method answers -/
def QI (P : Int → Mem → Prop) : Option AV → Mem → Prop := fun r σ => ∃ v : Int, r = some (aI v) ∧ P v σ
def QL (P : Int → Mem → Prop) : Option AV → Mem → Prop := fun r σ => ∃ v : Int, r = some (aL v) ∧ P v σ
def QV (P : Mem → Prop) : Option AV → Mem → Prop := fun r σ => r = none ∧ P σ
def QA (P : AV → Mem → Prop) : Option AV → Mem → Prop := fun r σ => ∃ v : AV, r = some v ∧ P v σ

theorem G_mmax {own : String} {idx : Nat} {a b : Int} (hy : y.cls = own) (ha : R32 a) (hb2 : R32 b) (h8 : (st.map cat).sum ≤ 8) (hw : Cond.methodLink own idx Lib.Math.max.name ∈ tblG ∧ Cond.static Lib.Math.max.name ∈ tblG ∧ Cond.initialized "java/lang/Math" ∈ tblG ∧ Cond.code Lib.Math.max.name Lib.Math.max.code 2 (some .int) ∈ tblG) (hd : decode cc pc = .ok (.invokestatic idx, 3)) (kk : G y cc nL rt d Q (pc + 3) lv (aI (max a b) :: st) σ) : G y cc nL rt d Q pc lv (aI b :: aI a :: st) σ := by
  intro l p e s m args below meth c D E ad A H locs ls hC hH hS hl
  have hx := hC.1
  have hb := hC.2.1
  subst hy
  refine va_mmax hx hb (by rw [hC.2.2.1, hl.1]) hC.2.2.2.2.1 (hC.2.2.2.2.2.1 _ hw.1) (hC.2.2.2.2.2.1 _ hw.2.1) (hC.2.2.2.2.2.1 _ hw.2.2.1) (hC.2.2.2.2.2.1 _ hw.2.2.2) (by unfold Rm; show 1 ≤ d + 1; omega) ?_ (Nat.zero_le _) (Nat.zero_le _) hd ?_
  · rw [List.map_map]; simp only [Function.comp_def, cat_eq]; unfold Rm; show (st.map cat).sum + 13 ≤ 64 * (d + 1); omega
  · have e1 := r32_lt ha hb2
    have e' := r32_lt hb2 ha
    have h := kk l p e s m args below meth c D E ad A H locs ls hC hH hS hl
    have hm : (if Int32.ofInt a < Int32.ofInt b then Int32.ofInt b else Int32.ofInt a) = Int32.ofInt (max a b) := by
      simp only [e1, e', Int.max_def, Int.min_def]
      split <;> split <;> first | rfl | (congr 1; omega)
    rw [hm]
    exact h

theorem G_mmin {own : String} {idx : Nat} {a b : Int} (hy : y.cls = own) (ha : R32 a) (hb2 : R32 b) (h8 : (st.map cat).sum ≤ 8) (hw : Cond.methodLink own idx Lib.Math.min.name ∈ tblG ∧ Cond.static Lib.Math.min.name ∈ tblG ∧ Cond.initialized "java/lang/Math" ∈ tblG ∧ Cond.code Lib.Math.min.name Lib.Math.min.code 2 (some .int) ∈ tblG) (hd : decode cc pc = .ok (.invokestatic idx, 3)) (kk : G y cc nL rt d Q (pc + 3) lv (aI (min a b) :: st) σ) : G y cc nL rt d Q pc lv (aI b :: aI a :: st) σ := by
  intro l p e s m args below meth c D E ad A H locs ls hC hH hS hl
  have hx := hC.1
  have hb := hC.2.1
  subst hy
  refine va_mmin hx hb (by rw [hC.2.2.1, hl.1]) hC.2.2.2.2.1 (hC.2.2.2.2.2.1 _ hw.1) (hC.2.2.2.2.2.1 _ hw.2.1) (hC.2.2.2.2.2.1 _ hw.2.2.1) (hC.2.2.2.2.2.1 _ hw.2.2.2) (by unfold Rm; show 1 ≤ d + 1; omega) ?_ (Nat.zero_le _) (Nat.zero_le _) hd ?_
  · rw [List.map_map]; simp only [Function.comp_def, cat_eq]; unfold Rm; show (st.map cat).sum + 13 ≤ 64 * (d + 1); omega
  · have e1 := r32_lt ha hb2
    have e' := r32_lt hb2 ha
    have h := kk l p e s m args below meth c D E ad A H locs ls hC hH hS hl
    have hm : (if Int32.ofInt b < Int32.ofInt a then Int32.ofInt b else Int32.ofInt a) = Int32.ofInt (min a b) := by
      simp only [e1, e', Int.max_def, Int.min_def]
      split <;> split <;> first | rfl | (congr 1; omega)
    rw [hm]
    exact h

theorem G_mmaxL {own : String} {idx : Nat} {a b : Int} (hy : y.cls = own) (ha : R64 a) (hb2 : R64 b) (h8 : (st.map cat).sum ≤ 8) (hw : Cond.methodLink own idx Lib.MathLoose.max_long.x ∈ tblG ∧ Cond.static Lib.MathLoose.max_long.x ∈ tblG ∧ Cond.initialized "java/lang/Math" ∈ tblG ∧ Cond.code Lib.MathLoose.max_long.x Lib.MathLoose.max_long.code 4 (some .long) ∈ tblG) (hd : decode cc pc = .ok (.invokestatic idx, 3)) (kk : G y cc nL rt d Q (pc + 3) lv (aL (max a b) :: st) σ) : G y cc nL rt d Q pc lv (aL b :: aL a :: st) σ := by
  intro l p e s m args below meth c D E ad A H locs ls hC hH hS hl
  have hx := hC.1
  have hb := hC.2.1
  subst hy
  refine va_mmax_long hx hb (by rw [hC.2.2.1, hl.1]) hC.2.2.2.2.1 (hC.2.2.2.2.2.1 _ hw.1) (hC.2.2.2.2.2.1 _ hw.2.1) (hC.2.2.2.2.2.1 _ hw.2.2.1) (hC.2.2.2.2.2.1 _ hw.2.2.2) (by unfold Rm; show 1 ≤ d + 1; omega) ?_ (Nat.zero_le _) (Nat.zero_le _) hd ?_
  · rw [List.map_map]; simp only [Function.comp_def, cat_eq]; unfold Rm; show (st.map cat).sum + 15 ≤ 64 * (d + 1); omega
  · have e1 := r64_lt ha hb2
    have e' := r64_lt hb2 ha
    have h := kk l p e s m args below meth c D E ad A H locs ls hC hH hS hl
    have hm : (if Int64.ofInt b < Int64.ofInt a then Int64.ofInt a else Int64.ofInt b) = Int64.ofInt (max a b) := by
      simp only [e1, e', Int.max_def, Int.min_def]
      split <;> split <;> first | rfl | (congr 1; omega)
    rw [hm]
    exact h

theorem G_mminL {own : String} {idx : Nat} {a b : Int} (hy : y.cls = own) (ha : R64 a) (hb2 : R64 b) (h8 : (st.map cat).sum ≤ 8) (hw : Cond.methodLink own idx Lib.MathLoose.min_long.x ∈ tblG ∧ Cond.static Lib.MathLoose.min_long.x ∈ tblG ∧ Cond.initialized "java/lang/Math" ∈ tblG ∧ Cond.code Lib.MathLoose.min_long.x Lib.MathLoose.min_long.code 4 (some .long) ∈ tblG) (hd : decode cc pc = .ok (.invokestatic idx, 3)) (kk : G y cc nL rt d Q (pc + 3) lv (aL (min a b) :: st) σ) : G y cc nL rt d Q pc lv (aL b :: aL a :: st) σ := by
  intro l p e s m args below meth c D E ad A H locs ls hC hH hS hl
  have hx := hC.1
  have hb := hC.2.1
  subst hy
  refine va_mmin_long hx hb (by rw [hC.2.2.1, hl.1]) hC.2.2.2.2.1 (hC.2.2.2.2.2.1 _ hw.1) (hC.2.2.2.2.2.1 _ hw.2.1) (hC.2.2.2.2.2.1 _ hw.2.2.1) (hC.2.2.2.2.2.1 _ hw.2.2.2) (by unfold Rm; show 1 ≤ d + 1; omega) ?_ (Nat.zero_le _) (Nat.zero_le _) hd ?_
  · rw [List.map_map]; simp only [Function.comp_def, cat_eq]; unfold Rm; show (st.map cat).sum + 15 ≤ 64 * (d + 1); omega
  · have e1 := r64_lt ha hb2
    have e' := r64_lt hb2 ha
    have h := kk l p e s m args below meth c D E ad A H locs ls hC hH hS hl
    have hm : (if Int64.ofInt b < Int64.ofInt a then Int64.ofInt b else Int64.ofInt a) = Int64.ofInt (min a b) := by
      simp only [e1, e', Int.max_def, Int.min_def]
      split <;> split <;> first | rfl | (congr 1; omega)
    rw [hm]
    exact h

/-- behind System.arraycopy -/
def mcpy (σ : Mem) (p0 : Nat) (sp : Int) (p1 : Nat) (dp n : Int) : Mem := mrow σ p1 (fun i => if dp ≤ i ∧ i < dp + n then σ p0 (sp + (i - dp)) else σ p1 i)
theorem OKm.cpy {p0 p1 : Nat} {sp dp n : Int} (h : OKm σ) (h0 : ∀ i, isLg p0 i = false) (h1 : ∀ i, isLg p1 i = false) : OKm (mcpy σ p0 sp p1 dp n) := by
  refine h.row p1 _ (fun i => ?_) h1
  by_cases e : dp ≤ i ∧ i < dp + n
  · simp only [if_pos e]; exact h.i _ _ (h0 _)
  · simp only [if_neg e]; exact h.i _ _ (h1 _)

theorem G_copy {own : String} {idx p0 p1 n0 n1 : Nat} {sp dp n : Int} {ks0 ks1 : List (Nat × Nat)} (hy : y.cls = own) (hs0 : shp p0 = (1, n0, ks0)) (hs1 : shp p1 = (1, n1, ks1)) (hq0 : p0 < 93) (hq1 : p1 < 93) (h1 : 0 ≤ sp) (h2 : 0 ≤ dp) (h3 : 0 ≤ n) (h4 : sp + n ≤ n0) (h5 : dp + n ≤ n1) (h8 : (st.map cat).sum ≤ 8) (hw : Cond.methodLink own idx arraycopyName ∈ tblG ∧ Cond.native arraycopyName ∈ tblG ∧ Cond.static arraycopyName ∈ tblG ∧ Cond.initialized "java/lang/System" ∈ tblG) (hd : decode cc pc = .ok (.invokestatic idx, 3)) (kk : G y cc nL rt d Q (pc + 3) lv st (mcpy σ p0 sp p1 dp n)) : G y cc nL rt d Q pc lv (aI n :: aI dp :: aR p1 :: aI sp :: aR p0 :: st) σ := by
  intro l p e s m args below meth c D E ad A H locs ls hC hH hS hl
  have hx := hC.1
  have hb := hC.2.1
  subst hy
  have b0 : n0 < 2147483648 := by have := shp_lt p0; rw [hs0] at this; exact this
  have b1 : n1 < 2147483648 := by have := shp_lt p1; rw [hs1] at this; exact this
  have Rs : R32 sp := ⟨by omega, by omega⟩
  have Rd : R32 dp := ⟨by omega, by omega⟩
  have Rn : R32 n := ⟨by omega, by omega⟩
  have es : (Int32.ofInt sp).toNatClampNeg = sp.toNat := by show (Int32.ofInt sp).toInt.toNat = _; rw [r32_toInt Rs]
  have ed : (Int32.ofInt dp).toNatClampNeg = dp.toNat := by show (Int32.ofInt dp).toInt.toNat = _; rw [r32_toInt Rd]
  have en : (Int32.ofInt n).toNatClampNeg = n.toNat := by show (Int32.ofInt n).toInt.toNat = _; rw [r32_toInt Rn]
  refine va_copyi (ty := .int) hx hb (by rw [hC.2.2.1, hl.1]) hC.2.2.2.2.1 (hC.2.2.2.2.2.1 _ hw.1) (hC.2.2.2.2.2.1 _ hw.2.1) (hC.2.2.2.2.2.1 _ hw.2.2.1) (hC.2.2.2.2.2.1 _ hw.2.2.2) hC.2.2.2.2.2.2.2.1 hH.1 hH.2 hS p0 p1 0 0 (by rw [Wd_at hq0, cel_int hs0]) (by rw [Wd_at hq1, cel_int hs1]) rfl rfl rfl (fun h => by have := (r32_lt Rs r32_0).mp h; omega) (fun h => by have := (r32_lt Rd r32_0).mp h; omega) (fun h => by have := (r32_lt Rn r32_0).mp h; omega) (by rw [es, en]; omega) (by rw [ed, en]; omega) (fun i _ => rfl) (by unfold Rm; show 1 ≤ d + 1; omega) ?_ hd ?_
  · rw [List.map_map]; simp only [Function.comp_def, cat_eq]; unfold Rm
    have : nativeFrameWords "java/lang/System" "arraycopy" 5 = 7 := by decide +kernel
    rw [this]
    show (st.map cat).sum + (7 + 11) ≤ 64 * (d + 1); omega
  · intro H1 locs1 hP1 hD1 hS1
    have hf : va_cpy (fun i : Nat => Int32.ofInt (σ p0 (i : Int))) (fun i : Nat => Int32.ofInt (σ p1 (i : Int))) (Int32.ofInt sp).toNatClampNeg (Int32.ofInt dp).toNatClampNeg (Int32.ofInt n).toNatClampNeg = fun i : Nat => Int32.ofInt (mcpy σ p0 sp p1 dp n p1 (i : Int)) := by
      funext i
      rw [es, ed, en]
      unfold va_cpy mcpy
      rw [mrow_self]
      by_cases e : dp.toNat ≤ i ∧ i < dp.toNat + n.toNat
      · rw [if_pos e, if_pos (by omega)]
        have e9 : ((sp.toNat + (i - dp.toNat) : Nat) : Int) = sp + ((i : Int) - dp) := by omega
        rw [← e9]
      · rw [if_neg e, if_neg (by omega)]
    rw [hf, Wd_set (σ' := mcpy σ p0 sp p1 dp n) hq1 (by rw [cel_int hs1]) (fun r hr => by unfold mcpy; rw [mrow_ne hr])] at hP1 hD1
    exact kk l p e s m args below meth c D E ad A H1 locs1 _ hC ⟨hP1, hD1⟩ hS1 hl

end GH
