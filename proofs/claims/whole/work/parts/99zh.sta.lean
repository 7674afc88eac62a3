theorem CG_pre2 {D : va_G} {E : Nat → ClassId} {A : Nat → Prop} {ws : va_W} {s : State} {H : Heap} {locs : List Loc} {vs : List Value} (hK : va_K D classes (tyL E) s) (hA : ∀ q, s.heap.size ≤ q → A q) (hO : XO s) (hH : va_P D classes ws H ∧ va_D A ws) (hS : va_S A s.heap H locs) : PreS s H (va_Pc vs (CPre D E A ws)) vs := by
  refine ⟨fun a U g mk q => ?_, fun U hU hW => ⟨rfl, va_K.moved hW.alike hK, by rw [hU]; exact hH, fun q hq => hA q (Nat.le_trans hS.1 (by rw [hU] at hq; exact hq)), hO.warm hW⟩⟩
  obtain ⟨q0, qK, qH, qA, qO⟩ := q
  exact ⟨q0, va_K.moved (u := U) (U := U.calling g mk a) (Vm.Alike.refl U.vm) qK, qH, qA, qO.same rfl⟩
theorem callB_S {own : String} {idx : Nat} {y' : MethodName} {cc' : ByteArray} {nL' d' mc' ms' n : Nat} {s : State} {args : Array Value} (hts : ∀ w ∈ tblG, w.before args s = true) (hf : CFb own y' cc' nL' none n) (hl : Cond.methodLink own idx y' ∈ tblG) (hdd : d' ≤ 1000) : CallB room_1 s args own idx y' cc' nL' none (Cond.code y' cc' nL' none :: tblG) (CRm d' mc' ms') mc' ms' n :=
  callB_of n hts (tblG_in _ _ _ _ hf.2.1) rfl rfl rfl (hts _ hf.1) (hts _ hl) ⟨hf.2.2.1.1, hf.2.2.1.2, hf.2.2.2.1⟩ ⟨by unfold CRm; show d' + 1 + 1 ≤ 2048; omega, by have := hf.2.2.2.2; unfold CRm; show 8 + (nL' + 11) + 64 * (d' + 1) ≤ 84000; omega⟩
/-- a constructor, called by the law -/
theorem law_callI {p : Program} {l : Launch} {e : Jvm.Env} {s : State} {m : MethodId} {args : Array Value} {below : List Frame} {meth : Method} {c : Code} {D : va_G} {E : Nat → ClassId} {A : Nat → Prop} {H : Heap} {locs : List Loc} {ls : Array Slot} {pc : Nat} {st : List Value} {ws : va_W} {cells slots : Nat} {Q : State → Prop} {idx : Nat} {y' : MethodName} {cc' : ByteArray} {nL' d' mc' ms' a : Nat} {Wn' : va_W → Prop} (hx : p.tables.exec = Jvm.exec) (hb : c.code = code) (hml : c.maxLocals = 4) (hown : s.vm.findClass RL = some m.cls) (hts : ∀ w ∈ tblG, w.before args s = true) (hK : va_K D classes (tyL E) s) (hA : ∀ q, s.heap.size ≤ q → A q) (hO : XO s) (hH : va_P D classes ws H ∧ va_D A ws) (hS : va_S A s.heap H locs) (hl : ls.size = 4) (hf : CFi RL idx y' cc' nL' 0) (hM : CMt y' cc' nL' d' mc' ms' [.ref a] D E A ws Wn') (hdd : d' ≤ 1000) (h8 : (st.map fun v => v.category).sum ≤ 8) (hcells : cells + mc' ≤ 600000) (hslots : slots + ms' ≤ 7302250) (hd : decode code pc = .ok (.invokespecial idx, 3))
    (kk : ∀ (ws' : va_W) (H1 : Heap) (locs1 : List Loc), Wn' ws' → (va_P D classes ws' H1 ∧ va_D A ws') → va_S A s.heap H1 locs1 → W p l e room_1 s m args below meth c H1 locs1 (cells + mc') (slots + ms') Q (F0 m (pc + 3) ls st)) : W p l e room_1 s m args below meth c H locs cells slots Q (F0 m pc ls (.ref a :: st)) := by
  intro T hT X
  have ha := va_runI (As := []) (rest := st) (b := a) (g := F0 m pc ls (.ref a :: st)) (below := below) (meth := meth) (locs := locs) (cells := cells) (slots := slots) (e := e) ⟨hx, hb, hml, hown, hts⟩ (hM l) ⟨callB_S hts hf.1 hf.2.1 hdd, hf.2.2.2, hts _ hf.2.2.1⟩ (CG_pre2 hK hA hO hH hS) rfl rfl hl rfl (lv_room h8) hd ⟨hcells, hslots⟩
  obtain ⟨v, st₀, t, T', L, h0, X', hL, e1, e2, ⟨⟨ws', hw, hov, hP', hD'⟩, hz, hk⟩, stp⟩ := ha T hT X
  rw [h0] at hz hk
  have hv : v = none := by injection hov
  have hS' : va_S A s.heap T'.heap (locs ++ L) := ⟨Nat.le_trans hS.1 (by rw [e1]; exact hz), fun q h1 h2 => by rw [e1, hk q (Nat.lt_of_lt_of_le h1 hS.1) h2]; exact hS.2.1 q h1 h2, fun q hq => by
      rcases List.mem_append.mp hq with h | h
      · exact hS.2.2 q h
      · exact hL q h⟩
  obtain ⟨t2, a1, b1⟩ := kk ws' T'.heap (locs ++ L) hw ⟨by rw [e1]; exact hP', hD'⟩ hS' T' rfl X'
  refine ⟨t2, stp t2 ?_, b1⟩
  rw [hv]
  exact a1
theorem arr_K {s : State} {args : Array Value} {ty : FieldType} (hp : ∀ C, ty ≠ .object C) (h : (Cond.arrayClass ty).before args s = true) : ∃ c : ClassId, ArrOfT s c ty ∧ va_RA s c ty := by
  obtain ⟨c, k, comp, h1, h2, h3⟩ := Cond.arrayClass_spec h
  refine ⟨c, fun n z => ⟨fun k h => (by cases h), k, h2, comp, h3⟩, ?_⟩
  cases ty with
  | object C => exact absurd rfl (hp C)
  | _ => exact h1
theorem arr_T {s : State} {args : Array Value} (h : (Cond.arrayOver (.object TX)).before args s = true) : ∃ c : ClassId, ArrOfT s c (.object TX) ∧ va_RA s c (.object TX) := by
  obtain ⟨comp, c, k, h1, h2, h3, h4, h5⟩ := Cond.arrayOver_spec h
  exact ⟨c, fun n z => ⟨fun k h => (by cases h), k, h3, comp, h4⟩, k, comp, h3, h4, h1, h5⟩
theorem E_of {s : State} {args : Array Value} (hts : ∀ w ∈ tblG, w.before args s = true) (ho : (Cond.arrayOver (.object TX)).before args s = true) : ∃ E : Nat → ClassId, ∀ (k : Nat) (q : ClassId × FieldType), (tyL E)[k]? = some q → ArrOfT s q.1 q.2 ∧ va_RA s q.1 q.2 := by
  obtain ⟨c0, h0⟩ := arr_K (fun C h => by cases h) (hts _ cw_a_int)
  obtain ⟨c1, h1⟩ := arr_K (fun C h => by cases h) (hts _ cw_a_long)
  obtain ⟨c2, h2⟩ := arr_K (fun C h => by cases h) (hts _ cw_a_boolean)
  obtain ⟨c3, h3⟩ := arr_T ho
  refine ⟨fun k => [c0, c1, c2, c3].getD k c0, fun k q hk => ?_⟩
  match k, hk with
  | 0, hk => cases hk; exact h0
  | 1, hk => cases hk; exact h1
  | 2, hk => cases hk; exact h2
  | 3, hk => cases hk; exact h3
  | k + 4, hk => simp at hk

theorem D_of {s : State} {args : Array Value} (hts : ∀ w ∈ tblG, w.before args s = true) : ∃ D : va_G, ∀ (k : Nat) (q : vw_C), classes[k]? = some q → u_Kn s q.1 q.2.1 q.2.2 (D.1 k) (D.2 k) := by
  obtain ⟨c0, i0, h0⟩ := u_known (C := RX0) (T := TX0) (N := 5) (n := 5) hts iX0 (hts _ cw_n_X0)
  obtain ⟨c2, i2, h2⟩ := u_known (C := RX2) (T := TX2) (N := 4) (n := 4) hts iX2 (hts _ cw_n_X2)
  obtain ⟨c3, i3, h3⟩ := u_known (C := RX3) (T := TX3) (N := 8) (n := 8) hts iX3 (hts _ cw_n_X3)
  obtain ⟨c4, i4, h4⟩ := u_known (C := RX4) (T := TX4) (N := 10) (n := 10) hts iX4 (hts _ cw_n_X4)
  obtain ⟨c5, i5, h5⟩ := u_known (C := RX5) (T := TX5) (N := 6) (n := 6) hts iX5 (hts _ cw_n_X5)
  obtain ⟨c6, i6, h6⟩ := u_known (C := RX6) (T := TX6) (N := 9) (n := 9) hts iX6 (hts _ cw_n_X6)
  obtain ⟨c7, i7, h7⟩ := u_known (C := RX7) (T := TX7) (N := 3) (n := 3) hts iX7 (hts _ cw_n_X7)
  obtain ⟨c8, i8, h8⟩ := u_known (C := RX8) (T := TX8) (N := 6) (n := 6) hts iX8 (hts _ cw_n_X8)
  obtain ⟨c9, i9, h9⟩ := u_known (C := RX9) (T := TX9) (N := 10) (n := 10) hts iX9 (hts _ cw_n_X9)
  obtain ⟨c10, i10, h10⟩ := u_known (C := RX10) (T := TX10) (N := 13) (n := 13) hts iX10 (hts _ cw_n_X10)
  obtain ⟨c11, i11, h11⟩ := u_known (C := RX11) (T := TX11) (N := 13) (n := 13) hts iX11 (hts _ cw_n_X11)
  obtain ⟨c12, i12, h12⟩ := u_known (C := RX12) (T := TX12) (N := 35) (n := 35) hts iX12 (hts _ cw_n_X12)
  refine ⟨(fun k => [c0, c0, c2, c3, c4, c5, c6, c7, c8, c9, c10, c11, c12].getD k c0, fun k => [i0, i0, i2, i3, i4, i5, i6, i7, i8, i9, i10, i11, i12].getD k i0), fun k q hk => ?_⟩
  match k, hk with
  | 0, hk => cases hk; exact h0
  | 1, hk => cases hk; exact h0
  | 2, hk => cases hk; exact h2
  | 3, hk => cases hk; exact h3
  | 4, hk => cases hk; exact h4
  | 5, hk => cases hk; exact h5
  | 6, hk => cases hk; exact h6
  | 7, hk => cases hk; exact h7
  | 8, hk => cases hk; exact h8
  | 9, hk => cases hk; exact h9
  | 10, hk => cases hk; exact h10
  | 11, hk => cases hk; exact h11
  | 12, hk => cases hk; exact h12
  | k + 13, hk => simp at hk

theorem tblG_lw {w : Cond} (h : w ∈ tblG) : w ∈ lw_tbl := (List.mem_filter.mp h).1
abbrev tmS (i : Nat) : Term := if i = 0 then Term.string "LiquoriceRoads$Tape" 67 else Term.string "LiquoriceRoads$Tape" 60
theorem st_el0 : ∀ j : Nat, j < 132 → Cond.eq (.elem (.field (.string "LiquoriceRoads$Tape" 67) "java/lang/String" "value" "[B") (.int (Int32.ofNat j))) (.int ((strByt.getD 0 []).getD j 0)) ∈ flatC (Jvm.Cond.and given_1 narrow_1) := by decide +kernel
theorem st_el1 : ∀ j : Nat, j < 11 → Cond.eq (.elem (.field (.string "LiquoriceRoads$Tape" 60) "java/lang/String" "value" "[B") (.int (Int32.ofNat j))) (.int ((strByt.getD 1 []).getD j 0)) ∈ flatC (Jvm.Cond.and given_1 narrow_1) := by decide +kernel
theorem st_len : strLen.getD 0 0 = 132 ∧ strLen.getD 1 0 = 11 := by decide +kernel
theorem st_S {args : Array Value} {s : State} {A : Nat → Prop} (hgv : (Jvm.Cond.and given_1 narrow_1).before args s = true) (hA : ∀ a : Nat, a < s.heap.size → ¬ A a) : ∃ adK adV : Nat → Nat, vk_S 2 strLen strByt adK adV A s s.heap ∧ ∀ i : Nat, i < 2 → (tmS i).eval args s none [] s = some (.ref (adK i)) := by
  have hs := flat_of_before _ hgv
  have i2 : ∀ i : Nat, i < 2 → i = 0 ∨ i = 1 := fun i h => by omega
  refine vk_Sof (args := args) (N := 2) (tm := tmS) (len := strLen) (byt := strByt) ?_ ?_ ?_ ?_ ?_ ?_ ?_ hA
  · intro i hi
    rcases i2 i hi with rfl | rfl
    · rw [st_len.1]; decide
    · rw [st_len.2]; decide
  · intro i hi
    rcases i2 i hi with rfl | rfl
    · exact hs (Cond.exactly (Term.string "LiquoriceRoads$Tape" 67) "java/lang/String") (by decide +kernel)
    · exact hs (Cond.exactly (Term.string "LiquoriceRoads$Tape" 60) "java/lang/String") (by decide +kernel)
  · intro i hi
    rcases i2 i hi with rfl | rfl
    · exact hs (Cond.eq (.field (Term.string "LiquoriceRoads$Tape" 67) "java/lang/String" "coder" "B") (.int 0)) (by decide +kernel)
    · exact hs (Cond.eq (.field (Term.string "LiquoriceRoads$Tape" 60) "java/lang/String" "coder" "B") (.int 0)) (by decide +kernel)
  · intro i hi
    rcases i2 i hi with rfl | rfl
    · exact hs (Cond.arrayOf (.field (Term.string "LiquoriceRoads$Tape" 67) "java/lang/String" "value" "[B") .byte) (by decide +kernel)
    · exact hs (Cond.arrayOf (.field (Term.string "LiquoriceRoads$Tape" 60) "java/lang/String" "value" "[B") .byte) (by decide +kernel)
  · intro i hi
    rcases i2 i hi with rfl | rfl
    · rw [st_len.1]; exact hs (Cond.eq (.length (.field (Term.string "LiquoriceRoads$Tape" 67) "java/lang/String" "value" "[B")) (.int 132)) (by decide +kernel)
    · rw [st_len.2]; exact hs (Cond.eq (.length (.field (Term.string "LiquoriceRoads$Tape" 60) "java/lang/String" "value" "[B")) (.int 11)) (by decide +kernel)
  · intro i hi j hj
    rcases i2 i hi with rfl | rfl
    · rw [st_len.1] at hj; exact hs _ (st_el0 j hj)
    · rw [st_len.2] at hj; exact hs _ (st_el1 j hj)
  · intro i j hi hj hne
    have n1 : Cond.not (Cond.eq (Term.string "LiquoriceRoads$Tape" 67) (Term.string "LiquoriceRoads$Tape" 60)) ∈ flatC (Jvm.Cond.and given_1 narrow_1) ∨ Cond.not (Cond.eq (Term.string "LiquoriceRoads$Tape" 60) (Term.string "LiquoriceRoads$Tape" 67)) ∈ flatC (Jvm.Cond.and given_1 narrow_1) := by decide +kernel
    rcases i2 i hi with rfl | rfl <;> rcases i2 j hj with rfl | rfl
    · exact absurd rfl hne
    · rcases n1 with h | h
      · exact .inl (hs _ h)
      · exact .inr (hs _ h)
    · rcases n1 with h | h
      · exact .inr (hs _ h)
      · exact .inl (hs _ h)
    · exact absurd rfl hne
theorem st_Ext {b : Nat} {s : State} {A : Nat → Prop} (hts : ∀ w ∈ lw_tbl, w.before #[Value.ref b] s = true) (hgv : (Jvm.Cond.and given_1 narrow_1).before #[Value.ref b] s = true) (hA : ∀ a : Nat, a < s.heap.size → ¬ A a) : ∃ ex : Nat → Nat, ex 1030 = b ∧ ∀ ad : Nat → Nat, (∀ p, 93 ≤ p → ad p = ex p) → Ext ad A s s.heap := by
  have hs := flat_of_before _ hgv
  obtain ⟨adK, adV, hS, hE⟩ := st_S hgv hA
  have hc : va_Z "java/lang/String" "COMPACT_STRINGS" "Z" (.int 1) A s s.heap := va_Zof (hts _ (List.mem_of_getElem? (i := 627) (by decide +kernel))) (hts _ (List.mem_of_getElem? (i := 127) (by decide +kernel))) (va_eqi (hs (Cond.eq (.static "java/lang/String" "COMPACT_STRINGS" "Z") (.int 1)) (by decide +kernel))) hA
  obtain ⟨v, hv, hvr⟩ := Cond.isRef_spec (hs (Cond.isRef (.static "jdk/internal/util/Preconditions" "SIOOBE_FORMATTER" "Ljava/util/function/BiFunction;")) (by decide +kernel))
  have hz : va_Z "jdk/internal/util/Preconditions" "SIOOBE_FORMATTER" "Ljava/util/function/BiFunction;" v A s s.heap := va_Zof (hts _ (List.mem_of_getElem? (i := 643) (by decide +kernel))) (hts _ (List.mem_of_getElem? (i := 129) (by decide +kernel))) hv hA
  obtain ⟨f0, f1, hf⟩ : ∃ f0 f1 : Nat, v = if f1 = 0 then .null else .ref f0 := by
    cases v with
    | ref a => exact ⟨a, 1, rfl⟩
    | null => exact ⟨0, 0, rfl⟩
    | _ => cases hvr
  have r0 : vk_R "LiquoriceRoads$Tape" 67 (strTx.getD 0 "") (adK 0) s := vk_R.of (A := #[Value.ref b]) (hts _ (List.mem_of_getElem? (i := 617) (by decide +kernel))) (hE 0 (by omega))
  have r1 : vk_R "LiquoriceRoads$Tape" 60 (strTx.getD 1 "") (adK 1) s := vk_R.of (A := #[Value.ref b]) (hts _ (List.mem_of_getElem? (i := 680) (by decide +kernel))) (hE 1 (by omega))
  have hN : Nst s := by
    refine ⟨fun q hq => ?_, va_Nw.of rfl (hts _ (List.mem_of_getElem? (i := 443) (by decide +kernel)))⟩
    have : q = ("LiquoriceRoads$Kind", 9) ∨ q = ("LiquoriceRoads$Laws", 88) ∨ q = ("LiquoriceRoads$Reader", 66) ∨ q = ("LiquoriceRoads$Tape", 79) ∨ q = ("LiquoriceRoads$Text", 43) := by simpa [nestL] using hq
    rcases this with rfl | rfl | rfl | rfl | rfl
    · exact va_Nw.of rfl (hts _ (List.mem_of_getElem? (i := 801) (by decide +kernel)))
    · exact va_Nw.of rfl (hts _ (List.mem_of_getElem? (i := 906) (by decide +kernel)))
    · exact va_Nw.of rfl (hts _ (List.mem_of_getElem? (i := 856) (by decide +kernel)))
    · exact va_Nw.of rfl (hts _ (List.mem_of_getElem? (i := 612) (by decide +kernel)))
    · exact va_Nw.of rfl (hts _ (List.mem_of_getElem? (i := 843) (by decide +kernel)))
  refine ⟨fun p => if p = 1000 then adK 0 else if p = 1001 then adK 1 else if p = 1010 then adV 0 else if p = 1011 then adV 1 else if p = 1020 then f0 else if p = 1021 then f1 else b, rfl, fun ad had => ?_⟩
  have k0 : ad 1000 = adK 0 := had 1000 (by omega)
  have k1 : ad 1001 = adK 1 := had 1001 (by omega)
  have v0 : ad 1010 = adV 0 := had 1010 (by omega)
  have v1 : ad 1011 = adV 1 := had 1011 (by omega)
  have e0 : ad 1020 = f0 := had 1020 (by omega)
  have e1 : ad 1021 = f1 := had 1021 (by omega)
  have i2 : ∀ i : Nat, i < 2 → i = 0 ∨ i = 1 := fun i h => by omega
  have eK : ∀ i : Nat, i < 2 → ad (1000 + i) = adK i := fun i hi => by rcases i2 i hi with rfl | rfl; exact k0; exact k1
  have eV : ∀ i : Nat, i < 2 → ad (1010 + i) = adV i := fun i hi => by rcases i2 i hi with rfl | rfl; exact v0; exact v1
  refine ⟨⟨fun i hi => ?_, fun i j hi hj he => hS.2 i j hi hj ?_⟩, by rw [k0]; exact r0, by rw [k1]; exact r1, hc, ?_, hN⟩
  · dsimp only
    rw [eK i hi, eV i hi]; exact hS.1 i hi
  · dsimp only at he
    rw [eK i hi, eK j hj] at he; exact he
  · rw [e0, e1, ← hf]; exact hz
theorem st_XO {b : Nat} {s : State} (hts : ∀ w ∈ lw_tbl, w.before #[Value.ref b] s = true) : XO s := by
  refine ⟨va_AO.of (hts _ (List.mem_of_getElem? (i := 298) (by decide +kernel))), fun q hq => ?_⟩
  have : q = (9, yX10_init) ∨ q = (18, yX6_init) ∨ q = (25, yX7_init) ∨ q = (48, yX8_init) ∨ q = (98, yX9_init) := by simpa [nestI] using hq
  rcases this with rfl | rfl | rfl | rfl | rfl
  · exact va_Nw.of rfl (hts _ (List.mem_of_getElem? (i := 146) (by decide +kernel)))
  · exact va_Nw.of rfl (hts _ (List.mem_of_getElem? (i := 227) (by decide +kernel)))
  · exact va_Nw.of rfl (hts _ (List.mem_of_getElem? (i := 282) (by decide +kernel)))
  · exact va_Nw.of rfl (hts _ (List.mem_of_getElem? (i := 301) (by decide +kernel)))
  · exact va_Nw.of rfl (hts _ (List.mem_of_getElem? (i := 464) (by decide +kernel)))
