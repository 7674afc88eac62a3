theorem lwc_0 {xL : Nat} {xs : Nat → Int32} {i n : Int} {σ : Mem} (hi : 0 ≤ i ∧ i + 6 ≤ xL ∧ xL ≤ 3072) (hO : OKm σ) (h : LI σ n) (hN : n ≤ 600000000) (hE : ∀ σ' : Mem, OKm σ' → LI σ' (n + 10000) → LG xL xs 1547 (LV i) [] σ') : LG xL xs 236 (LV i) [] σ := by
  obtain ⟨A, Ls, IA, IL, tx, X, hC, hM, hJ, hn⟩ := h
  have hI := hC.1.1.2.2.1
  have hcn := hI.1
  refine LG_aload_n 1 rfl rfl dL_law_236 ?_
  refine LG_sc (k := 1) hi (by omega) dL_law_237 dL_law_238 dL_law_239 dL_law_240 dL_law_241 ?_
  refine LG_sc (k := 2) hi (by omega) dL_law_242 dL_law_243 dL_law_244 dL_law_245 dL_law_246 ?_
  refine LG_sc (k := 3) hi (by omega) dL_law_247 dL_law_248 dL_law_249 dL_law_250 dL_law_251 ?_
  refine LG_sc (k := 4) hi (by omega) dL_law_252 dL_law_253 dL_law_254 dL_law_255 dL_law_256 ?_
  refine LG_call (as := [_, _, _, _]) cf_L_13 rfl rfl (sp_X11_road 2 (Nat.le_refl _) _ hO _ (sc_r _ _) _ (sc_r _ _) _ (sc_r _ _) _ (sc_r _ _) A Ls tx hC.1) (by omega) rfl rfl (Nat.le_of_ble_eq_true rfl) dL_law_257 ?_
  rintro _ σ1 ⟨u, rfl, hp⟩ hO1 hr1
  have a1 : ∀ q : Nat, 74 ≤ q → σ1 q = σ q := fun q hq => hp.2.2 q (by simp; omega)
  have hM1 := hM.other a1
  refine LG_aload_n 2 rfl rfl dL_law_260 ?_
  refine LG_sc (k := 1) hi (by omega) dL_law_261 dL_law_262 dL_law_263 dL_law_264 dL_law_265 ?_
  refine LG_sc (k := 2) hi (by omega) dL_law_266 dL_law_267 dL_law_268 dL_law_269 dL_law_270 ?_
  refine LG_sc (k := 3) hi (by omega) dL_law_271 dL_law_272 dL_law_273 dL_law_274 dL_law_275 ?_
  refine LG_sc (k := 4) hi (by omega) dL_law_276 dL_law_277 dL_law_278 dL_law_279 dL_law_280 ?_
  refine LG_call (as := [_, _, _, _]) cf_L_17 rfl rfl (sp_X12_road 2 (Nat.le_refl _) _ hO1 _ (sc_r _ _) _ (sc_r _ _) _ (sc_r _ _) _ (sc_r _ _) A Ls tx hM1.1) (by omega) rfl rfl (Nat.le_of_ble_eq_true rfl) dL_law_281 ?_
  rintro _ σ2 ⟨u2, rfl, hp2⟩ hO2 hr2
  have fin : u = u2 ∧ LI σ2 (n + 10000) := by
    obtain ⟨p1, p2, pF⟩ := hp
    obtain ⟨m1, m2, mF⟩ := hp2
    by_cases hc : roadOK A (sc xs (i + 1)) (sc xs (i + 2)) (sc xs (i + 3)) (sc xs (i + 4))
    · obtain ⟨e1, v1⟩ := p1 hc
      obtain ⟨e2, v2⟩ := m1 hc
      exact ⟨by rw [e1, e2], fin_deed hC hM hJ hn v1 pF v2 (stM.of75 mF) (by omega) (hJ.1.road hI) (extA.road)⟩
    · obtain ⟨e1, v1⟩ := p2 hc
      obtain ⟨e2, v2⟩ := m2 hc
      exact ⟨by rw [e1, e2], fin_deed hC hM hJ hn v1 pF v2 (stM.of75 mF) (by omega) hJ.1 (extA.rf A)⟩
  exact LG_icmp_eq (tgt := 1547) (hr1 _ rfl) (hr2 _ rfl) dL_law_284 (by decide) (fun _ => hE σ2 hO2 fin.2) (fun hne => absurd fin.1 hne)

theorem lwc_1 {xL : Nat} {xs : Nat → Int32} {i n : Int} {σ : Mem} (hi : 0 ≤ i ∧ i + 6 ≤ xL ∧ xL ≤ 3072) (hO : OKm σ) (h : LI σ n) (hN : n ≤ 600000000) (hE : ∀ σ' : Mem, OKm σ' → LI σ' (n + 10000) → LG xL xs 1547 (LV i) [] σ') : LG xL xs 289 (LV i) [] σ := by
  obtain ⟨A, Ls, IA, IL, tx, X, hC, hM, hJ, hn⟩ := h
  have hI := hC.1.1.2.2.1
  have hcn := hI.1
  refine LG_aload_n 1 rfl rfl dL_law_289 ?_
  refine LG_sc (k := 1) hi (by omega) dL_law_290 dL_law_291 dL_law_292 dL_law_293 dL_law_294 ?_
  refine LG_sc (k := 2) hi (by omega) dL_law_295 dL_law_296 dL_law_297 dL_law_298 dL_law_299 ?_
  refine LG_call (as := [_, _]) cf_L_18 rfl rfl (sp_X11_goer 2 (Nat.le_refl _) _ hO _ (sc_r _ _) _ (sc_r _ _) A Ls tx hC.1) (by omega) rfl rfl (Nat.le_of_ble_eq_true rfl) dL_law_300 ?_
  rintro _ σ1 ⟨u, rfl, hp⟩ hO1 hr1
  have a1 : ∀ q : Nat, 74 ≤ q → σ1 q = σ q := fun q hq => hp.2.2 q (by simp; omega)
  have hM1 := hM.other a1
  refine LG_aload_n 2 rfl rfl dL_law_303 ?_
  refine LG_sc (k := 1) hi (by omega) dL_law_304 dL_law_305 dL_law_306 dL_law_307 dL_law_308 ?_
  refine LG_sc (k := 2) hi (by omega) dL_law_309 dL_law_310 dL_law_311 dL_law_312 dL_law_313 ?_
  refine LG_call (as := [_, _]) cf_L_22 rfl rfl (sp_X12_goer 2 (Nat.le_refl _) _ hO1 _ (sc_r _ _) _ (sc_r _ _) A Ls tx hM1.1) (by omega) rfl rfl (Nat.le_of_ble_eq_true rfl) dL_law_314 ?_
  rintro _ σ2 ⟨u2, rfl, hp2⟩ hO2 hr2
  have fin : u = u2 ∧ LI σ2 (n + 10000) := by
    obtain ⟨p1, p2, pF⟩ := hp
    obtain ⟨m1, m2, mF⟩ := hp2
    by_cases hc : goerOK A (sc xs (i + 1)) (sc xs (i + 2))
    · obtain ⟨e1, v1⟩ := p1 hc
      obtain ⟨e2, v2⟩ := m1 hc
      exact ⟨by rw [e1, e2], fin_deed hC hM hJ hn v1 pF v2 (stM.of75 mF) (by omega) (hJ.1.goer hI) (extA.goer)⟩
    · obtain ⟨e1, v1⟩ := p2 hc
      obtain ⟨e2, v2⟩ := m2 hc
      exact ⟨by rw [e1, e2], fin_deed hC hM hJ hn v1 pF v2 (stM.of75 mF) (by omega) hJ.1 (extA.rf A)⟩
  exact LG_icmp_eq (tgt := 1547) (hr1 _ rfl) (hr2 _ rfl) dL_law_317 (by decide) (fun _ => hE σ2 hO2 fin.2) (fun hne => absurd fin.1 hne)

theorem lwc_2 {xL : Nat} {xs : Nat → Int32} {i n : Int} {σ : Mem} (hi : 0 ≤ i ∧ i + 6 ≤ xL ∧ xL ≤ 3072) (hO : OKm σ) (h : LI σ n) (hN : n ≤ 600000000) (hE : ∀ σ' : Mem, OKm σ' → LI σ' (n + 10000) → LG xL xs 1547 (LV i) [] σ') : LG xL xs 322 (LV i) [] σ := by
  obtain ⟨A, Ls, IA, IL, tx, X, hC, hM, hJ, hn⟩ := h
  have hI := hC.1.1.2.2.1
  have hcn := hI.1
  refine LG_aload_n 1 rfl rfl dL_law_322 ?_
  refine LG_sc (k := 1) hi (by omega) dL_law_323 dL_law_324 dL_law_325 dL_law_326 dL_law_327 ?_
  refine LG_sc (k := 2) hi (by omega) dL_law_328 dL_law_329 dL_law_330 dL_law_331 dL_law_332 ?_
  refine LG_sc (k := 3) hi (by omega) dL_law_333 dL_law_334 dL_law_335 dL_law_336 dL_law_337 ?_
  refine LG_sc (k := 4) hi (by omega) dL_law_338 dL_law_339 dL_law_340 dL_law_341 dL_law_342 ?_
  refine LG_sc (k := 5) hi (by omega) dL_law_343 dL_law_344 dL_law_345 dL_law_346 dL_law_347 ?_
  refine LG_call (as := [_, _, _, _, _]) cf_L_23 rfl rfl (sp_X11_feed 1 (Nat.le_refl _) _ hO _ (sc_r _ _) _ (sc_r _ _) _ (sc_r _ _) _ (sc_r _ _) _ (sc_r _ _) X ⟨hC.2.2.1, hJ.2.2.2.2.1⟩) (by omega) rfl rfl (Nat.le_of_ble_eq_true rfl) dL_law_348 ?_
  rintro _ σ1 ⟨u, rfl, hp⟩ hO1 hr1
  have a1 : ∀ q : Nat, 74 ≤ q → σ1 q = σ q := fun q hq => hp.2.2.1 q (by simp; omega)
  have hM1 := hM.other a1
  refine LG_aload_n 2 rfl rfl dL_law_351 ?_
  refine LG_sc (k := 1) hi (by omega) dL_law_352 dL_law_353 dL_law_354 dL_law_355 dL_law_356 ?_
  refine LG_sc (k := 2) hi (by omega) dL_law_357 dL_law_358 dL_law_359 dL_law_360 dL_law_361 ?_
  refine LG_sc (k := 3) hi (by omega) dL_law_362 dL_law_363 dL_law_364 dL_law_365 dL_law_366 ?_
  refine LG_sc (k := 4) hi (by omega) dL_law_367 dL_law_368 dL_law_369 dL_law_370 dL_law_371 ?_
  refine LG_sc (k := 5) hi (by omega) dL_law_372 dL_law_373 dL_law_374 dL_law_375 dL_law_376 ?_
  refine LG_call (as := [_, _, _, _, _]) cf_L_27 rfl rfl (sp_X12_feed 1 (Nat.le_refl _) _ hO1 _ (sc_r _ _) _ (sc_r _ _) _ (sc_r _ _) _ (sc_r _ _) _ (sc_r _ _) X ⟨hM1.2.2, hJ.2.2.2.2.1⟩) (by omega) rfl rfl (Nat.le_of_ble_eq_true rfl) dL_law_377 ?_
  rintro _ σ2 ⟨u2, rfl, hp2⟩ hO2 hr2
  have fin : u = u2 ∧ LI σ2 (n + 10000) := by
    obtain ⟨p1, p2, f1, j1⟩ := hp
    obtain ⟨m1, m2, f2, j2⟩ := hp2
    have a2 : ∀ q : Nat, q < 74 → σ2 q = σ1 q := fun q hq => f2 q (by simp; omega)
    by_cases hc : X 0 0 + 20 ≤ 300
    · obtain ⟨e1, v1⟩ := p1 hc
      obtain ⟨e2, v2⟩ := m1 hc
      exact ⟨by rw [e1, e2], fin_all hC hM hJ hn (hC.tape v1 (fun q h1 h2 => f1 q (by simp; omega))) a1 (hM1.tape v2 (fun q h1 h2 => f2 q (by simp; omega)) j2) a2 (j2 24 (by omega)) (hJ.tape (hJ.2.2.2.2.feed hc))⟩
    · obtain ⟨e1, v1⟩ := p2 hc
      obtain ⟨e2, v2⟩ := m2 hc
      exact ⟨by rw [e1, e2], fin_all hC hM hJ hn (hC.tape v1 (fun q h1 h2 => f1 q (by simp; omega))) a1 (hM1.tape v2 (fun q h1 h2 => f2 q (by simp; omega)) j2) a2 (j2 24 (by omega)) hJ⟩
  exact LG_icmp_eq (tgt := 1547) (hr1 _ rfl) (hr2 _ rfl) dL_law_380 (by decide) (fun _ => hE σ2 hO2 fin.2) (fun hne => absurd fin.1 hne)

theorem lwc_3 {xL : Nat} {xs : Nat → Int32} {i n : Int} {σ : Mem} (hi : 0 ≤ i ∧ i + 6 ≤ xL ∧ xL ≤ 3072) (hO : OKm σ) (h : LI σ n) (hN : n ≤ 600000000) (hE : ∀ σ' : Mem, OKm σ' → LI σ' (n + 10000) → LG xL xs 1547 (LV i) [] σ') : LG xL xs 385 (LV i) [] σ := by
  obtain ⟨A, Ls, IA, IL, tx, X, hC, hM, hJ, hn⟩ := h
  have hI := hC.1.1.2.2.1
  have hcn := hI.1
  refine LG_aload_n 1 rfl rfl dL_law_385 ?_
  refine LG_sc (k := 1) hi (by omega) dL_law_386 dL_law_387 dL_law_388 dL_law_389 dL_law_390 ?_
  refine LG_call (as := [_]) cf_L_28 rfl rfl (sp_X11_end 1 (Nat.le_refl _) _ hO _ (sc_r _ _)  ) (by omega) rfl rfl (Nat.le_of_ble_eq_true rfl) dL_law_391 ?_
  rintro _ σ1 ⟨u, rfl, hp⟩ hO1 hr1
  have a1 : ∀ q : Nat, 74 ≤ q → σ1 q = σ q := fun q hq => (by rw [hp.2]; split; exact mset_ne (by omega); rfl)
  have hM1 := hM.other a1
  refine LG_aload_n 2 rfl rfl dL_law_394 ?_
  refine LG_sc (k := 1) hi (by omega) dL_law_395 dL_law_396 dL_law_397 dL_law_398 dL_law_399 ?_
  refine LG_call (as := [_]) cf_L_32 rfl rfl (sp_X12_end 1 (Nat.le_refl _) _ hO1 _ (sc_r _ _)  ) (by omega) rfl rfl (Nat.le_of_ble_eq_true rfl) dL_law_400 ?_
  rintro _ σ2 ⟨u2, rfl, hp2⟩ hO2 hr2
  have fin : u = u2 ∧ LI σ2 (n + 10000) := by
    obtain ⟨e1, s1⟩ := hp
    obtain ⟨e2, s2⟩ := hp2
    have x1 : σ 30 1 = X 0 0 := hC.2.2.1.1
    have x2 : σ1 74 4 = X 0 0 := hM1.2.2.1
    rw [x1] at e1 s1
    rw [x2] at e2 s2
    refine ⟨by rw [e1, e2], ?_⟩
    by_cases hc : 0 ≤ (sc xs (i + 1)) ∧ (sc xs (i + 1)) ≤ X 0 0
    · rw [if_pos hc] at s1 s2
      exact fin_all hC hM hJ hn (hC.tape (by rw [s1]; exact hC.2.2.1.cut hc) (fun q h1 h2 => by rw [s1, mset_ne h1])) a1 (hM1.tape (by rw [s2]; exact hM1.2.2.cut hc) (fun q h1 h2 => by rw [s2, mset_ne h1]) (fun j h => by rw [s2, mset_miss h])) (fun q hq => by rw [s2, mset_ne (by omega)]) (by rw [s2, mset_miss (by omega)]) (hJ.tape (hJ.2.2.2.2.cut hc))
    · rw [if_neg hc] at s1 s2
      rw [s2]
      exact fin_all hC hM hJ hn (by rw [s1]; exact hC) a1 hM1 (fun q _ => rfl) rfl hJ
  exact LG_icmp_eq (tgt := 1547) (hr1 _ rfl) (hr2 _ rfl) dL_law_403 (by decide) (fun _ => hE σ2 hO2 fin.2) (fun hne => absurd fin.1 hne)

theorem lwc_4 {xL : Nat} {xs : Nat → Int32} {i n : Int} {σ : Mem} (hi : 0 ≤ i ∧ i + 6 ≤ xL ∧ xL ≤ 3072) (hO : OKm σ) (h : LI σ n) (hN : n ≤ 600000000) (hE : ∀ σ' : Mem, OKm σ' → LI σ' (n + 10000) → LG xL xs 1547 (LV i) [] σ') : LG xL xs 408 (LV i) [] σ := by
  obtain ⟨A, Ls, IA, IL, tx, X, hC, hM, hJ, hn⟩ := h
  have hI := hC.1.1.2.2.1
  have hcn := hI.1
  refine LG_aload_n 1 rfl rfl dL_law_408 ?_
  refine LG_call (as := []) cf_L_33 rfl rfl (sp_X11_text 80 (Nat.le_refl _) _ hO  A Ls IA IL tx X ⟨hC, hJ.2.2.2.2⟩) (by omega) rfl rfl (Nat.le_of_ble_eq_true rfl) dL_law_409 ?_
  rintro _ σ1 ⟨u, rfl, hp⟩ hO1 hr1
  have a1 : ∀ q : Nat, 74 ≤ q → σ1 q = σ q := fun q hq => hp.2.2 q hq
  have hM1 := hM.other a1
  refine LG_aload_n 2 rfl rfl dL_law_412 ?_
  refine LG_call (as := []) cf_L_37 rfl rfl (sp_X12_text 11 (Nat.le_refl _) _ hO1  A Ls IA IL tx X ⟨hM1, hJ.2.2.2.2⟩) (by omega) rfl rfl (Nat.le_of_ble_eq_true rfl) dL_law_413 ?_
  rintro _ σ2 ⟨u2, rfl, hp2⟩ hO2 hr2
  have fin : u = u2 ∧ LI σ2 (n + 10000) := by
    obtain ⟨e1, c1, f1⟩ := hp
    obtain ⟨e2, c2, f2, g2⟩ := hp2
    exact ⟨by rw [e1, e2], fin_all hC hM hJ hn c1 a1 c2 f2 g2 hJ.text⟩
  exact LG_icmp_eq (tgt := 1547) (hr1 _ rfl) (hr2 _ rfl) dL_law_416 (by decide) (fun _ => hE σ2 hO2 fin.2) (fun hne => absurd fin.1 hne)

theorem lwc_5 {xL : Nat} {xs : Nat → Int32} {i n : Int} {σ : Mem} (hi : 0 ≤ i ∧ i + 6 ≤ xL ∧ xL ≤ 3072) (hO : OKm σ) (h : LI σ n) (hN : n ≤ 600000000) (hE : ∀ σ' : Mem, OKm σ' → LI σ' (n + 10000) → LG xL xs 1547 (LV i) [] σ') : LG xL xs 421 (LV i) [] σ := by
  obtain ⟨A, Ls, IA, IL, tx, X, hC, hM, hJ, hn⟩ := h
  have hI := hC.1.1.2.2.1
  have hcn := hI.1
  refine LG_aload_n 1 rfl rfl dL_law_421 ?_
  refine LG_sc (k := 1) hi (by omega) dL_law_422 dL_law_423 dL_law_424 dL_law_425 dL_law_426 ?_
  refine LG_call (as := [_]) cf_L_38 rfl rfl (sp_X11_fault 0 (Nat.le_refl _) _ hO _ (sc_r _ _) X hC.2.2.1) (by omega) rfl rfl (Nat.le_of_ble_eq_true rfl) dL_law_427 ?_
  rintro _ σ1 ⟨u, rfl, hp⟩ hO1 hr1
  have a1 : ∀ q : Nat, 74 ≤ q → σ1 q = σ q := fun q hq => (by rw [hp.2])
  have hM1 := hM.other a1
  refine LG_aload_n 2 rfl rfl dL_law_430 ?_
  refine LG_sc (k := 1) hi (by omega) dL_law_431 dL_law_432 dL_law_433 dL_law_434 dL_law_435 ?_
  refine LG_call (as := [_]) cf_L_41 rfl rfl (sp_X12_fault 0 (Nat.le_refl _) _ hO1 _ (sc_r _ _) X hM1.2.2) (by omega) rfl rfl (Nat.le_of_ble_eq_true rfl) dL_law_436 ?_
  rintro _ σ2 ⟨u2, rfl, hp2⟩ hO2 hr2
  have fin : u = u2 ∧ LI σ2 (n + 10000) := by
    obtain ⟨e1, s1⟩ := hp
    obtain ⟨e2, s2⟩ := hp2
    rw [s2]
    exact ⟨by rw [e1, e2], fin_all hC hM hJ hn (by rw [s1]; exact hC) a1 hM1 (fun q _ => rfl) rfl hJ⟩
  exact LG_icmp_eq (tgt := 1547) (hr1 _ rfl) (hr2 _ rfl) dL_law_439 (by decide) (fun _ => hE σ2 hO2 fin.2) (fun hne => absurd fin.1 hne)

theorem lwc_6 {xL : Nat} {xs : Nat → Int32} {i n : Int} {σ : Mem} (hi : 0 ≤ i ∧ i + 6 ≤ xL ∧ xL ≤ 3072) (hO : OKm σ) (h : LI σ n) (hN : n ≤ 600000000) (hE : ∀ σ' : Mem, OKm σ' → LI σ' (n + 10000) → LG xL xs 1547 (LV i) [] σ') : LG xL xs 444 (LV i) [] σ := by
  obtain ⟨A, Ls, IA, IL, tx, X, hC, hM, hJ, hn⟩ := h
  have hI := hC.1.1.2.2.1
  have hcn := hI.1
  refine LG_aload_n 1 rfl rfl dL_law_444 ?_
  refine LG_sc (k := 1) hi (by omega) dL_law_445 dL_law_446 dL_law_447 dL_law_448 dL_law_449 ?_
  refine LG_call (as := [_]) cf_L_42 rfl rfl (sp_X11_by 2 (Nat.le_refl _) _ hO _ (sc_r _ _) A Ls tx hC.1) (by omega) rfl rfl (Nat.le_of_ble_eq_true rfl) dL_law_450 ?_
  rintro _ σ1 ⟨u, rfl, hp⟩ hO1 hr1
  have a1 : ∀ q : Nat, 74 ≤ q → σ1 q = σ q := fun q hq => hp.2.2 q (by simp; omega)
  have hM1 := hM.other a1
  refine LG_aload_n 2 rfl rfl dL_law_453 ?_
  refine LG_sc (k := 1) hi (by omega) dL_law_454 dL_law_455 dL_law_456 dL_law_457 dL_law_458 ?_
  refine LG_call (as := [_]) cf_L_46 rfl rfl (sp_X12_by 1 (Nat.le_refl _) _ hO1 _ (sc_r _ _) A Ls tx hM1.1) (by omega) rfl rfl (Nat.le_of_ble_eq_true rfl) dL_law_459 ?_
  rintro _ σ2 ⟨u2, rfl, hp2⟩ hO2 hr2
  have fin : u = u2 ∧ LI σ2 (n + 10000) := by
    obtain ⟨p1, p2, pF⟩ := hp
    obtain ⟨m1, m2, mF⟩ := hp2
    by_cases hc : (-1 ≤ (sc xs (i + 1)) ∧ (sc xs (i + 1)) < A 10 2)
    · obtain ⟨e1, v1⟩ := p1 hc
      obtain ⟨e2, v2⟩ := m1 hc
      exact ⟨by rw [e1, e2], fin_deed hC hM hJ hn v1 pF v2 (stM.of75 mF) (by omega) (hJ.1.q10 (by omega)) (extA.q10 (by omega))⟩
    · obtain ⟨e1, v1⟩ := p2 hc
      obtain ⟨e2, v2⟩ := m2 hc
      exact ⟨by rw [e1, e2], fin_deed hC hM hJ hn v1 pF v2 (stM.of75 mF) (by omega) hJ.1 (extA.rf A)⟩
  exact LG_icmp_eq (tgt := 1547) (hr1 _ rfl) (hr2 _ rfl) dL_law_462 (by decide) (fun _ => hE σ2 hO2 fin.2) (fun hne => absurd fin.1 hne)

theorem lwc_7 {xL : Nat} {xs : Nat → Int32} {i n : Int} {σ : Mem} (hi : 0 ≤ i ∧ i + 6 ≤ xL ∧ xL ≤ 3072) (hO : OKm σ) (h : LI σ n) (hN : n ≤ 600000000) (hE : ∀ σ' : Mem, OKm σ' → LI σ' (n + 10000) → LG xL xs 1547 (LV i) [] σ') : LG xL xs 467 (LV i) [] σ := by
  obtain ⟨A, Ls, IA, IL, tx, X, hC, hM, hJ, hn⟩ := h
  have hI := hC.1.1.2.2.1
  have hcn := hI.1
  refine LG_aload_n 1 rfl rfl dL_law_467 ?_
  refine LG_sc (k := 1) hi (by omega) dL_law_468 dL_law_469 dL_law_470 dL_law_471 dL_law_472 ?_
  refine LG_sc (k := 2) hi (by omega) dL_law_473 dL_law_474 dL_law_475 dL_law_476 dL_law_477 ?_
  refine LG_call (as := [_, _]) cf_L_47 rfl rfl (sp_X11_go 6 (Nat.le_refl _) _ hO _ (sc_r _ _) _ (sc_r _ _) A Ls tx hC.1) (by omega) rfl rfl (Nat.le_of_ble_eq_true rfl) dL_law_478 ?_
  rintro _ σ1 ⟨u, rfl, hp⟩ hO1 hr1
  have a1 : ∀ q : Nat, 74 ≤ q → σ1 q = σ q := fun q hq => hp.2.2 q (by simp; omega)
  have hM1 := hM.other a1
  refine LG_aload_n 2 rfl rfl dL_law_481 ?_
  refine LG_sc (k := 1) hi (by omega) dL_law_482 dL_law_483 dL_law_484 dL_law_485 dL_law_486 ?_
  refine LG_sc (k := 2) hi (by omega) dL_law_487 dL_law_488 dL_law_489 dL_law_490 dL_law_491 ?_
  refine LG_call (as := [_, _]) cf_L_50 rfl rfl (sp_X12_go 7 (Nat.le_refl _) _ hO1 _ (sc_r _ _) _ (sc_r _ _) A Ls tx ⟨hM1.1, by rw [a1 74 (by omega)]; omega⟩) (by omega) rfl rfl (Nat.le_of_ble_eq_true rfl) dL_law_492 ?_
  rintro _ σ2 ⟨u2, rfl, hp2⟩ hO2 hr2
  have fin : u = u2 ∧ LI σ2 (n + 10000) := by
    obtain ⟨p1, p2, pF⟩ := hp
    obtain ⟨m1, m2, mF⟩ := hp2
    by_cases hc : canGoV A tx (sc xs (i + 1)) (sc xs (i + 2)) = true
    · obtain ⟨e1, v1⟩ := p1 hc
      obtain ⟨e2, v2⟩ := m1 hc
      exact ⟨by rw [e1, e2], fin_deed hC hM hJ hn v1 pF v2 (mF) (by omega) (hJ.1.push hI (fun q hq => goneS_told hq)) (extA.told (fun q hq => goneS_told hq))⟩
    · obtain ⟨e1, v1⟩ := p2 (by simpa using hc)
      obtain ⟨e2, v2⟩ := m2 (by simpa using hc)
      exact ⟨by rw [e1, e2], fin_deed hC hM hJ hn v1 pF v2 (mF) (by omega) hJ.1 (extA.rf A)⟩
  exact LG_icmp_eq (tgt := 1547) (hr1 _ rfl) (hr2 _ rfl) dL_law_495 (by decide) (fun _ => hE σ2 hO2 fin.2) (fun hne => absurd fin.1 hne)

theorem lwc_8 {xL : Nat} {xs : Nat → Int32} {i n : Int} {σ : Mem} (hi : 0 ≤ i ∧ i + 6 ≤ xL ∧ xL ≤ 3072) (hO : OKm σ) (h : LI σ n) (hN : n ≤ 600000000) (hE : ∀ σ' : Mem, OKm σ' → LI σ' (n + 10000) → LG xL xs 1547 (LV i) [] σ') : LG xL xs 500 (LV i) [] σ := by
  obtain ⟨A, Ls, IA, IL, tx, X, hC, hM, hJ, hn⟩ := h
  have hI := hC.1.1.2.2.1
  have hcn := hI.1
  refine LG_aload_n 1 rfl rfl dL_law_500 ?_
  refine LG_sc (k := 1) hi (by omega) dL_law_501 dL_law_502 dL_law_503 dL_law_504 dL_law_505 ?_
  refine LG_call (as := [_]) cf_L_51 rfl rfl (sp_X11_relay 3 (Nat.le_refl _) _ hO _ (sc_r _ _) A Ls tx hC.1) (by omega) rfl rfl (Nat.le_of_ble_eq_true rfl) dL_law_506 ?_
  rintro _ σ1 ⟨u, rfl, hp⟩ hO1 hr1
  have a1 : ∀ q : Nat, 74 ≤ q → σ1 q = σ q := fun q hq => hp.2.2 q (by simp; omega)
  have hM1 := hM.other a1
  refine LG_aload_n 2 rfl rfl dL_law_509 ?_
  refine LG_sc (k := 1) hi (by omega) dL_law_510 dL_law_511 dL_law_512 dL_law_513 dL_law_514 ?_
  refine LG_call (as := [_]) cf_L_54 rfl rfl (sp_X12_relay 3 (Nat.le_refl _) _ hO1 _ (sc_r _ _) A Ls tx hM1.1) (by omega) rfl rfl (Nat.le_of_ble_eq_true rfl) dL_law_515 ?_
  rintro _ σ2 ⟨u2, rfl, hp2⟩ hO2 hr2
  have fin : u = u2 ∧ LI σ2 (n + 10000) := by
    obtain ⟨p1, p2, pF⟩ := hp
    obtain ⟨m1, m2, mF⟩ := hp2
    by_cases hc : canLayS A (sc xs (i + 1)) = true
    · obtain ⟨e1, v1⟩ := p1 hc
      obtain ⟨e2, v2⟩ := m1 hc
      exact ⟨by rw [e1, e2], fin_deed hC hM hJ hn v1 pF v2 (mF) (by omega) (hJ.1.push hI (fun q hq => layS_told hq)) (extA.told (fun q hq => layS_told hq))⟩
    · obtain ⟨e1, v1⟩ := p2 (by simpa using hc)
      obtain ⟨e2, v2⟩ := m2 (by simpa using hc)
      exact ⟨by rw [e1, e2], fin_deed hC hM hJ hn v1 pF v2 (mF) (by omega) hJ.1 (extA.rf A)⟩
  exact LG_icmp_eq (tgt := 1547) (hr1 _ rfl) (hr2 _ rfl) dL_law_518 (by decide) (fun _ => hE σ2 hO2 fin.2) (fun hne => absurd fin.1 hne)

theorem lwc_9 {xL : Nat} {xs : Nat → Int32} {i n : Int} {σ : Mem} (hi : 0 ≤ i ∧ i + 6 ≤ xL ∧ xL ≤ 3072) (hO : OKm σ) (h : LI σ n) (hN : n ≤ 600000000) (hE : ∀ σ' : Mem, OKm σ' → LI σ' (n + 10000) → LG xL xs 1547 (LV i) [] σ') : LG xL xs 523 (LV i) [] σ := by
  obtain ⟨A, Ls, IA, IL, tx, X, hC, hM, hJ, hn⟩ := h
  have hI := hC.1.1.2.2.1
  have hcn := hI.1
  refine LG_aload_n 1 rfl rfl dL_law_523 ?_
  refine LG_sc (k := 1) hi (by omega) dL_law_524 dL_law_525 dL_law_526 dL_law_527 dL_law_528 ?_
  refine LG_call (as := [_]) cf_L_55 rfl rfl (sp_X11_coil 3 (Nat.le_refl _) _ hO _ (sc_r _ _) A Ls tx hC.1) (by omega) rfl rfl (Nat.le_of_ble_eq_true rfl) dL_law_529 ?_
  rintro _ σ1 ⟨u, rfl, hp⟩ hO1 hr1
  have a1 : ∀ q : Nat, 74 ≤ q → σ1 q = σ q := fun q hq => hp.2.2 q (by simp; omega)
  have hM1 := hM.other a1
  refine LG_aload_n 2 rfl rfl dL_law_532 ?_
  refine LG_sc (k := 1) hi (by omega) dL_law_533 dL_law_534 dL_law_535 dL_law_536 dL_law_537 ?_
  refine LG_call (as := [_]) cf_L_58 rfl rfl (sp_X12_coil 1 (Nat.le_refl _) _ hO1 _ (sc_r _ _) A Ls tx hM1.1) (by omega) rfl rfl (Nat.le_of_ble_eq_true rfl) dL_law_538 ?_
  rintro _ σ2 ⟨u2, rfl, hp2⟩ hO2 hr2
  have fin : u = u2 ∧ LI σ2 (n + 10000) := by
    obtain ⟨p1, p2, pF⟩ := hp
    obtain ⟨m1, m2, mF⟩ := hp2
    by_cases hc : ((1 ≤ (sc xs (i + 1)) ∧ (sc xs (i + 1)) ≤ 99) ∧ A 0 0 + (sc xs (i + 1)) ≤ 999)
    · obtain ⟨e1, v1⟩ := p1 hc
      obtain ⟨e2, v2⟩ := m1 hc
      exact ⟨by rw [e1, e2], fin_deed hC hM hJ hn v1 pF v2 (mF) (by omega) (hJ.1.push hI (fun q hq => coilS_told hq)) (extA.told (fun q hq => coilS_told hq))⟩
    · obtain ⟨e1, v1⟩ := p2 hc
      obtain ⟨e2, v2⟩ := m2 hc
      exact ⟨by rw [e1, e2], fin_deed hC hM hJ hn v1 pF v2 (mF) (by omega) hJ.1 (extA.rf A)⟩
  exact LG_icmp_eq (tgt := 1547) (hr1 _ rfl) (hr2 _ rfl) dL_law_541 (by decide) (fun _ => hE σ2 hO2 fin.2) (fun hne => absurd fin.1 hne)

theorem lwc_10 {xL : Nat} {xs : Nat → Int32} {i n : Int} {σ : Mem} (hi : 0 ≤ i ∧ i + 6 ≤ xL ∧ xL ≤ 3072) (hO : OKm σ) (h : LI σ n) (hN : n ≤ 600000000) (hE : ∀ σ' : Mem, OKm σ' → LI σ' (n + 10000) → LG xL xs 1547 (LV i) [] σ') : LG xL xs 546 (LV i) [] σ := by
  obtain ⟨A, Ls, IA, IL, tx, X, hC, hM, hJ, hn⟩ := h
  have hI := hC.1.1.2.2.1
  have hcn := hI.1
  refine LG_aload_n 1 rfl rfl dL_law_546 ?_
  refine LG_sc (k := 1) hi (by omega) dL_law_547 dL_law_548 dL_law_549 dL_law_550 dL_law_551 ?_
  refine LG_call (as := [_]) cf_L_59 rfl rfl (sp_X11_day 6 (Nat.le_refl _) _ hO _ (sc_r _ _) A Ls tx hC.1) (by omega) rfl rfl (Nat.le_of_ble_eq_true rfl) dL_law_552 ?_
  rintro _ σ1 ⟨u, rfl, hp⟩ hO1 hr1
  have a1 : ∀ q : Nat, 74 ≤ q → σ1 q = σ q := fun q hq => hp.2.2 q (by simp; omega)
  have hM1 := hM.other a1
  refine LG_aload_n 2 rfl rfl dL_law_555 ?_
  refine LG_sc (k := 1) hi (by omega) dL_law_556 dL_law_557 dL_law_558 dL_law_559 dL_law_560 ?_
  refine LG_call (as := [_]) cf_L_62 rfl rfl (sp_X12_day 10 (Nat.le_refl _) _ hO1 _ (sc_r _ _) A Ls tx ⟨hM1.1, by rw [a1 74 (by omega)]; omega⟩) (by omega) rfl rfl (Nat.le_of_ble_eq_true rfl) dL_law_561 ?_
  rintro _ σ2 ⟨u2, rfl, hp2⟩ hO2 hr2
  have fin : u = u2 ∧ LI σ2 (n + 10000) := by
    obtain ⟨p1, p2, pF⟩ := hp
    obtain ⟨m1, m2, mF⟩ := hp2
    by_cases hc : ((1 ≤ (sc xs (i + 1)) ∧ (sc xs (i + 1)) ≤ 60) ∧ A 0 2 + (sc xs (i + 1)) ≤ 9999)
    · obtain ⟨e1, v1⟩ := p1 hc
      obtain ⟨e2, v2⟩ := m1 hc
      exact ⟨by rw [e1, e2], fin_deed hC hM hJ hn v1 pF v2 (mF) (by omega) ((dayN_J hJ.1 hI ((sc xs (i + 1))).toNat (by omega)).1) (extA.told (fun q hq => dayN_told hq _))⟩
    · obtain ⟨e1, v1⟩ := p2 hc
      obtain ⟨e2, v2⟩ := m2 hc
      exact ⟨by rw [e1, e2], fin_deed hC hM hJ hn v1 pF v2 (mF) (by omega) hJ.1 (extA.rf A)⟩
  exact LG_icmp_eq (tgt := 1547) (hr1 _ rfl) (hr2 _ rfl) dL_law_564 (by decide) (fun _ => hE σ2 hO2 fin.2) (fun hne => absurd fin.1 hne)

theorem lwc_11 {xL : Nat} {xs : Nat → Int32} {i n : Int} {σ : Mem} (hi : 0 ≤ i ∧ i + 6 ≤ xL ∧ xL ≤ 3072) (hO : OKm σ) (h : LI σ n) (hN : n ≤ 600000000) (hE : ∀ σ' : Mem, OKm σ' → LI σ' (n + 10000) → LG xL xs 1547 (LV i) [] σ') : LG xL xs 569 (LV i) [] σ := by
  obtain ⟨A, Ls, IA, IL, tx, X, hC, hM, hJ, hn⟩ := h
  have hI := hC.1.1.2.2.1
  have hcn := hI.1
  refine LG_aload_n 1 rfl rfl dL_law_569 ?_
  refine LG_sc (k := 1) hi (by omega) dL_law_570 dL_law_571 dL_law_572 dL_law_573 dL_law_574 ?_
  refine LG_call (as := [_]) cf_L_63 rfl rfl (sp_X11_played 7 (Nat.le_refl _) _ hO _ (sc_r _ _) A Ls tx hC.1) (by omega) rfl rfl (Nat.le_of_ble_eq_true rfl) dL_law_575 ?_
  rintro _ σ1 ⟨u, rfl, hp⟩ hO1 hr1
  have a1 : ∀ q : Nat, 74 ≤ q → σ1 q = σ q := fun q hq => hp.2.2 q (by simp; omega)
  have hM1 := hM.other a1
  refine LG_aload_n 2 rfl rfl dL_law_578 ?_
  refine LG_sc (k := 1) hi (by omega) dL_law_579 dL_law_580 dL_law_581 dL_law_582 dL_law_583 ?_
  refine LG_call (as := [_]) cf_L_66 rfl rfl (sp_X12_played 11 (Nat.le_refl _) _ hO1 _ (sc_r _ _) A Ls tx ⟨hM1.1, by rw [a1 74 (by omega)]; omega⟩) (by omega) rfl rfl (Nat.le_of_ble_eq_true rfl) dL_law_584 ?_
  rintro _ σ2 ⟨u2, rfl, hp2⟩ hO2 hr2
  have fin : u = u2 ∧ LI σ2 (n + 10000) := by
    obtain ⟨p1, p2, pF⟩ := hp
    obtain ⟨m1, m2, mF⟩ := hp2
    by_cases hc : (0 ≤ (sc xs (i + 1)) ∧ (sc xs (i + 1)) < A 10 2)
    · obtain ⟨e1, v1⟩ := p1 hc
      obtain ⟨e2, v2⟩ := m1 hc
      exact ⟨by rw [e1, e2], fin_deed hC hM hJ hn v1 pF v2 (mF) (by omega) ((playL_J (tx := tx) (tx ((sc xs (i + 1))).toNat).2.2 0 A Ls (fun c hc2 => by obtain ⟨k, hk⟩ := List.getElem?_of_mem hc2; exact ((hC.1.1.2.2.2 ((sc xs (i + 1))).toNat (by omega)).2.2.2.2.2 k c hk).1) hJ.1 hI).1) ((playL_J (tx := tx) (tx ((sc xs (i + 1))).toNat).2.2 0 A Ls (fun c hc2 => by obtain ⟨k, hk⟩ := List.getElem?_of_mem hc2; exact ((hC.1.1.2.2.2 ((sc xs (i + 1))).toNat (by omega)).2.2.2.2.2 k c hk).1) hJ.1 hI).2.2)⟩
    · obtain ⟨e1, v1⟩ := p2 hc
      obtain ⟨e2, v2⟩ := m2 hc
      exact ⟨by rw [e1, e2], fin_deed hC hM hJ hn v1 pF v2 (mF) (by omega) hJ.1 (extA.rf A)⟩
  exact LG_icmp_eq (tgt := 1547) (hr1 _ rfl) (hr2 _ rfl) dL_law_587 (by decide) (fun _ => hE σ2 hO2 fin.2) (fun hne => absurd fin.1 hne)

theorem lwc_12 {xL : Nat} {xs : Nat → Int32} {i n : Int} {σ : Mem} (hi : 0 ≤ i ∧ i + 6 ≤ xL ∧ xL ≤ 3072) (hO : OKm σ) (h : LI σ n) (hN : n ≤ 600000000) (hE : ∀ σ' : Mem, OKm σ' → LI σ' (n + 10000) → LG xL xs 1547 (LV i) [] σ') : LG xL xs 592 (LV i) [] σ := by
  obtain ⟨A, Ls, IA, IL, tx, X, hC, hM, hJ, hn⟩ := h
  have hI := hC.1.1.2.2.1
  have hcn := hI.1
  refine LG_aload_n 1 rfl rfl dL_law_592 ?_
  refine LG_sc (k := 1) hi (by omega) dL_law_593 dL_law_594 dL_law_595 dL_law_596 dL_law_597 ?_
  refine LG_sc (k := 2) hi (by omega) dL_law_598 dL_law_599 dL_law_600 dL_law_601 dL_law_602 ?_
  refine LG_call (as := [_, _]) cf_L_67 rfl rfl (sp_X11_years 7 (Nat.le_refl _) _ hO _ (sc_r _ _) _ (sc_r _ _) A Ls tx hC.1) (by omega) rfl rfl (Nat.le_of_ble_eq_true rfl) dL_law_603 ?_
  rintro _ σ1 ⟨u, rfl, hp⟩ hO1 hr1
  have a1 : ∀ q : Nat, 74 ≤ q → σ1 q = σ q := fun q hq => hp.2.2 q (by simp; omega)
  have hM1 := hM.other a1
  refine LG_aload_n 2 rfl rfl dL_law_606 ?_
  refine LG_sc (k := 1) hi (by omega) dL_law_607 dL_law_608 dL_law_609 dL_law_610 dL_law_611 ?_
  refine LG_sc (k := 2) hi (by omega) dL_law_612 dL_law_613 dL_law_614 dL_law_615 dL_law_616 ?_
  refine LG_call (as := [_, _]) cf_L_70 rfl rfl (sp_X12_years 10 (Nat.le_refl _) _ hO1 _ (sc_r _ _) _ (sc_r _ _) A Ls tx ⟨hM1.1, by rw [a1 74 (by omega)]; omega⟩) (by omega) rfl rfl (Nat.le_of_ble_eq_true rfl) dL_law_617 ?_
  rintro _ σ2 ⟨u2, rfl, hp2⟩ hO2 hr2
  have fin : u = u2 ∧ LI σ2 (n + 10000) := by
    obtain ⟨p1, p2, pF⟩ := hp
    obtain ⟨m1, m2, mF⟩ := hp2
    by_cases hc : yearsOK (sc xs (i + 1)) (sc xs (i + 2))
    · obtain ⟨e1, v1⟩ := p1 hc
      obtain ⟨e2, v2⟩ := m1 hc
      exact ⟨by rw [e1, e2], fin_deed hC hM hJ hn v1 pF v2 (mF) (by omega) (hJ.1.push hI (fun q hq => by rw [deedN_told hq]; unfold sowS; exact mset_ne (by omega))) (extA.told (fun q hq => by rw [deedN_told hq]; unfold sowS; exact mset_ne (by omega)))⟩
    · obtain ⟨e1, v1⟩ := p2 hc
      obtain ⟨e2, v2⟩ := m2 hc
      exact ⟨by rw [e1, e2], fin_deed hC hM hJ hn v1 pF v2 (mF) (by omega) hJ.1 (extA.rf A)⟩
  exact LG_icmp_eq (tgt := 1547) (hr1 _ rfl) (hr2 _ rfl) dL_law_620 (by decide) (fun _ => hE σ2 hO2 fin.2) (fun hne => absurd fin.1 hne)

theorem lwc_13 {xL : Nat} {xs : Nat → Int32} {i n : Int} {σ : Mem} (hi : 0 ≤ i ∧ i + 6 ≤ xL ∧ xL ≤ 3072) (hO : OKm σ) (h : LI σ n) (hN : n ≤ 600000000) (hE : ∀ σ' : Mem, OKm σ' → LI σ' (n + 10000) → LG xL xs 1547 (LV i) [] σ') : LG xL xs 625 (LV i) [] σ := by
  obtain ⟨A, Ls, IA, IL, tx, X, hC, hM, hJ, hn⟩ := h
  have hI := hC.1.1.2.2.1
  have hcn := hI.1
  refine LG_aload_n 1 rfl rfl dL_law_625 ?_
  refine LG_call (as := []) cf_L_71 rfl rfl (sp_X11_undo 2 (Nat.le_refl _) _ hO  A Ls tx ⟨hC.1, hJ.1⟩) (by omega) rfl rfl (Nat.le_of_ble_eq_true rfl) dL_law_626 ?_
  rintro _ σ1 ⟨u, rfl, hp⟩ hO1 hr1
  have a1 : ∀ q : Nat, 74 ≤ q → σ1 q = σ q := fun q hq => hp.fr q (by simp; omega)
  have hM1 := hM.other a1
  refine LG_aload_n 2 rfl rfl dL_law_629 ?_
  refine LG_call (as := []) cf_L_74 rfl rfl (sp_X12_undo2 1 (Nat.le_refl _) _ hO1  A Ls ⟨hM1.1.1.1, by omega, hM1.1.2.1⟩) (by omega) rfl rfl (Nat.le_of_ble_eq_true rfl) dL_law_630 ?_
  rintro _ σ2 ⟨u2, rfl, hp2⟩ hO2 hr2
  have fin : u = u2 ∧ LI σ2 (n + 10000) := by
    cases Ls with
    | nil =>
      obtain ⟨e1, v1, f1⟩ := hp
      obtain ⟨e2, eq⟩ := hp2
      exact ⟨by rw [e1, e2], fin_deed hC hM hJ hn v1 f1 (by rw [eq]; exact hM1.1) (stM.of75 (by rw [eq]; exact Fr.rf _ _)) (by omega) hJ.1 (extA.rf A)⟩
    | cons B L2 =>
      obtain ⟨e1, v1, f1⟩ := hp
      obtain ⟨e2, s2, n2, t2, f2⟩ := hp2
      exact ⟨by rw [e1, e2], fin_deed hC hM hJ hn v1 f1 (undoM_ok hM1.1 hJ.1.1 ⟨s2, n2, t2, f2⟩) (stM.of75 f2) (by omega) (hJ.1.undo hI) (extA.told (fun q hq => undoS_told hq))⟩
  exact LG_icmp_eq (tgt := 1547) (hr1 _ rfl) (hr2 _ rfl) dL_law_633 (by decide) (fun _ => hE σ2 hO2 fin.2) (fun hne => absurd fin.1 hne)

theorem lwc_14 {xL : Nat} {xs : Nat → Int32} {i n : Int} {σ : Mem} (hi : 0 ≤ i ∧ i + 6 ≤ xL ∧ xL ≤ 3072) (hO : OKm σ) (h : LI σ n) (hN : n ≤ 600000000) (hE : ∀ σ' : Mem, OKm σ' → LI σ' (n + 10000) → LG xL xs 1547 (LV i) [] σ') : LG xL xs 638 (LV i) [] σ := by
  obtain ⟨A, Ls, IA, IL, tx, X, hC, hM, hJ, hn⟩ := h
  have hI := hC.1.1.2.2.1
  have hcn := hI.1
  refine LG_aload_n 1 rfl rfl dL_law_638 ?_
  refine LG_sc (k := 1) hi (by omega) dL_law_639 dL_law_640 dL_law_641 dL_law_642 dL_law_643 ?_
  refine LG_sc (k := 2) hi (by omega) dL_law_644 dL_law_645 dL_law_646 dL_law_647 dL_law_648 ?_
  refine LG_call (as := [_, _]) cf_L_75 rfl rfl (sp_X11_of 4 (Nat.le_refl _) _ hO _ (sc_r _ _) _ (sc_r _ _) A tx hC.1.1) (by omega) rfl rfl (Nat.le_of_ble_eq_true rfl) dL_law_649 ?_
  rintro _ σ1 ⟨u, rfl, hp⟩ hO1 hr1
  have a1 : ∀ q : Nat, 74 ≤ q → σ1 q = σ q := fun q hq => hp.2 q (by simp; omega)
  have hM1 := hM.other a1
  refine LG_aload_n 2 rfl rfl dL_law_652 ?_
  refine LG_sc (k := 1) hi (by omega) dL_law_653 dL_law_654 dL_law_655 dL_law_656 dL_law_657 ?_
  refine LG_sc (k := 2) hi (by omega) dL_law_658 dL_law_659 dL_law_660 dL_law_661 dL_law_662 ?_
  refine LG_call (as := [_, _]) cf_L_78 rfl rfl (sp_X12_of 5 (Nat.le_refl _) _ hO1 _ (sc_r _ _) _ (sc_r _ _) A tx hM1.1.1) (by omega) rfl rfl (Nat.le_of_ble_eq_true rfl) dL_law_663 ?_
  rintro _ σ2 ⟨u2, rfl, hp2⟩ hO2 hr2
  have fin : u = u2 ∧ LI σ2 (n + 10000) := by
    obtain ⟨e1, f1⟩ := hp
    obtain ⟨e2, v2, f2⟩ := hp2
    exact ⟨by rw [e1, e2], fin_ask hC hM hJ hn f1 v2 (fun q hq => f2 q (by simp; omega))⟩
  exact LG_icmp_eq (tgt := 1547) (hr1 _ rfl) (hr2 _ rfl) dL_law_666 (by decide) (fun _ => hE σ2 hO2 fin.2) (fun hne => absurd fin.1 hne)

theorem lwc_15 {xL : Nat} {xs : Nat → Int32} {i n : Int} {σ : Mem} (hi : 0 ≤ i ∧ i + 6 ≤ xL ∧ xL ≤ 3072) (hO : OKm σ) (h : LI σ n) (hN : n ≤ 600000000) (hE : ∀ σ' : Mem, OKm σ' → LI σ' (n + 10000) → LG xL xs 1547 (LV i) [] σ') : LG xL xs 671 (LV i) [] σ := by
  obtain ⟨A, Ls, IA, IL, tx, X, hC, hM, hJ, hn⟩ := h
  have hI := hC.1.1.2.2.1
  have hcn := hI.1
  refine LG_aload_n 1 rfl rfl dL_law_671 ?_
  refine LG_sc (k := 1) hi (by omega) dL_law_672 dL_law_673 dL_law_674 dL_law_675 dL_law_676 ?_
  refine LG_sc (k := 2) hi (by omega) dL_law_677 dL_law_678 dL_law_679 dL_law_680 dL_law_681 ?_
  refine LG_call (as := [_, _]) cf_L_79 rfl rfl (sp_X11_ofGoer 5 (Nat.le_refl _) _ hO _ (sc_r _ _) _ (sc_r _ _) A tx hC.1.1) (by omega) rfl rfl (Nat.le_of_ble_eq_true rfl) dL_law_682 ?_
  rintro _ σ1 ⟨u, rfl, hp⟩ hO1 hr1
  have a1 : ∀ q : Nat, 74 ≤ q → σ1 q = σ q := fun q hq => hp.2 q (by simp; omega)
  have hM1 := hM.other a1
  refine LG_aload_n 2 rfl rfl dL_law_685 ?_
  refine LG_sc (k := 1) hi (by omega) dL_law_686 dL_law_687 dL_law_688 dL_law_689 dL_law_690 ?_
  refine LG_sc (k := 2) hi (by omega) dL_law_691 dL_law_692 dL_law_693 dL_law_694 dL_law_695 ?_
  refine LG_call (as := [_, _]) cf_L_82 rfl rfl (sp_X12_ofGoer 8 (Nat.le_refl _) _ hO1 _ (sc_r _ _) _ (sc_r _ _) A tx hM1.1.1) (by omega) rfl rfl (Nat.le_of_ble_eq_true rfl) dL_law_696 ?_
  rintro _ σ2 ⟨u2, rfl, hp2⟩ hO2 hr2
  have fin : u = u2 ∧ LI σ2 (n + 10000) := by
    obtain ⟨e1, f1⟩ := hp
    obtain ⟨e2, v2, f2⟩ := hp2
    exact ⟨by rw [e1, e2], fin_ask hC hM hJ hn f1 v2 (fun q hq => f2 q (by simp; omega))⟩
  exact LG_icmp_eq (tgt := 1547) (hr1 _ rfl) (hr2 _ rfl) dL_law_699 (by decide) (fun _ => hE σ2 hO2 fin.2) (fun hne => absurd fin.1 hne)

theorem lwc_16 {xL : Nat} {xs : Nat → Int32} {i n : Int} {σ : Mem} (hi : 0 ≤ i ∧ i + 6 ≤ xL ∧ xL ≤ 3072) (hO : OKm σ) (h : LI σ n) (hN : n ≤ 600000000) (hE : ∀ σ' : Mem, OKm σ' → LI σ' (n + 10000) → LG xL xs 1547 (LV i) [] σ') : LG xL xs 704 (LV i) [] σ := by
  obtain ⟨A, Ls, IA, IL, tx, X, hC, hM, hJ, hn⟩ := h
  have hI := hC.1.1.2.2.1
  have hcn := hI.1
  refine LG_aload_n 1 rfl rfl dL_law_704 ?_
  refine LG_sc (k := 1) hi (by omega) dL_law_705 dL_law_706 dL_law_707 dL_law_708 dL_law_709 ?_
  refine LG_sc (k := 2) hi (by omega) dL_law_710 dL_law_711 dL_law_712 dL_law_713 dL_law_714 ?_
  refine LG_call (as := [_, _]) cf_L_83 rfl rfl (sp_X11_sucks 4 (Nat.le_refl _) _ hO _ (sc_r _ _) _ (sc_r _ _) A tx hC.1.1) (by omega) rfl rfl (Nat.le_of_ble_eq_true rfl) dL_law_715 ?_
  rintro _ σ1 ⟨u, rfl, hp⟩ hO1 hr1
  have a1 : ∀ q : Nat, 74 ≤ q → σ1 q = σ q := fun q hq => hp.2 q (by simp; omega)
  have hM1 := hM.other a1
  refine LG_aload_n 2 rfl rfl dL_law_718 ?_
  refine LG_sc (k := 1) hi (by omega) dL_law_719 dL_law_720 dL_law_721 dL_law_722 dL_law_723 ?_
  refine LG_sc (k := 2) hi (by omega) dL_law_724 dL_law_725 dL_law_726 dL_law_727 dL_law_728 ?_
  refine LG_call (as := [_, _]) cf_L_86 rfl rfl (sp_X12_sucks 5 (Nat.le_refl _) _ hO1 _ (sc_r _ _) _ (sc_r _ _) A tx hM1.1.1) (by omega) rfl rfl (Nat.le_of_ble_eq_true rfl) dL_law_729 ?_
  rintro _ σ2 ⟨u2, rfl, hp2⟩ hO2 hr2
  have fin : u = u2 ∧ LI σ2 (n + 10000) := by
    obtain ⟨e1, f1⟩ := hp
    obtain ⟨e2, v2, f2⟩ := hp2
    exact ⟨by rw [e1, e2], fin_ask hC hM hJ hn f1 v2 (fun q hq => f2 q (by simp; omega))⟩
  exact LG_icmp_eq (tgt := 1547) (hr1 _ rfl) (hr2 _ rfl) dL_law_732 (by decide) (fun _ => hE σ2 hO2 fin.2) (fun hne => absurd fin.1 hne)

theorem lwc_17 {xL : Nat} {xs : Nat → Int32} {i n : Int} {σ : Mem} (hi : 0 ≤ i ∧ i + 6 ≤ xL ∧ xL ≤ 3072) (hO : OKm σ) (h : LI σ n) (hN : n ≤ 600000000) (hE : ∀ σ' : Mem, OKm σ' → LI σ' (n + 10000) → LG xL xs 1547 (LV i) [] σ') : LG xL xs 737 (LV i) [] σ := by
  obtain ⟨A, Ls, IA, IL, tx, X, hC, hM, hJ, hn⟩ := h
  have hI := hC.1.1.2.2.1
  have hcn := hI.1
  refine LG_aload_n 1 rfl rfl dL_law_737 ?_
  refine LG_sc (k := 1) hi (by omega) dL_law_738 dL_law_739 dL_law_740 dL_law_741 dL_law_742 ?_
  refine LG_call (as := [_]) cf_L_87 rfl rfl (sp_X11_is 0 (Nat.le_refl _) _ hO _ (sc_r _ _) A tx hC.1.1) (by omega) rfl rfl (Nat.le_of_ble_eq_true rfl) dL_law_743 ?_
  rintro _ σ1 ⟨u, rfl, hp⟩ hO1 hr1
  have a1 : ∀ q : Nat, 74 ≤ q → σ1 q = σ q := fun q hq => hp.2 q (by simp; omega)
  have hM1 := hM.other a1
  refine LG_aload_n 2 rfl rfl dL_law_746 ?_
  refine LG_sc (k := 1) hi (by omega) dL_law_747 dL_law_748 dL_law_749 dL_law_750 dL_law_751 ?_
  refine LG_call (as := [_]) cf_L_90 rfl rfl (sp_X12_is 1 (Nat.le_refl _) _ hO1 _ (sc_r _ _) A tx hM1.1.1) (by omega) rfl rfl (Nat.le_of_ble_eq_true rfl) dL_law_752 ?_
  rintro _ σ2 ⟨u2, rfl, hp2⟩ hO2 hr2
  have fin : u = u2 ∧ LI σ2 (n + 10000) := by
    obtain ⟨e1, f1⟩ := hp
    obtain ⟨e2, v2, f2⟩ := hp2
    exact ⟨by rw [e1, e2], fin_ask hC hM hJ hn f1 v2 (fun q hq => f2 q (by simp; omega))⟩
  exact LG_icmp_eq (tgt := 1547) (hr1 _ rfl) (hr2 _ rfl) dL_law_755 (by decide) (fun _ => hE σ2 hO2 fin.2) (fun hne => absurd fin.1 hne)

theorem lwc_18 {xL : Nat} {xs : Nat → Int32} {i n : Int} {σ : Mem} (hi : 0 ≤ i ∧ i + 6 ≤ xL ∧ xL ≤ 3072) (hO : OKm σ) (h : LI σ n) (hN : n ≤ 600000000) (hE : ∀ σ' : Mem, OKm σ' → LI σ' (n + 10000) → LG xL xs 1547 (LV i) [] σ') : LG xL xs 760 (LV i) [] σ := by
  obtain ⟨A, Ls, IA, IL, tx, X, hC, hM, hJ, hn⟩ := h
  have hI := hC.1.1.2.2.1
  have hcn := hI.1
  refine LG_aload_n 1 rfl rfl dL_law_760 ?_
  refine LG_sc (k := 1) hi (by omega) dL_law_761 dL_law_762 dL_law_763 dL_law_764 dL_law_765 ?_
  refine LG_sc (k := 2) hi (by omega) dL_law_766 dL_law_767 dL_law_768 dL_law_769 dL_law_770 ?_
  refine LG_call (as := [_, _]) cf_L_91 rfl rfl (sp_X11_book 1 (Nat.le_refl _) _ hO _ (sc_r _ _) _ (sc_r _ _) A tx hC.1.1) (by omega) rfl rfl (Nat.le_of_ble_eq_true rfl) dL_law_771 ?_
  rintro _ σ1 ⟨u, rfl, hp⟩ hO1 hr1
  have a1 : ∀ q : Nat, 74 ≤ q → σ1 q = σ q := fun q hq => hp.2 q (by simp; omega)
  have hM1 := hM.other a1
  refine LG_aload_n 2 rfl rfl dL_law_774 ?_
  refine LG_sc (k := 1) hi (by omega) dL_law_775 dL_law_776 dL_law_777 dL_law_778 dL_law_779 ?_
  refine LG_sc (k := 2) hi (by omega) dL_law_780 dL_law_781 dL_law_782 dL_law_783 dL_law_784 ?_
  refine LG_call (as := [_, _]) cf_L_94 rfl rfl (sp_X12_book 1 (Nat.le_refl _) _ hO1 _ (sc_r _ _) _ (sc_r _ _) A tx hM1.1.1) (by omega) rfl rfl (Nat.le_of_ble_eq_true rfl) dL_law_785 ?_
  rintro _ σ2 ⟨u2, rfl, hp2⟩ hO2 hr2
  have fin : u = u2 ∧ LI σ2 (n + 10000) := by
    obtain ⟨e1, f1⟩ := hp
    obtain ⟨e2, v2, f2⟩ := hp2
    exact ⟨by rw [e1, e2], fin_ask hC hM hJ hn f1 v2 (fun q hq => f2 q (by simp; omega))⟩
  exact LG_icmp_eq (tgt := 1547) (hr1 _ rfl) (hr2 _ rfl) dL_law_788 (by decide) (fun _ => hE σ2 hO2 fin.2) (fun hne => absurd fin.1 hne)

theorem lwc_19 {xL : Nat} {xs : Nat → Int32} {i n : Int} {σ : Mem} (hi : 0 ≤ i ∧ i + 6 ≤ xL ∧ xL ≤ 3072) (hO : OKm σ) (h : LI σ n) (hN : n ≤ 600000000) (hE : ∀ σ' : Mem, OKm σ' → LI σ' (n + 10000) → LG xL xs 1547 (LV i) [] σ') : LG xL xs 793 (LV i) [] σ := by
  obtain ⟨A, Ls, IA, IL, tx, X, hC, hM, hJ, hn⟩ := h
  have hI := hC.1.1.2.2.1
  have hcn := hI.1
  refine LG_aload_n 1 rfl rfl dL_law_793 ?_
  refine LG_sc (k := 1) hi (by omega) dL_law_794 dL_law_795 dL_law_796 dL_law_797 dL_law_798 ?_
  refine LG_sc (k := 2) hi (by omega) dL_law_799 dL_law_800 dL_law_801 dL_law_802 dL_law_803 ?_
  refine LG_sc (k := 3) hi (by omega) dL_law_804 dL_law_805 dL_law_806 dL_law_807 dL_law_808 ?_
  refine LG_call (as := [_, _, _]) cf_L_95 rfl rfl (sp_X11_foretold 7 (Nat.le_refl _) _ hO _ (sc_r _ _) _ (sc_r _ _) _ (sc_r _ _) A tx hC.1.1) (by omega) rfl rfl (Nat.le_of_ble_eq_true rfl) dL_law_809 ?_
  rintro _ σ1 ⟨u, rfl, hp⟩ hO1 hr1
  have a1 : ∀ q : Nat, 74 ≤ q → σ1 q = σ q := fun q hq => hp.2.2.2 q (by simp; omega)
  have hM1 := hM.other a1
  refine LG_aload_n 2 rfl rfl dL_law_812 ?_
  refine LG_sc (k := 1) hi (by omega) dL_law_813 dL_law_814 dL_law_815 dL_law_816 dL_law_817 ?_
  refine LG_sc (k := 2) hi (by omega) dL_law_818 dL_law_819 dL_law_820 dL_law_821 dL_law_822 ?_
  refine LG_sc (k := 3) hi (by omega) dL_law_823 dL_law_824 dL_law_825 dL_law_826 dL_law_827 ?_
  refine LG_call (as := [_, _, _]) cf_L_99 rfl rfl (sp_X12_foretold 9 (Nat.le_refl _) _ hO1 _ (sc_r _ _) _ (sc_r _ _) _ (sc_r _ _) A Ls tx ⟨hM1.1, by rw [a1 74 (by omega)]; omega⟩) (by omega) rfl rfl (Nat.le_of_ble_eq_true rfl) dL_law_828 ?_
  rintro _ σ2 ⟨u2, rfl, hp2⟩ hO2 hr2
  have fin : u = u2 ∧ LI σ2 (n + 10000) := by
    obtain ⟨p1, p2, v1, f1⟩ := hp
    obtain ⟨m1, m2, v2, j2, f2, k2⟩ := hp2
    refine ⟨?_, fin_fore hC hM hJ hn (hC.vw v1 (fun q hq => f1 q (by simp; omega)) (by unfold netC; rw [f1 40 (by simp)]; exact hC.2.2.2)) a1 v2 j2 f2 k2⟩
    by_cases hc : foreOK A (sc xs (i + 1)) (sc xs (i + 2)) (sc xs (i + 3))
    · rw [p1 hc, m1 hc]
    · rw [p2 hc, m2 hc]
  exact LG_icmp_eq (tgt := 1547) (hr1 _ rfl) (hr2 _ rfl) dL_law_831 (by decide) (fun _ => hE σ2 hO2 fin.2) (fun hne => absurd fin.1 hne)

theorem lwc_20 {xL : Nat} {xs : Nat → Int32} {i n : Int} {σ : Mem} (hi : 0 ≤ i ∧ i + 6 ≤ xL ∧ xL ≤ 3072) (hO : OKm σ) (h : LI σ n) (hN : n ≤ 600000000) (hE : ∀ σ' : Mem, OKm σ' → LI σ' (n + 10000) → LG xL xs 1547 (LV i) [] σ') : LG xL xs 836 (LV i) [] σ := by
  obtain ⟨A, Ls, IA, IL, tx, X, hC, hM, hJ, hn⟩ := h
  have hI := hC.1.1.2.2.1
  have hcn := hI.1
  refine LG_aload_n 1 rfl rfl dL_law_836 ?_
  refine LG_sc (k := 1) hi (by omega) dL_law_837 dL_law_838 dL_law_839 dL_law_840 dL_law_841 ?_
  refine LG_sc (k := 2) hi (by omega) dL_law_842 dL_law_843 dL_law_844 dL_law_845 dL_law_846 ?_
  refine LG_sc (k := 3) hi (by omega) dL_law_847 dL_law_848 dL_law_849 dL_law_850 dL_law_851 ?_
  refine LG_call (as := [_, _, _]) cf_L_100 rfl rfl (sp_X11_miles 3 (Nat.le_refl _) _ hO _ (sc_r _ _) _ (sc_r _ _) _ (sc_r _ _) A tx hC.1.1) (by omega) rfl rfl (Nat.le_of_ble_eq_true rfl) dL_law_852 ?_
  rintro _ σ1 ⟨u, rfl, hp⟩ hO1 hr1
  have a1 : ∀ q : Nat, 74 ≤ q → σ1 q = σ q := fun q hq => hp.2 q (by simp; omega)
  have hM1 := hM.other a1
  refine LG_aload_n 2 rfl rfl dL_law_855 ?_
  refine LG_sc (k := 1) hi (by omega) dL_law_856 dL_law_857 dL_law_858 dL_law_859 dL_law_860 ?_
  refine LG_sc (k := 2) hi (by omega) dL_law_861 dL_law_862 dL_law_863 dL_law_864 dL_law_865 ?_
  refine LG_sc (k := 3) hi (by omega) dL_law_866 dL_law_867 dL_law_868 dL_law_869 dL_law_870 ?_
  refine LG_call (as := [_, _, _]) cf_L_103 rfl rfl (sp_X12_miles 3 (Nat.le_refl _) _ hO1 _ (sc_r _ _) _ (sc_r _ _) _ (sc_r _ _) A tx hM1.1.1) (by omega) rfl rfl (Nat.le_of_ble_eq_true rfl) dL_law_871 ?_
  rintro _ σ2 ⟨u2, rfl, hp2⟩ hO2 hr2
  have fin : u = u2 ∧ LI σ2 (n + 10000) := by
    obtain ⟨e1, f1⟩ := hp
    obtain ⟨e2, v2, f2⟩ := hp2
    exact ⟨by rw [e1, e2], fin_ask hC hM hJ hn f1 v2 (fun q hq => f2 q (by simp; omega))⟩
  exact LG_icmp_eq (tgt := 1547) (hr1 _ rfl) (hr2 _ rfl) dL_law_874 (by decide) (fun _ => hE σ2 hO2 fin.2) (fun hne => absurd fin.1 hne)

theorem lwc_21 {xL : Nat} {xs : Nat → Int32} {i n : Int} {σ : Mem} (hi : 0 ≤ i ∧ i + 6 ≤ xL ∧ xL ≤ 3072) (hO : OKm σ) (h : LI σ n) (hN : n ≤ 600000000) (hE : ∀ σ' : Mem, OKm σ' → LI σ' (n + 10000) → LG xL xs 1547 (LV i) [] σ') : LG xL xs 879 (LV i) [] σ := by
  obtain ⟨A, Ls, IA, IL, tx, X, hC, hM, hJ, hn⟩ := h
  have hI := hC.1.1.2.2.1
  have hcn := hI.1
  refine LG_aload_n 1 rfl rfl dL_law_879 ?_
  refine LG_sc (k := 1) hi (by omega) dL_law_880 dL_law_881 dL_law_882 dL_law_883 dL_law_884 ?_
  refine LG_sc (k := 2) hi (by omega) dL_law_885 dL_law_886 dL_law_887 dL_law_888 dL_law_889 ?_
  refine LG_sc (k := 3) hi (by omega) dL_law_890 dL_law_891 dL_law_892 dL_law_893 dL_law_894 ?_
  refine LG_sc (k := 4) hi (by omega) dL_law_895 dL_law_896 dL_law_897 dL_law_898 dL_law_899 ?_
  refine LG_call (as := [_, _, _, _]) cf_L_104 rfl rfl (sp_X11_way 3 (Nat.le_refl _) _ hO _ (sc_r _ _) _ (sc_r _ _) _ (sc_r _ _) _ (sc_r _ _) A tx hC.1.1) (by omega) rfl rfl (Nat.le_of_ble_eq_true rfl) dL_law_900 ?_
  rintro _ σ1 ⟨u, rfl, hp⟩ hO1 hr1
  have a1 : ∀ q : Nat, 74 ≤ q → σ1 q = σ q := fun q hq => hp.2 q (by simp; omega)
  have hM1 := hM.other a1
  refine LG_aload_n 2 rfl rfl dL_law_903 ?_
  refine LG_sc (k := 1) hi (by omega) dL_law_904 dL_law_905 dL_law_906 dL_law_907 dL_law_908 ?_
  refine LG_sc (k := 2) hi (by omega) dL_law_909 dL_law_910 dL_law_911 dL_law_912 dL_law_913 ?_
  refine LG_sc (k := 3) hi (by omega) dL_law_914 dL_law_915 dL_law_916 dL_law_917 dL_law_918 ?_
  refine LG_sc (k := 4) hi (by omega) dL_law_919 dL_law_920 dL_law_921 dL_law_922 dL_law_923 ?_
  refine LG_call (as := [_, _, _, _]) cf_L_107 rfl rfl (sp_X12_way 4 (Nat.le_refl _) _ hO1 _ (sc_r _ _) _ (sc_r _ _) _ (sc_r _ _) _ (sc_r _ _) A tx hM1.1.1) (by omega) rfl rfl (Nat.le_of_ble_eq_true rfl) dL_law_924 ?_
  rintro _ σ2 ⟨u2, rfl, hp2⟩ hO2 hr2
  have fin : u = u2 ∧ LI σ2 (n + 10000) := by
    obtain ⟨e1, f1⟩ := hp
    obtain ⟨e2, v2, f2⟩ := hp2
    exact ⟨by rw [e1, e2], fin_ask hC hM hJ hn f1 v2 (fun q hq => f2 q (by simp; omega))⟩
  exact LG_icmp_eq (tgt := 1547) (hr1 _ rfl) (hr2 _ rfl) dL_law_927 (by decide) (fun _ => hE σ2 hO2 fin.2) (fun hne => absurd fin.1 hne)

theorem lwc_22 {xL : Nat} {xs : Nat → Int32} {i n : Int} {σ : Mem} (hi : 0 ≤ i ∧ i + 6 ≤ xL ∧ xL ≤ 3072) (hO : OKm σ) (h : LI σ n) (hN : n ≤ 600000000) (hE : ∀ σ' : Mem, OKm σ' → LI σ' (n + 10000) → LG xL xs 1547 (LV i) [] σ') : LG xL xs 932 (LV i) [] σ := by
  obtain ⟨A, Ls, IA, IL, tx, X, hC, hM, hJ, hn⟩ := h
  have hI := hC.1.1.2.2.1
  have hcn := hI.1
  refine LG_aload_n 1 rfl rfl dL_law_932 ?_
  refine LG_sc (k := 1) hi (by omega) dL_law_933 dL_law_934 dL_law_935 dL_law_936 dL_law_937 ?_
  refine LG_sc (k := 2) hi (by omega) dL_law_938 dL_law_939 dL_law_940 dL_law_941 dL_law_942 ?_
  refine LG_call (as := [_, _]) cf_L_108 rfl rfl (sp_X11_widest 3 (Nat.le_refl _) _ hO _ (sc_r _ _) _ (sc_r _ _) A tx hC.1.1) (by omega) rfl rfl (Nat.le_of_ble_eq_true rfl) dL_law_943 ?_
  rintro _ σ1 ⟨u, rfl, hp⟩ hO1 hr1
  have a1 : ∀ q : Nat, 74 ≤ q → σ1 q = σ q := fun q hq => hp.2 q (by simp; omega)
  have hM1 := hM.other a1
  refine LG_aload_n 2 rfl rfl dL_law_946 ?_
  refine LG_sc (k := 1) hi (by omega) dL_law_947 dL_law_948 dL_law_949 dL_law_950 dL_law_951 ?_
  refine LG_sc (k := 2) hi (by omega) dL_law_952 dL_law_953 dL_law_954 dL_law_955 dL_law_956 ?_
  refine LG_call (as := [_, _]) cf_L_111 rfl rfl (sp_X12_widest 3 (Nat.le_refl _) _ hO1 _ (sc_r _ _) _ (sc_r _ _) A tx hM1.1.1) (by omega) rfl rfl (Nat.le_of_ble_eq_true rfl) dL_law_957 ?_
  rintro _ σ2 ⟨u2, rfl, hp2⟩ hO2 hr2
  have fin : u = u2 ∧ LI σ2 (n + 10000) := by
    obtain ⟨e1, f1⟩ := hp
    obtain ⟨e2, v2, f2⟩ := hp2
    exact ⟨by rw [e1, e2], fin_ask hC hM hJ hn f1 v2 (fun q hq => f2 q (by simp; omega))⟩
  exact LG_icmp_eq (tgt := 1547) (hr1 _ rfl) (hr2 _ rfl) dL_law_960 (by decide) (fun _ => hE σ2 hO2 fin.2) (fun hne => absurd fin.1 hne)

theorem lwc_23 {xL : Nat} {xs : Nat → Int32} {i n : Int} {σ : Mem} (hi : 0 ≤ i ∧ i + 6 ≤ xL ∧ xL ≤ 3072) (hO : OKm σ) (h : LI σ n) (hN : n ≤ 600000000) (hE : ∀ σ' : Mem, OKm σ' → LI σ' (n + 10000) → LG xL xs 1547 (LV i) [] σ') : LG xL xs 965 (LV i) [] σ := by
  obtain ⟨A, Ls, IA, IL, tx, X, hC, hM, hJ, hn⟩ := h
  have hI := hC.1.1.2.2.1
  have hcn := hI.1
  refine LG_aload_n 1 rfl rfl dL_law_965 ?_
  refine LG_sc (k := 1) hi (by omega) dL_law_966 dL_law_967 dL_law_968 dL_law_969 dL_law_970 ?_
  refine LG_sc (k := 2) hi (by omega) dL_law_971 dL_law_972 dL_law_973 dL_law_974 dL_law_975 ?_
  refine LG_call (as := [_, _]) cf_L_112 rfl rfl (sp_X11_flow 3 (Nat.le_refl _) _ hO _ (sc_r _ _) _ (sc_r _ _) A tx hC.1.1) (by omega) rfl rfl (Nat.le_of_ble_eq_true rfl) dL_law_976 ?_
  rintro _ σ1 ⟨u, rfl, hp⟩ hO1 hr1
  have a1 : ∀ q : Nat, 74 ≤ q → σ1 q = σ q := fun q hq => hp.2 q (by simp; omega)
  have hM1 := hM.other a1
  refine LG_aload_n 2 rfl rfl dL_law_979 ?_
  refine LG_sc (k := 1) hi (by omega) dL_law_980 dL_law_981 dL_law_982 dL_law_983 dL_law_984 ?_
  refine LG_sc (k := 2) hi (by omega) dL_law_985 dL_law_986 dL_law_987 dL_law_988 dL_law_989 ?_
  refine LG_call (as := [_, _]) cf_L_115 rfl rfl (sp_X12_flow 4 (Nat.le_refl _) _ hO1 _ (sc_r _ _) _ (sc_r _ _) A tx hM1.1.1) (by omega) rfl rfl (Nat.le_of_ble_eq_true rfl) dL_law_990 ?_
  rintro _ σ2 ⟨u2, rfl, hp2⟩ hO2 hr2
  have fin : u = u2 ∧ LI σ2 (n + 10000) := by
    obtain ⟨e1, f1⟩ := hp
    obtain ⟨e2, eq⟩ := hp2
    exact ⟨by rw [e1, e2], fin_ask hC hM hJ hn f1 (by rw [eq]; exact hM1.1.1) (fun q _ => by rw [eq])⟩
  exact LG_icmp_eq (tgt := 1547) (hr1 _ rfl) (hr2 _ rfl) dL_law_993 (by decide) (fun _ => hE σ2 hO2 fin.2) (fun hne => absurd fin.1 hne)
