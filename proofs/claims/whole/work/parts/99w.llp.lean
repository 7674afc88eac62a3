theorem LI.mono {σ : Mem} {n n' : Int} (h : LI σ n) (hn : n ≤ n') : LI σ n' := by
  obtain ⟨A, Ls, IA, IL, tx, X, hC, hM, hJ, h4⟩ := h
  exact ⟨A, Ls, IA, IL, tx, X, hC, hM, hJ, by omega⟩
theorem law_sw {xL : Nat} {xs : Nat → Int32} {i n x : Int} {σ : Mem} (hi : 0 ≤ i ∧ i + 6 ≤ xL ∧ xL ≤ 3072) (hO : OKm σ) (h : LI σ n) (hN : n ≤ 600000000) (hE : ∀ σ' : Mem, OKm σ' → LI σ' (n + 10000) → LG xL xs 1547 (LV i) [] σ') (hR : R32 x) : ∀ k : Nat, k < 47 → x = (k : Int) → LG xL xs 33 (LV i) [aI x] σ
  | 0, _, e => LG_tsw 0 (by omega) (by omega) rfl (tgt := 236) (by decide) hR dL_law_33 (lwc_0 hi hO h hN hE)
  | 1, _, e => LG_tsw 1 (by omega) (by omega) rfl (tgt := 289) (by decide) hR dL_law_33 (lwc_1 hi hO h hN hE)
  | 2, _, e => LG_tsw 2 (by omega) (by omega) rfl (tgt := 322) (by decide) hR dL_law_33 (lwc_2 hi hO h hN hE)
  | 3, _, e => LG_tsw 3 (by omega) (by omega) rfl (tgt := 385) (by decide) hR dL_law_33 (lwc_3 hi hO h hN hE)
  | 4, _, e => LG_tsw 4 (by omega) (by omega) rfl (tgt := 408) (by decide) hR dL_law_33 (lwc_4 hi hO h hN hE)
  | 5, _, e => LG_tsw 5 (by omega) (by omega) rfl (tgt := 421) (by decide) hR dL_law_33 (lwc_5 hi hO h hN hE)
  | 6, _, e => LG_tsw 6 (by omega) (by omega) rfl (tgt := 444) (by decide) hR dL_law_33 (lwc_6 hi hO h hN hE)
  | 7, _, e => LG_tsw 7 (by omega) (by omega) rfl (tgt := 467) (by decide) hR dL_law_33 (lwc_7 hi hO h hN hE)
  | 8, _, e => LG_tsw 8 (by omega) (by omega) rfl (tgt := 500) (by decide) hR dL_law_33 (lwc_8 hi hO h hN hE)
  | 9, _, e => LG_tsw 9 (by omega) (by omega) rfl (tgt := 523) (by decide) hR dL_law_33 (lwc_9 hi hO h hN hE)
  | 10, _, e => LG_tsw 10 (by omega) (by omega) rfl (tgt := 546) (by decide) hR dL_law_33 (lwc_10 hi hO h hN hE)
  | 11, _, e => LG_tsw 11 (by omega) (by omega) rfl (tgt := 569) (by decide) hR dL_law_33 (lwc_11 hi hO h hN hE)
  | 12, _, e => LG_tsw 12 (by omega) (by omega) rfl (tgt := 592) (by decide) hR dL_law_33 (lwc_12 hi hO h hN hE)
  | 13, _, e => LG_tsw 13 (by omega) (by omega) rfl (tgt := 625) (by decide) hR dL_law_33 (lwc_13 hi hO h hN hE)
  | 14, _, e => LG_tsw 14 (by omega) (by omega) rfl (tgt := 638) (by decide) hR dL_law_33 (lwc_14 hi hO h hN hE)
  | 15, _, e => LG_tsw 15 (by omega) (by omega) rfl (tgt := 671) (by decide) hR dL_law_33 (lwc_15 hi hO h hN hE)
  | 16, _, e => LG_tsw 16 (by omega) (by omega) rfl (tgt := 704) (by decide) hR dL_law_33 (lwc_16 hi hO h hN hE)
  | 17, _, e => LG_tsw 17 (by omega) (by omega) rfl (tgt := 737) (by decide) hR dL_law_33 (lwc_17 hi hO h hN hE)
  | 18, _, e => LG_tsw 18 (by omega) (by omega) rfl (tgt := 760) (by decide) hR dL_law_33 (lwc_18 hi hO h hN hE)
  | 19, _, e => LG_tsw 19 (by omega) (by omega) rfl (tgt := 793) (by decide) hR dL_law_33 (lwc_19 hi hO h hN hE)
  | 20, _, e => LG_tsw 20 (by omega) (by omega) rfl (tgt := 836) (by decide) hR dL_law_33 (lwc_20 hi hO h hN hE)
  | 21, _, e => LG_tsw 21 (by omega) (by omega) rfl (tgt := 879) (by decide) hR dL_law_33 (lwc_21 hi hO h hN hE)
  | 22, _, e => LG_tsw 22 (by omega) (by omega) rfl (tgt := 932) (by decide) hR dL_law_33 (lwc_22 hi hO h hN hE)
  | 23, _, e => LG_tsw 23 (by omega) (by omega) rfl (tgt := 965) (by decide) hR dL_law_33 (lwc_23 hi hO h hN hE)
  | 24, _, e => LG_tsw 24 (by omega) (by omega) rfl (tgt := 998) (by decide) hR dL_law_33 (lwc_24 hi hO h hN hE)
  | 25, _, e => LG_tsw 25 (by omega) (by omega) rfl (tgt := 1031) (by decide) hR dL_law_33 (lwc_25 hi hO h hN hE)
  | 26, _, e => LG_tsw 26 (by omega) (by omega) rfl (tgt := 1070) (by decide) hR dL_law_33 (lwc_26 hi hO h hN hE)
  | 27, _, e => LG_tsw 27 (by omega) (by omega) rfl (tgt := 1083) (by decide) hR dL_law_33 (lwc_27 hi hO h hN hE)
  | 28, _, e => LG_tsw 28 (by omega) (by omega) rfl (tgt := 1106) (by decide) hR dL_law_33 (lwc_28 hi hO h hN hE)
  | 29, _, e => LG_tsw 29 (by omega) (by omega) rfl (tgt := 1119) (by decide) hR dL_law_33 (lwc_29 hi hO h hN hE)
  | 30, _, e => LG_tsw 30 (by omega) (by omega) rfl (tgt := 1132) (by decide) hR dL_law_33 (lwc_30 hi hO h hN hE)
  | 31, _, e => LG_tsw 31 (by omega) (by omega) rfl (tgt := 1165) (by decide) hR dL_law_33 (lwc_31 hi hO h hN hE)
  | 32, _, e => LG_tsw 32 (by omega) (by omega) rfl (tgt := 1198) (by decide) hR dL_law_33 (lwc_32 hi hO h hN hE)
  | 33, _, e => LG_tsw 33 (by omega) (by omega) rfl (tgt := 1222) (by decide) hR dL_law_33 (lwc_33 hi hO h hN hE)
  | 34, _, e => LG_tsw 34 (by omega) (by omega) rfl (tgt := 1261) (by decide) hR dL_law_33 (lwc_34 hi hO h hN hE)
  | 35, _, e => LG_tsw 35 (by omega) (by omega) rfl (tgt := 1274) (by decide) hR dL_law_33 (lwc_35 hi hO h hN hE)
  | 36, _, e => LG_tsw 36 (by omega) (by omega) rfl (tgt := 1344) (by decide) hR dL_law_33 (lwc_36 hi hO h hN hE)
  | 37, _, e => LG_tsw 37 (by omega) (by omega) rfl (tgt := 1367) (by decide) hR dL_law_33 (lwc_37 hi hO h hN hE)
  | 38, _, e => LG_tsw 38 (by omega) (by omega) rfl (tgt := 1380) (by decide) hR dL_law_33 (lwc_38 hi hO h hN hE)
  | 39, _, e => LG_tsw 39 (by omega) (by omega) rfl (tgt := 1423) (by decide) hR dL_law_33 (lwc_39 hi hO h hN hE)
  | 40, _, e => LG_tsw 40 (by omega) (by omega) rfl (tgt := 1436) (by decide) hR dL_law_33 (lwc_40 hi hO h hN hE)
  | 41, _, e => LG_tsw 41 (by omega) (by omega) rfl (tgt := 1449) (by decide) hR dL_law_33 (lwc_41 hi hO h hN hE)
  | 42, _, e => LG_tsw 42 (by omega) (by omega) rfl (tgt := 1462) (by decide) hR dL_law_33 (lwc_42 hi hO h hN hE)
  | 43, _, e => LG_tsw 43 (by omega) (by omega) rfl (tgt := 1475) (by decide) hR dL_law_33 (lwc_43 hi hO h hN hE)
  | 44, _, e => LG_tsw 44 (by omega) (by omega) rfl (tgt := 1498) (by decide) hR dL_law_33 (lwc_44 hi hO h hN hE)
  | 45, _, e => LG_tsw 45 (by omega) (by omega) rfl (tgt := 1511) (by decide) hR dL_law_33 (lwc_45 hi hO h hN hE)
  | 46, _, e => LG_tsw 46 (by omega) (by omega) rfl (tgt := 1524) (by decide) hR dL_law_33 (lwc_46 hi hO h hN hE)
  | k + 47, hk, _ => absurd hk (by omega)

theorem law_loop {xL : Nat} {xs : Nat → Int32} (hL : xL ≤ 3072) : ∀ (n : Nat) (i g : Int) (σ : Mem), 0 ≤ i → i ≤ xL → (xL : Int) + 6 ≤ i + 6 * n → OKm σ → LI σ g → g + 10000 * n ≤ 600000000 → LG xL xs 18 (LV i) [] σ := by
  intro n
  induction n with
  | zero => intro i g σ h0 h1 h2; omega
  | succ n ih =>
    intro i g σ h0 h1 h2 hO hI hg
    refine LG_iload_n 3 rfl rfl dL_law_18 ?_
    refine LG_aload_n 0 rfl rfl dL_law_19 ?_
    refine LG_slen hL dL_law_20 ?_
    refine LG_bipush rfl dL_law_21 ?_
    refine LG_isub dL_law_23 ?_
    refine LG_icmp_gt (tgt := 1553) (by unfold R32; omega) (by unfold R32; omega) dL_law_24 (by decide) (fun _ => ?_) (fun hle => ?_)
    · refine LG_iconst dL_law_1553 ?_
      exact LG_ret dL_law_1554
    · refine LG_aload_n 0 rfl rfl dL_law_27 ?_
      refine LG_iload_n 3 rfl rfl dL_law_28 ?_
      refine LG_sld ⟨h0, by omega⟩ hL dL_law_29 ?_
      refine LG_bipush rfl dL_law_30 ?_
      refine LG_iand dL_law_32 ?_
      have hE : ∀ σ' : Mem, OKm σ' → LI σ' (g + 10000) → LG xL xs 1547 (LV i) [] σ' := fun σ' hO' h' => by
        refine LG_iinc (k := 3) rfl rfl (by decide) dL_law_1547 ?_
        refine LG_goto (tgt := 18) dL_law_1550 (by decide) ?_
        exact LG_pick [1, 2, 3, 0] rfl (ih (i + 6) (g + 10000) σ' (by omega) (by omega) (by omega) hO' h' (by omega))
      have hR : R32 (bAnd (sc xs i) 63) := by unfold bAnd; exact r32_of _
      by_cases hx : 0 ≤ bAnd (sc xs i) 63 ∧ bAnd (sc xs i) 63 ≤ 46
      · exact law_sw (by omega) hO hI (by omega) hE hR (bAnd (sc xs i) 63).toNat (by omega) (by omega)
      · exact LG_tswd hR (by omega) (tgt := 1547) (by decide) dL_law_33 (hE σ hO (hI.mono (by omega)))
