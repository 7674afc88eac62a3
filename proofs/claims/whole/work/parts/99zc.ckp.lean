def RWf : Nat → Int32 := (upd (upd (upd (upd (upd (upd (upd (fun _ => 0) 58 20) 59 0) 60 0) 61 283) 62 0) 63 0) 64 0)

theorem ct_keep {D : va_G} {E : Nat → ClassId} {A : Nat → Prop} {nw rw tl tk pl we bk t1 t2 t3 t4 t5 t6 t7 t8 : Nat} {ws : va_W} (qn qt qp qw qb qr qd : Nat) (hqn : ws[qn]? = some (nw, .inr (6, [.ref tk, .ref pl, .ref we, .ref bk, .int 0, .int 20, .int 0, .int 0, .int 283]))) (hqt : ws[qt]? = some (tk, .inl (E 0, 16, .inl (fun _ => 0)))) (hqp : ws[qp]? = some (pl, .inl (E 0, 6, .inl (fun _ => 0)))) (hqw : ws[qw]? = some (we, .inl (E 0, 6, .inl (fun _ => 0)))) (hqb : ws[qb]? = some (bk, .inl (E 0, 30, .inl (fun _ => 0)))) (hqr : ws[qr]? = some (rw, .inl (E 0, 65, .inl (fun _ => 0)))) (hqd : ws[qd]? = some (tl, .inr (10, [.ref t1, .ref t2, .ref t3, .ref t4, .ref t5, .ref t6, .ref t7, .ref t8, .int 0, .int 0, .int 0, .int 0, .int (-1)]))) (nqn : qn ≠ qr) (nqt : qt ≠ qr) (nqp : qp ≠ qr) (nqw : qw ≠ qr) (nqb : qb ≠ qr) (nqd : qd ≠ qr) : CMt yX6_keep cX6_keep 4 0 0 0 [.ref nw, .ref rw, .int 0, .ref tl] D E A ws (fun ws' => ws' = ws.set qr (rw, .inl (E 0, 65, .inl RWf))) := by
  have hlen : qr < ws.length := (List.getElem?_eq_some_iff.mp hqr).1
  have zcp : ∀ {a b n : Nat}, va_cpy (fun _ => (0 : Int32)) (fun _ => 0) a b n = fun _ => 0 := by intro a b n; funext k; unfold va_cpy; split <;> rfl
  have sw0 : ws.set qr (rw, .inl (E 0, 65, .inl (fun _ => 0))) = ws := by
    apply List.ext_getElem?
    intro k
    rw [List.getElem?_set]
    by_cases e : qr = k
    · subst e; rw [if_pos rfl, if_pos hlen, hqr]
    · rw [if_neg e]
  have lk : ∀ {x : Nat × va_E} {z : Nat × va_E} (q : Nat), ws[q]? = some x → q ≠ qr → (ws.set qr z)[q]? = some x := by
    intro x z q h hn
    rw [List.getElem?_set_ne (fun e => hn e.symm)]; exact h
  have sr : ∀ {z : Nat × va_E}, (ws.set qr z)[qr]? = some z := by intro z; simp [hlen]
  have ss : ∀ {z z' : Nat × va_E}, (ws.set qr z).set qr z' = ws.set qr z' := by intro z z'; simp
  refine CMt.intro (by decide +kernel) (Nat.le_of_ble_eq_true rfl) (lv := [(0, .ref nw), (1, .ref rw), (2, .int 0), (3, .ref tl)]) rfl ?_
  refine CG_iload_n 2 rfl rfl dX6_keep_0 ?_
  refine CG_if_lt (tgt := 13) dX6_keep_1 (by decide) (fun q => absurd q (by decide)) (fun _ => ?_)
  refine CG_iload_n 2 rfl rfl dX6_keep_4 ?_
  refine CG_aload_n 1 rfl rfl dX6_keep_5 ?_
  refine CG_alen (v := 65) qr hqr (by decide) dX6_keep_6 ?_
  refine CG_bipush (v := 65) (by decide) dX6_keep_7 ?_
  refine CG_isub (v := 0) (by decide) dX6_keep_9 ?_
  refine CG_icmp_le (tgt := 14) dX6_keep_10 (by decide) (fun _ => ?_) (fun q => absurd (by decide) q)
  refine CG_aload_n 0 rfl rfl dX6_keep_14 ?_
  refine CG_get (own := RX6) (ref := RX6) (C := RX6) (T := TX6) (N := 9) (v := .ref tk) qn 0 rfl iX6 hqn rfl (by decide) cw_f_X6_11 rfl rfl dX6_keep_15 ?_
  refine CG_iconst (v := 0) (by decide) dX6_keep_18 ?_
  refine CG_aload_n 1 rfl rfl dX6_keep_19 ?_
  refine CG_iload_n 2 rfl rfl dX6_keep_20 ?_
  refine CG_aload_n 0 rfl rfl dX6_keep_21 ?_
  refine CG_get (own := RX6) (ref := RX6) (C := RX6) (T := TX6) (N := 9) (v := .ref tk) qn 0 rfl iX6 hqn rfl (by decide) cw_f_X6_11 rfl rfl dX6_keep_22 ?_
  refine CG_alen (v := 16) qt hqt (by decide) dX6_keep_25 ?_
  refine CG_copy (own := RX6) (g' := fun _ => 0) (ws' := ws) qt qr rfl sf_X6_46 hqt hqr (by decide) (by decide) (by decide) (by decide) (by decide) zcp (Nat.le_of_ble_eq_true rfl) sw0 dX6_keep_26 ?_
  refine CG_aload_n 0 rfl rfl dX6_keep_29 ?_
  refine CG_get (own := RX6) (ref := RX6) (C := RX6) (T := TX6) (N := 9) (v := .ref pl) qn 1 rfl iX6 hqn rfl (by decide) cw_f_X6_15 rfl rfl dX6_keep_30 ?_
  refine CG_iconst (v := 0) (by decide) dX6_keep_33 ?_
  refine CG_aload_n 1 rfl rfl dX6_keep_34 ?_
  refine CG_iload_n 2 rfl rfl dX6_keep_35 ?_
  refine CG_bipush (v := 16) (by decide) dX6_keep_36 ?_
  refine CG_iadd (v := 16) (by decide) dX6_keep_38 ?_
  refine CG_aload_n 0 rfl rfl dX6_keep_39 ?_
  refine CG_get (own := RX6) (ref := RX6) (C := RX6) (T := TX6) (N := 9) (v := .ref pl) qn 1 rfl iX6 hqn rfl (by decide) cw_f_X6_15 rfl rfl dX6_keep_40 ?_
  refine CG_alen (v := 6) qp hqp (by decide) dX6_keep_43 ?_
  refine CG_copy (own := RX6) (g' := fun _ => 0) (ws' := ws) qp qr rfl sf_X6_46 hqp hqr (by decide) (by decide) (by decide) (by decide) (by decide) zcp (Nat.le_of_ble_eq_true rfl) sw0 dX6_keep_44 ?_
  refine CG_aload_n 0 rfl rfl dX6_keep_47 ?_
  refine CG_get (own := RX6) (ref := RX6) (C := RX6) (T := TX6) (N := 9) (v := .ref we) qn 2 rfl iX6 hqn rfl (by decide) cw_f_X6_18 rfl rfl dX6_keep_48 ?_
  refine CG_iconst (v := 0) (by decide) dX6_keep_51 ?_
  refine CG_aload_n 1 rfl rfl dX6_keep_52 ?_
  refine CG_iload_n 2 rfl rfl dX6_keep_53 ?_
  refine CG_bipush (v := 22) (by decide) dX6_keep_54 ?_
  refine CG_iadd (v := 22) (by decide) dX6_keep_56 ?_
  refine CG_aload_n 0 rfl rfl dX6_keep_57 ?_
  refine CG_get (own := RX6) (ref := RX6) (C := RX6) (T := TX6) (N := 9) (v := .ref we) qn 2 rfl iX6 hqn rfl (by decide) cw_f_X6_18 rfl rfl dX6_keep_58 ?_
  refine CG_alen (v := 6) qw hqw (by decide) dX6_keep_61 ?_
  refine CG_copy (own := RX6) (g' := fun _ => 0) (ws' := ws) qw qr rfl sf_X6_46 hqw hqr (by decide) (by decide) (by decide) (by decide) (by decide) zcp (Nat.le_of_ble_eq_true rfl) sw0 dX6_keep_62 ?_
  refine CG_aload_n 0 rfl rfl dX6_keep_65 ?_
  refine CG_get (own := RX6) (ref := RX6) (C := RX6) (T := TX6) (N := 9) (v := .ref bk) qn 3 rfl iX6 hqn rfl (by decide) cw_f_X6_21 rfl rfl dX6_keep_66 ?_
  refine CG_iconst (v := 0) (by decide) dX6_keep_69 ?_
  refine CG_aload_n 1 rfl rfl dX6_keep_70 ?_
  refine CG_iload_n 2 rfl rfl dX6_keep_71 ?_
  refine CG_bipush (v := 28) (by decide) dX6_keep_72 ?_
  refine CG_iadd (v := 28) (by decide) dX6_keep_74 ?_
  refine CG_aload_n 0 rfl rfl dX6_keep_75 ?_
  refine CG_get (own := RX6) (ref := RX6) (C := RX6) (T := TX6) (N := 9) (v := .ref bk) qn 3 rfl iX6 hqn rfl (by decide) cw_f_X6_21 rfl rfl dX6_keep_76 ?_
  refine CG_alen (v := 30) qb hqb (by decide) dX6_keep_79 ?_
  refine CG_copy (own := RX6) (g' := fun _ => 0) (ws' := ws) qb qr rfl sf_X6_46 hqb hqr (by decide) (by decide) (by decide) (by decide) (by decide) zcp (Nat.le_of_ble_eq_true rfl) sw0 dX6_keep_80 ?_
  refine CG_aload_n 1 rfl rfl dX6_keep_83 ?_
  refine CG_iload_n 2 rfl rfl dX6_keep_84 ?_
  refine CG_bipush (v := 58) (by decide) dX6_keep_85 ?_
  refine CG_iadd (v := 58) (by decide) dX6_keep_87 ?_
  refine CG_aload_n 0 rfl rfl dX6_keep_88 ?_
  refine CG_get (own := RX6) (ref := RX6) (C := RX6) (T := TX6) (N := 9) (v := .int 20) qn 5 rfl iX6 hqn rfl (by decide) cw_f_X6_28 rfl rfl dX6_keep_89 ?_
  refine CG_iast (f' := (upd (fun _ => 0) 58 20)) (ws' := ws.set qr (rw, .inl (E 0, 65, .inl (upd (fun _ => 0) 58 20)))) qr hqr (by unfold vp_in; decide) rfl rfl dX6_keep_92 ?_
  refine CG_aload_n 1 rfl rfl dX6_keep_93 ?_
  refine CG_iload_n 2 rfl rfl dX6_keep_94 ?_
  refine CG_bipush (v := 59) (by decide) dX6_keep_95 ?_
  refine CG_iadd (v := 59) (by decide) dX6_keep_97 ?_
  refine CG_aload_n 0 rfl rfl dX6_keep_98 ?_
  refine CG_get (own := RX6) (ref := RX6) (C := RX6) (T := TX6) (N := 9) (v := .int 0) qn 6 rfl iX6 (lk qn hqn nqn) rfl (by decide) cw_f_X6_31 rfl rfl dX6_keep_99 ?_
  refine CG_iast (f' := (upd (upd (fun _ => 0) 58 20) 59 0)) (ws' := ws.set qr (rw, .inl (E 0, 65, .inl (upd (upd (fun _ => 0) 58 20) 59 0)))) qr sr (by unfold vp_in; decide) rfl ss dX6_keep_102 ?_
  refine CG_aload_n 1 rfl rfl dX6_keep_103 ?_
  refine CG_iload_n 2 rfl rfl dX6_keep_104 ?_
  refine CG_bipush (v := 60) (by decide) dX6_keep_105 ?_
  refine CG_iadd (v := 60) (by decide) dX6_keep_107 ?_
  refine CG_aload_n 0 rfl rfl dX6_keep_108 ?_
  refine CG_get (own := RX6) (ref := RX6) (C := RX6) (T := TX6) (N := 9) (v := .int 0) qn 7 rfl iX6 (lk qn hqn nqn) rfl (by decide) cw_f_X6_34 rfl rfl dX6_keep_109 ?_
  refine CG_iast (f' := (upd (upd (upd (fun _ => 0) 58 20) 59 0) 60 0)) (ws' := ws.set qr (rw, .inl (E 0, 65, .inl (upd (upd (upd (fun _ => 0) 58 20) 59 0) 60 0)))) qr sr (by unfold vp_in; decide) rfl ss dX6_keep_112 ?_
  refine CG_aload_n 1 rfl rfl dX6_keep_113 ?_
  refine CG_iload_n 2 rfl rfl dX6_keep_114 ?_
  refine CG_bipush (v := 61) (by decide) dX6_keep_115 ?_
  refine CG_iadd (v := 61) (by decide) dX6_keep_117 ?_
  refine CG_aload_n 0 rfl rfl dX6_keep_118 ?_
  refine CG_get (own := RX6) (ref := RX6) (C := RX6) (T := TX6) (N := 9) (v := .int 283) qn 8 rfl iX6 (lk qn hqn nqn) rfl (by decide) cw_f_X6_37 rfl rfl dX6_keep_119 ?_
  refine CG_iast (f' := (upd (upd (upd (upd (fun _ => 0) 58 20) 59 0) 60 0) 61 283)) (ws' := ws.set qr (rw, .inl (E 0, 65, .inl (upd (upd (upd (upd (fun _ => 0) 58 20) 59 0) 60 0) 61 283)))) qr sr (by unfold vp_in; decide) rfl ss dX6_keep_122 ?_
  refine CG_aload_n 1 rfl rfl dX6_keep_123 ?_
  refine CG_iload_n 2 rfl rfl dX6_keep_124 ?_
  refine CG_bipush (v := 62) (by decide) dX6_keep_125 ?_
  refine CG_iadd (v := 62) (by decide) dX6_keep_127 ?_
  refine CG_aload_n 0 rfl rfl dX6_keep_128 ?_
  refine CG_get (own := RX6) (ref := RX6) (C := RX6) (T := TX6) (N := 9) (v := .int 0) qn 4 rfl iX6 (lk qn hqn nqn) rfl (by decide) cw_f_X6_24 rfl rfl dX6_keep_129 ?_
  refine CG_iast (f' := (upd (upd (upd (upd (upd (fun _ => 0) 58 20) 59 0) 60 0) 61 283) 62 0)) (ws' := ws.set qr (rw, .inl (E 0, 65, .inl (upd (upd (upd (upd (upd (fun _ => 0) 58 20) 59 0) 60 0) 61 283) 62 0)))) qr sr (by unfold vp_in; decide) rfl ss dX6_keep_132 ?_
  refine CG_aload_n 1 rfl rfl dX6_keep_133 ?_
  refine CG_iload_n 2 rfl rfl dX6_keep_134 ?_
  refine CG_bipush (v := 63) (by decide) dX6_keep_135 ?_
  refine CG_iadd (v := 63) (by decide) dX6_keep_137 ?_
  refine CG_aload_n 3 rfl rfl dX6_keep_138 ?_
  refine CG_get (own := RX6) (ref := RX10) (C := RX10) (T := TX10) (N := 13) (v := .int 0) qd 8 rfl iX10 (lk qd hqd nqd) rfl (by decide) cw_f_X6_52 rfl rfl dX6_keep_139 ?_
  refine CG_iast (f' := (upd (upd (upd (upd (upd (upd (fun _ => 0) 58 20) 59 0) 60 0) 61 283) 62 0) 63 0)) (ws' := ws.set qr (rw, .inl (E 0, 65, .inl (upd (upd (upd (upd (upd (upd (fun _ => 0) 58 20) 59 0) 60 0) 61 283) 62 0) 63 0)))) qr sr (by unfold vp_in; decide) rfl ss dX6_keep_142 ?_
  refine CG_aload_n 1 rfl rfl dX6_keep_143 ?_
  refine CG_iload_n 2 rfl rfl dX6_keep_144 ?_
  refine CG_bipush (v := 64) (by decide) dX6_keep_145 ?_
  refine CG_iadd (v := 64) (by decide) dX6_keep_147 ?_
  refine CG_aload_n 3 rfl rfl dX6_keep_148 ?_
  refine CG_get (own := RX6) (ref := RX10) (C := RX10) (T := TX10) (N := 13) (v := .int 0) qd 9 rfl iX10 (lk qd hqd nqd) rfl (by decide) cw_f_X6_57 rfl rfl dX6_keep_149 ?_
  refine CG_iast (f' := (upd (upd (upd (upd (upd (upd (upd (fun _ => 0) 58 20) 59 0) 60 0) 61 283) 62 0) 63 0) 64 0)) (ws' := ws.set qr (rw, .inl (E 0, 65, .inl (upd (upd (upd (upd (upd (upd (upd (fun _ => 0) 58 20) 59 0) 60 0) 61 283) 62 0) 63 0) 64 0)))) qr sr (by unfold vp_in; decide) rfl ss dX6_keep_152 ?_
  exact CG_ret dX6_keep_153 rfl

def cpF (f g : Nat → Int32) (k : Nat) : Nat → Int32 := fun i => if i < k then f i else g i
theorem ct_copy {D : va_G} {E : Nat → ClassId} {A : Nat → Prop} {fa ta : Nat} {f g : Nat → Int32} {ws : va_W} (qa qb : Nat) (ha : ws[qa]? = some (fa, .inl (E 0, 2119, .inl f))) (hb : ws[qb]? = some (ta, .inl (E 0, 2119, .inl g))) (hn : qa ≠ qb) : CMt yX12_copy cX12_copy 3 0 0 0 [.ref fa, .ref ta] D E A ws (fun ws' => ws' = ws.set qb (ta, .inl (E 0, 2119, .inl (cpF f g 2119)))) := by
  have hlen : qb < ws.length := (List.getElem?_eq_some_iff.mp hb).1
  have sr : ∀ {z : Nat × va_E}, (ws.set qb z)[qb]? = some z := by intro z; simp [hlen]
  have ss : ∀ {z z' : Nat × va_E}, (ws.set qb z).set qb z' = ws.set qb z' := by intro z z'; simp
  have lk : ∀ {z : Nat × va_E}, (ws.set qb z)[qa]? = some (fa, .inl (E 0, 2119, .inl f)) := by intro z; rw [List.getElem?_set_ne (fun e => hn e.symm)]; exact ha
  have H : ∀ (n k : Nat), k + n = 2119 → CG yX12_copy cX12_copy 3 0 0 0 D E A (fun ws' => ws' = ws.set qb (ta, .inl (E 0, 2119, .inl (cpF f g 2119)))) 2 [(2, .int (Int32.ofInt (k : Int))), (0, .ref fa), (1, .ref ta)] [] (ws.set qb (ta, .inl (E 0, 2119, .inl (cpF f g k)))) 0 0 := by
    intro n
    induction n with
    | zero =>
      intro k hk
      have : k = 2119 := by omega
      subst this
      refine CG_iload_n 0 rfl rfl dX12_copy_2 ?_
      refine CG_sipush (v := 2119) (by decide) dX12_copy_3 ?_
      refine CG_icmp_ge (tgt := 21) dX12_copy_6 (by decide) (fun _ => ?_) (fun q => absurd (by decide) q)
      exact CG_ret dX12_copy_21 rfl
    | succ n ih =>
      intro k hk
      have hx := idx_in (i := (k : Int)) (n := 2119) (by omega) (by omega) (by decide)
      refine CG_iload_n 0 rfl rfl dX12_copy_2 ?_
      refine CG_sipush (v := 2119) (by decide) dX12_copy_3 ?_
      refine CG_icmp_ge (tgt := 21) dX12_copy_6 (by decide) (fun q => absurd q ?_) (fun _ => ?_)
      · rw [show (2119 : Int32) = Int32.ofInt 2119 from rfl, r32_le (by unfold R32; omega) (by unfold R32; omega)]; omega
      refine CG_aload_n 2 rfl rfl dX12_copy_9 ?_
      refine CG_iload_n 0 rfl rfl dX12_copy_10 ?_
      refine CG_aload_n 1 rfl rfl dX12_copy_11 ?_
      refine CG_iload_n 0 rfl rfl dX12_copy_12 ?_
      refine CG_iald (v := f k) qa lk hx.1 (by rw [hx.2]; rfl) dX12_copy_13 ?_
      refine CG_iast (f' := cpF f g (k + 1)) (ws' := ws.set qb (ta, .inl (E 0, 2119, .inl (cpF f g (k + 1))))) qb sr hx.1 ?_ ss dX12_copy_14 ?_
      · rw [hx.2]
        funext j
        unfold upd cpF
        by_cases e : j = k
        · subst e; simp
        · have e2 : j ≠ ((k : Int)).toNat := by omega
          rw [if_neg e2]
          by_cases e3 : j < k
          · rw [if_pos e3, if_pos (by omega)]
          · rw [if_neg e3, if_neg (by omega)]
      refine CG_iinc (k := 0) (v := Int32.ofInt ((k + 1 : Nat) : Int)) rfl (by rw [← Int32.ofInt_add]; rfl) (by decide) rfl dX12_copy_15 ?_
      refine CG_goto (tgt := 2) dX12_copy_18 (by decide) ?_
      exact ih (k + 1) (by omega)
  refine CMt.intro (by decide +kernel) (Nat.le_of_ble_eq_true rfl) (lv := [(0, .ref fa), (1, .ref ta)]) rfl ?_
  refine CG_iconst (v := 0) (by decide) dX12_copy_0 ?_
  refine CG_istore_n rfl (by decide) rfl dX12_copy_1 ?_
  have h0 := H 2119 0 (by omega)
  have e0 : ws.set qb (ta, .inl (E 0, 2119, .inl (cpF f g 0))) = ws := by
    apply List.ext_getElem?
    intro k
    rw [List.getElem?_set]
    by_cases e : qb = k
    · subst e; rw [if_pos rfl, if_pos hlen, hb]; congr 4
    · rw [if_neg e]
  rw [e0] at h0
  exact h0
