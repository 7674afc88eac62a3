def bX10 (E : Nat → ClassId) (h0 : Nat) (g : Nat → Nat) : va_W := [((g 8), .inl (E 0, 8, .inl (fun _ => 0))), ((g 7), .inl (E 0, 8, .inl (fun _ => 0))), ((g 6), .inl (E 0, 8, .inl (fun _ => 0))), ((g 5), .inl (E 0, 6, .inl (fun _ => 0))), ((g 4), .inl (E 0, 16, .inl (fun _ => 0))), ((g 3), .inl (E 0, 16, .inl (fun _ => 0))), ((g 2), .inl (E 0, 16, .inl (fun _ => 0))), ((g 1), .inl (E 0, 16, .inl (fun _ => 0))), (h0, .inr (10, [.ref (g 1), .ref (g 2), .ref (g 3), .ref (g 4), .ref (g 5), .ref (g 6), .ref (g 7), .ref (g 8), .int 0, .int 0, .int 0, .int 0, .int (-1)]))]

theorem ct_X10 {D : va_G} {E : Nat → ClassId} {A : Nat → Prop} (h0 : Nat) (wr : va_W) : CMt yX10_init cX10_init 1 0 8 94 [.ref h0] D E A ((h0, .inr (10, [.null, .null, .null, .null, .null, .null, .null, .null, .int 0, .int 0, .int 0, .int 0, .int 0])) :: wr) (fun ws => ∃ g : Nat → Nat, ws = bX10 E h0 g ++ wr) := by
  refine CMt.intro (by decide +kernel) (Nat.le_of_ble_eq_true rfl) (lv := [(0, .ref h0)]) rfl ?_
  refine CG_aload_n 0 rfl rfl dX10_init_0 ?_
  refine CG_obj rfl cw_o_X10_3 cw_oi cw_oc dX10_init_1 ?_
  refine CG_aload_n 0 rfl rfl dX10_init_4 ?_
  refine CG_bipush (v := 16) (by decide) dX10_init_5 ?_
  refine CG_newa (at_ := .int) (ty := .int) (N := 16) (a0 := (16, .inl (fun _ => 0))) 0 (fun _ => rfl) rfl cw_a_int (fun _ => rfl) (by decide) (by decide) (Nat.le_of_ble_eq_true rfl) (Nat.le_of_ble_eq_true rfl) (Nat.le_of_ble_eq_true rfl) dX10_init_7 (fun q1 => ?_)
  refine CG_putFp (own := RX10) (C := RX10) (T := TX10) (N := 13) (ty0 := tyX10) (ty := .array .int) (ci := 10) (v := .ref q1) (fs' := [.ref q1, .null, .null, .null, .null, .null, .null, .null, .int 0, .int 0, .int 0, .int 0, .int 0]) [(q1, .inl (E 0, 16, .inl (fun _ => 0)))] 0 rfl rfl iX10 tyX10_ok nmX10 rfl (by decide) cw_f_X10_9 rfl rfl (by decide +kernel) rfl rfl (Nat.le_of_ble_eq_true rfl) rfl dX10_init_9 ?_
  refine CG_aload_n 0 rfl rfl dX10_init_12 ?_
  refine CG_bipush (v := 16) (by decide) dX10_init_13 ?_
  refine CG_newa (at_ := .int) (ty := .int) (N := 16) (a0 := (16, .inl (fun _ => 0))) 0 (fun _ => rfl) rfl cw_a_int (fun _ => rfl) (by decide) (by decide) (Nat.le_of_ble_eq_true rfl) (Nat.le_of_ble_eq_true rfl) (Nat.le_of_ble_eq_true rfl) dX10_init_15 (fun q2 => ?_)
  refine CG_putFp (own := RX10) (C := RX10) (T := TX10) (N := 13) (ty0 := tyX10) (ty := .array .int) (ci := 10) (v := .ref q2) (fs' := [.ref q1, .ref q2, .null, .null, .null, .null, .null, .null, .int 0, .int 0, .int 0, .int 0, .int 0]) [(q2, .inl (E 0, 16, .inl (fun _ => 0))), (q1, .inl (E 0, 16, .inl (fun _ => 0)))] 1 rfl rfl iX10 tyX10_ok nmX10 rfl (by decide) cw_f_X10_15 rfl rfl (by decide +kernel) rfl rfl (Nat.le_of_ble_eq_true rfl) rfl dX10_init_17 ?_
  refine CG_aload_n 0 rfl rfl dX10_init_20 ?_
  refine CG_bipush (v := 16) (by decide) dX10_init_21 ?_
  refine CG_newa (at_ := .int) (ty := .int) (N := 16) (a0 := (16, .inl (fun _ => 0))) 0 (fun _ => rfl) rfl cw_a_int (fun _ => rfl) (by decide) (by decide) (Nat.le_of_ble_eq_true rfl) (Nat.le_of_ble_eq_true rfl) (Nat.le_of_ble_eq_true rfl) dX10_init_23 (fun q3 => ?_)
  refine CG_putFp (own := RX10) (C := RX10) (T := TX10) (N := 13) (ty0 := tyX10) (ty := .array .int) (ci := 10) (v := .ref q3) (fs' := [.ref q1, .ref q2, .ref q3, .null, .null, .null, .null, .null, .int 0, .int 0, .int 0, .int 0, .int 0]) [(q3, .inl (E 0, 16, .inl (fun _ => 0))), (q2, .inl (E 0, 16, .inl (fun _ => 0))), (q1, .inl (E 0, 16, .inl (fun _ => 0)))] 2 rfl rfl iX10 tyX10_ok nmX10 rfl (by decide) cw_f_X10_18 rfl rfl (by decide +kernel) rfl rfl (Nat.le_of_ble_eq_true rfl) rfl dX10_init_25 ?_
  refine CG_aload_n 0 rfl rfl dX10_init_28 ?_
  refine CG_bipush (v := 16) (by decide) dX10_init_29 ?_
  refine CG_newa (at_ := .int) (ty := .int) (N := 16) (a0 := (16, .inl (fun _ => 0))) 0 (fun _ => rfl) rfl cw_a_int (fun _ => rfl) (by decide) (by decide) (Nat.le_of_ble_eq_true rfl) (Nat.le_of_ble_eq_true rfl) (Nat.le_of_ble_eq_true rfl) dX10_init_31 (fun q4 => ?_)
  refine CG_putFp (own := RX10) (C := RX10) (T := TX10) (N := 13) (ty0 := tyX10) (ty := .array .int) (ci := 10) (v := .ref q4) (fs' := [.ref q1, .ref q2, .ref q3, .ref q4, .null, .null, .null, .null, .int 0, .int 0, .int 0, .int 0, .int 0]) [(q4, .inl (E 0, 16, .inl (fun _ => 0))), (q3, .inl (E 0, 16, .inl (fun _ => 0))), (q2, .inl (E 0, 16, .inl (fun _ => 0))), (q1, .inl (E 0, 16, .inl (fun _ => 0)))] 3 rfl rfl iX10 tyX10_ok nmX10 rfl (by decide) cw_f_X10_21 rfl rfl (by decide +kernel) rfl rfl (Nat.le_of_ble_eq_true rfl) rfl dX10_init_33 ?_
  refine CG_aload_n 0 rfl rfl dX10_init_36 ?_
  refine CG_bipush (v := 6) (by decide) dX10_init_37 ?_
  refine CG_newa (at_ := .int) (ty := .int) (N := 6) (a0 := (6, .inl (fun _ => 0))) 0 (fun _ => rfl) rfl cw_a_int (fun _ => rfl) (by decide) (by decide) (Nat.le_of_ble_eq_true rfl) (Nat.le_of_ble_eq_true rfl) (Nat.le_of_ble_eq_true rfl) dX10_init_39 (fun q5 => ?_)
  refine CG_putFp (own := RX10) (C := RX10) (T := TX10) (N := 13) (ty0 := tyX10) (ty := .array .int) (ci := 10) (v := .ref q5) (fs' := [.ref q1, .ref q2, .ref q3, .ref q4, .ref q5, .null, .null, .null, .int 0, .int 0, .int 0, .int 0, .int 0]) [(q5, .inl (E 0, 6, .inl (fun _ => 0))), (q4, .inl (E 0, 16, .inl (fun _ => 0))), (q3, .inl (E 0, 16, .inl (fun _ => 0))), (q2, .inl (E 0, 16, .inl (fun _ => 0))), (q1, .inl (E 0, 16, .inl (fun _ => 0)))] 4 rfl rfl iX10 tyX10_ok nmX10 rfl (by decide) cw_f_X10_24 rfl rfl (by decide +kernel) rfl rfl (Nat.le_of_ble_eq_true rfl) rfl dX10_init_41 ?_
  refine CG_aload_n 0 rfl rfl dX10_init_44 ?_
  refine CG_bipush (v := 8) (by decide) dX10_init_45 ?_
  refine CG_newa (at_ := .int) (ty := .int) (N := 8) (a0 := (8, .inl (fun _ => 0))) 0 (fun _ => rfl) rfl cw_a_int (fun _ => rfl) (by decide) (by decide) (Nat.le_of_ble_eq_true rfl) (Nat.le_of_ble_eq_true rfl) (Nat.le_of_ble_eq_true rfl) dX10_init_47 (fun q6 => ?_)
  refine CG_putFp (own := RX10) (C := RX10) (T := TX10) (N := 13) (ty0 := tyX10) (ty := .array .int) (ci := 10) (v := .ref q6) (fs' := [.ref q1, .ref q2, .ref q3, .ref q4, .ref q5, .ref q6, .null, .null, .int 0, .int 0, .int 0, .int 0, .int 0]) [(q6, .inl (E 0, 8, .inl (fun _ => 0))), (q5, .inl (E 0, 6, .inl (fun _ => 0))), (q4, .inl (E 0, 16, .inl (fun _ => 0))), (q3, .inl (E 0, 16, .inl (fun _ => 0))), (q2, .inl (E 0, 16, .inl (fun _ => 0))), (q1, .inl (E 0, 16, .inl (fun _ => 0)))] 5 rfl rfl iX10 tyX10_ok nmX10 rfl (by decide) cw_f_X10_27 rfl rfl (by decide +kernel) rfl rfl (Nat.le_of_ble_eq_true rfl) rfl dX10_init_49 ?_
  refine CG_aload_n 0 rfl rfl dX10_init_52 ?_
  refine CG_bipush (v := 8) (by decide) dX10_init_53 ?_
  refine CG_newa (at_ := .int) (ty := .int) (N := 8) (a0 := (8, .inl (fun _ => 0))) 0 (fun _ => rfl) rfl cw_a_int (fun _ => rfl) (by decide) (by decide) (Nat.le_of_ble_eq_true rfl) (Nat.le_of_ble_eq_true rfl) (Nat.le_of_ble_eq_true rfl) dX10_init_55 (fun q7 => ?_)
  refine CG_putFp (own := RX10) (C := RX10) (T := TX10) (N := 13) (ty0 := tyX10) (ty := .array .int) (ci := 10) (v := .ref q7) (fs' := [.ref q1, .ref q2, .ref q3, .ref q4, .ref q5, .ref q6, .ref q7, .null, .int 0, .int 0, .int 0, .int 0, .int 0]) [(q7, .inl (E 0, 8, .inl (fun _ => 0))), (q6, .inl (E 0, 8, .inl (fun _ => 0))), (q5, .inl (E 0, 6, .inl (fun _ => 0))), (q4, .inl (E 0, 16, .inl (fun _ => 0))), (q3, .inl (E 0, 16, .inl (fun _ => 0))), (q2, .inl (E 0, 16, .inl (fun _ => 0))), (q1, .inl (E 0, 16, .inl (fun _ => 0)))] 6 rfl rfl iX10 tyX10_ok nmX10 rfl (by decide) cw_f_X10_30 rfl rfl (by decide +kernel) rfl rfl (Nat.le_of_ble_eq_true rfl) rfl dX10_init_57 ?_
  refine CG_aload_n 0 rfl rfl dX10_init_60 ?_
  refine CG_bipush (v := 8) (by decide) dX10_init_61 ?_
  refine CG_newa (at_ := .int) (ty := .int) (N := 8) (a0 := (8, .inl (fun _ => 0))) 0 (fun _ => rfl) rfl cw_a_int (fun _ => rfl) (by decide) (by decide) (Nat.le_of_ble_eq_true rfl) (Nat.le_of_ble_eq_true rfl) (Nat.le_of_ble_eq_true rfl) dX10_init_63 (fun q8 => ?_)
  refine CG_putFp (own := RX10) (C := RX10) (T := TX10) (N := 13) (ty0 := tyX10) (ty := .array .int) (ci := 10) (v := .ref q8) (fs' := [.ref q1, .ref q2, .ref q3, .ref q4, .ref q5, .ref q6, .ref q7, .ref q8, .int 0, .int 0, .int 0, .int 0, .int 0]) [(q8, .inl (E 0, 8, .inl (fun _ => 0))), (q7, .inl (E 0, 8, .inl (fun _ => 0))), (q6, .inl (E 0, 8, .inl (fun _ => 0))), (q5, .inl (E 0, 6, .inl (fun _ => 0))), (q4, .inl (E 0, 16, .inl (fun _ => 0))), (q3, .inl (E 0, 16, .inl (fun _ => 0))), (q2, .inl (E 0, 16, .inl (fun _ => 0))), (q1, .inl (E 0, 16, .inl (fun _ => 0)))] 7 rfl rfl iX10 tyX10_ok nmX10 rfl (by decide) cw_f_X10_33 rfl rfl (by decide +kernel) rfl rfl (Nat.le_of_ble_eq_true rfl) rfl dX10_init_65 ?_
  refine CG_aload_n 0 rfl rfl dX10_init_68 ?_
  refine CG_iconst (v := 0) (by decide) dX10_init_69 ?_
  refine CG_putp (own := RX10) (C := RX10) (T := TX10) (N := 13) (ty0 := tyX10) (ty := .int) (ci := 10) (v := .int 0) (fs' := [.ref q1, .ref q2, .ref q3, .ref q4, .ref q5, .ref q6, .ref q7, .ref q8, .int 0, .int 0, .int 0, .int 0, .int 0]) [(q8, .inl (E 0, 8, .inl (fun _ => 0))), (q7, .inl (E 0, 8, .inl (fun _ => 0))), (q6, .inl (E 0, 8, .inl (fun _ => 0))), (q5, .inl (E 0, 6, .inl (fun _ => 0))), (q4, .inl (E 0, 16, .inl (fun _ => 0))), (q3, .inl (E 0, 16, .inl (fun _ => 0))), (q2, .inl (E 0, 16, .inl (fun _ => 0))), (q1, .inl (E 0, 16, .inl (fun _ => 0)))] 8 rfl iX10 tyX10_ok nmX10 rfl (by decide) cw_f_X10_36 rfl rfl (by decide +kernel) rfl rfl (Nat.le_of_ble_eq_true rfl) rfl dX10_init_70 ?_
  refine CG_aload_n 0 rfl rfl dX10_init_73 ?_
  refine CG_iconst (v := 0) (by decide) dX10_init_74 ?_
  refine CG_putp (own := RX10) (C := RX10) (T := TX10) (N := 13) (ty0 := tyX10) (ty := .int) (ci := 10) (v := .int 0) (fs' := [.ref q1, .ref q2, .ref q3, .ref q4, .ref q5, .ref q6, .ref q7, .ref q8, .int 0, .int 0, .int 0, .int 0, .int 0]) [(q8, .inl (E 0, 8, .inl (fun _ => 0))), (q7, .inl (E 0, 8, .inl (fun _ => 0))), (q6, .inl (E 0, 8, .inl (fun _ => 0))), (q5, .inl (E 0, 6, .inl (fun _ => 0))), (q4, .inl (E 0, 16, .inl (fun _ => 0))), (q3, .inl (E 0, 16, .inl (fun _ => 0))), (q2, .inl (E 0, 16, .inl (fun _ => 0))), (q1, .inl (E 0, 16, .inl (fun _ => 0)))] 9 rfl iX10 tyX10_ok nmX10 rfl (by decide) cw_f_X10_40 rfl rfl (by decide +kernel) rfl rfl (Nat.le_of_ble_eq_true rfl) rfl dX10_init_75 ?_
  refine CG_aload_n 0 rfl rfl dX10_init_78 ?_
  refine CG_iconst (v := 0) (by decide) dX10_init_79 ?_
  refine CG_putp (own := RX10) (C := RX10) (T := TX10) (N := 13) (ty0 := tyX10) (ty := .int) (ci := 10) (v := .int 0) (fs' := [.ref q1, .ref q2, .ref q3, .ref q4, .ref q5, .ref q6, .ref q7, .ref q8, .int 0, .int 0, .int 0, .int 0, .int 0]) [(q8, .inl (E 0, 8, .inl (fun _ => 0))), (q7, .inl (E 0, 8, .inl (fun _ => 0))), (q6, .inl (E 0, 8, .inl (fun _ => 0))), (q5, .inl (E 0, 6, .inl (fun _ => 0))), (q4, .inl (E 0, 16, .inl (fun _ => 0))), (q3, .inl (E 0, 16, .inl (fun _ => 0))), (q2, .inl (E 0, 16, .inl (fun _ => 0))), (q1, .inl (E 0, 16, .inl (fun _ => 0)))] 10 rfl iX10 tyX10_ok nmX10 rfl (by decide) cw_f_X10_43 rfl rfl (by decide +kernel) rfl rfl (Nat.le_of_ble_eq_true rfl) rfl dX10_init_80 ?_
  refine CG_aload_n 0 rfl rfl dX10_init_83 ?_
  refine CG_iconst (v := 0) (by decide) dX10_init_84 ?_
  refine CG_putp (own := RX10) (C := RX10) (T := TX10) (N := 13) (ty0 := tyX10) (ty := .int) (ci := 10) (v := .int 0) (fs' := [.ref q1, .ref q2, .ref q3, .ref q4, .ref q5, .ref q6, .ref q7, .ref q8, .int 0, .int 0, .int 0, .int 0, .int 0]) [(q8, .inl (E 0, 8, .inl (fun _ => 0))), (q7, .inl (E 0, 8, .inl (fun _ => 0))), (q6, .inl (E 0, 8, .inl (fun _ => 0))), (q5, .inl (E 0, 6, .inl (fun _ => 0))), (q4, .inl (E 0, 16, .inl (fun _ => 0))), (q3, .inl (E 0, 16, .inl (fun _ => 0))), (q2, .inl (E 0, 16, .inl (fun _ => 0))), (q1, .inl (E 0, 16, .inl (fun _ => 0)))] 11 rfl iX10 tyX10_ok nmX10 rfl (by decide) cw_f_X10_46 rfl rfl (by decide +kernel) rfl rfl (Nat.le_of_ble_eq_true rfl) rfl dX10_init_85 ?_
  refine CG_aload_n 0 rfl rfl dX10_init_88 ?_
  refine CG_iconst (v := (-1)) (by decide) dX10_init_89 ?_
  refine CG_putp (own := RX10) (C := RX10) (T := TX10) (N := 13) (ty0 := tyX10) (ty := .int) (ci := 10) (v := .int (-1)) (fs' := [.ref q1, .ref q2, .ref q3, .ref q4, .ref q5, .ref q6, .ref q7, .ref q8, .int 0, .int 0, .int 0, .int 0, .int (-1)]) [(q8, .inl (E 0, 8, .inl (fun _ => 0))), (q7, .inl (E 0, 8, .inl (fun _ => 0))), (q6, .inl (E 0, 8, .inl (fun _ => 0))), (q5, .inl (E 0, 6, .inl (fun _ => 0))), (q4, .inl (E 0, 16, .inl (fun _ => 0))), (q3, .inl (E 0, 16, .inl (fun _ => 0))), (q2, .inl (E 0, 16, .inl (fun _ => 0))), (q1, .inl (E 0, 16, .inl (fun _ => 0)))] 12 rfl iX10 tyX10_ok nmX10 rfl (by decide) cw_f_X10_49 rfl rfl (by decide +kernel) rfl rfl (Nat.le_of_ble_eq_true rfl) rfl dX10_init_90 ?_
  exact CG_ret dX10_init_93 ⟨fun k => [0, q1, q2, q3, q4, q5, q6, q7, q8].getD k 0, rfl⟩

def bX6 (E : Nat → ClassId) (h0 : Nat) (g : Nat → Nat) : va_W := [((g 4), .inl (E 0, 30, .inl (fun _ => 0))), ((g 3), .inl (E 0, 6, .inl (fun _ => 0))), ((g 2), .inl (E 0, 6, .inl (fun _ => 0))), ((g 1), .inl (E 0, 16, .inl (fun _ => 0))), (h0, .inr (6, [.ref (g 1), .ref (g 2), .ref (g 3), .ref (g 4), .int 0, .int 20, .int 0, .int 0, .int 283]))]

theorem ct_X6 {D : va_G} {E : Nat → ClassId} {A : Nat → Prop} (h0 : Nat) (wr : va_W) : CMt yX6_init cX6_init 1 0 4 58 [.ref h0] D E A ((h0, .inr (6, [.null, .null, .null, .null, .int 0, .int 0, .int 0, .int 0, .int 0])) :: wr) (fun ws => ∃ g : Nat → Nat, ws = bX6 E h0 g ++ wr) := by
  refine CMt.intro (by decide +kernel) (Nat.le_of_ble_eq_true rfl) (lv := [(0, .ref h0)]) rfl ?_
  refine CG_aload_n 0 rfl rfl dX6_init_0 ?_
  refine CG_obj rfl cw_o_X6_5 cw_oi cw_oc dX6_init_1 ?_
  refine CG_aload_n 0 rfl rfl dX6_init_4 ?_
  refine CG_bipush (v := 16) (by decide) dX6_init_5 ?_
  refine CG_newa (at_ := .int) (ty := .int) (N := 16) (a0 := (16, .inl (fun _ => 0))) 0 (fun _ => rfl) rfl cw_a_int (fun _ => rfl) (by decide) (by decide) (Nat.le_of_ble_eq_true rfl) (Nat.le_of_ble_eq_true rfl) (Nat.le_of_ble_eq_true rfl) dX6_init_7 (fun q1 => ?_)
  refine CG_putFp (own := RX6) (C := RX6) (T := TX6) (N := 9) (ty0 := tyX6) (ty := .array .int) (ci := 6) (v := .ref q1) (fs' := [.ref q1, .null, .null, .null, .int 0, .int 0, .int 0, .int 0, .int 0]) [(q1, .inl (E 0, 16, .inl (fun _ => 0)))] 0 rfl rfl iX6 tyX6_ok nmX6 rfl (by decide) cw_f_X6_11 rfl rfl (by decide +kernel) rfl rfl (Nat.le_of_ble_eq_true rfl) rfl dX6_init_9 ?_
  refine CG_aload_n 0 rfl rfl dX6_init_12 ?_
  refine CG_bipush (v := 6) (by decide) dX6_init_13 ?_
  refine CG_newa (at_ := .int) (ty := .int) (N := 6) (a0 := (6, .inl (fun _ => 0))) 0 (fun _ => rfl) rfl cw_a_int (fun _ => rfl) (by decide) (by decide) (Nat.le_of_ble_eq_true rfl) (Nat.le_of_ble_eq_true rfl) (Nat.le_of_ble_eq_true rfl) dX6_init_15 (fun q2 => ?_)
  refine CG_putFp (own := RX6) (C := RX6) (T := TX6) (N := 9) (ty0 := tyX6) (ty := .array .int) (ci := 6) (v := .ref q2) (fs' := [.ref q1, .ref q2, .null, .null, .int 0, .int 0, .int 0, .int 0, .int 0]) [(q2, .inl (E 0, 6, .inl (fun _ => 0))), (q1, .inl (E 0, 16, .inl (fun _ => 0)))] 1 rfl rfl iX6 tyX6_ok nmX6 rfl (by decide) cw_f_X6_15 rfl rfl (by decide +kernel) rfl rfl (Nat.le_of_ble_eq_true rfl) rfl dX6_init_17 ?_
  refine CG_aload_n 0 rfl rfl dX6_init_20 ?_
  refine CG_bipush (v := 6) (by decide) dX6_init_21 ?_
  refine CG_newa (at_ := .int) (ty := .int) (N := 6) (a0 := (6, .inl (fun _ => 0))) 0 (fun _ => rfl) rfl cw_a_int (fun _ => rfl) (by decide) (by decide) (Nat.le_of_ble_eq_true rfl) (Nat.le_of_ble_eq_true rfl) (Nat.le_of_ble_eq_true rfl) dX6_init_23 (fun q3 => ?_)
  refine CG_putFp (own := RX6) (C := RX6) (T := TX6) (N := 9) (ty0 := tyX6) (ty := .array .int) (ci := 6) (v := .ref q3) (fs' := [.ref q1, .ref q2, .ref q3, .null, .int 0, .int 0, .int 0, .int 0, .int 0]) [(q3, .inl (E 0, 6, .inl (fun _ => 0))), (q2, .inl (E 0, 6, .inl (fun _ => 0))), (q1, .inl (E 0, 16, .inl (fun _ => 0)))] 2 rfl rfl iX6 tyX6_ok nmX6 rfl (by decide) cw_f_X6_18 rfl rfl (by decide +kernel) rfl rfl (Nat.le_of_ble_eq_true rfl) rfl dX6_init_25 ?_
  refine CG_aload_n 0 rfl rfl dX6_init_28 ?_
  refine CG_bipush (v := 30) (by decide) dX6_init_29 ?_
  refine CG_newa (at_ := .int) (ty := .int) (N := 30) (a0 := (30, .inl (fun _ => 0))) 0 (fun _ => rfl) rfl cw_a_int (fun _ => rfl) (by decide) (by decide) (Nat.le_of_ble_eq_true rfl) (Nat.le_of_ble_eq_true rfl) (Nat.le_of_ble_eq_true rfl) dX6_init_31 (fun q4 => ?_)
  refine CG_putFp (own := RX6) (C := RX6) (T := TX6) (N := 9) (ty0 := tyX6) (ty := .array .int) (ci := 6) (v := .ref q4) (fs' := [.ref q1, .ref q2, .ref q3, .ref q4, .int 0, .int 0, .int 0, .int 0, .int 0]) [(q4, .inl (E 0, 30, .inl (fun _ => 0))), (q3, .inl (E 0, 6, .inl (fun _ => 0))), (q2, .inl (E 0, 6, .inl (fun _ => 0))), (q1, .inl (E 0, 16, .inl (fun _ => 0)))] 3 rfl rfl iX6 tyX6_ok nmX6 rfl (by decide) cw_f_X6_21 rfl rfl (by decide +kernel) rfl rfl (Nat.le_of_ble_eq_true rfl) rfl dX6_init_33 ?_
  refine CG_aload_n 0 rfl rfl dX6_init_36 ?_
  refine CG_iconst (v := 0) (by decide) dX6_init_37 ?_
  refine CG_putp (own := RX6) (C := RX6) (T := TX6) (N := 9) (ty0 := tyX6) (ty := .int) (ci := 6) (v := .int 0) (fs' := [.ref q1, .ref q2, .ref q3, .ref q4, .int 0, .int 0, .int 0, .int 0, .int 0]) [(q4, .inl (E 0, 30, .inl (fun _ => 0))), (q3, .inl (E 0, 6, .inl (fun _ => 0))), (q2, .inl (E 0, 6, .inl (fun _ => 0))), (q1, .inl (E 0, 16, .inl (fun _ => 0)))] 4 rfl iX6 tyX6_ok nmX6 rfl (by decide) cw_f_X6_24 rfl rfl (by decide +kernel) rfl rfl (Nat.le_of_ble_eq_true rfl) rfl dX6_init_38 ?_
  refine CG_aload_n 0 rfl rfl dX6_init_41 ?_
  refine CG_bipush (v := 20) (by decide) dX6_init_42 ?_
  refine CG_putp (own := RX6) (C := RX6) (T := TX6) (N := 9) (ty0 := tyX6) (ty := .int) (ci := 6) (v := .int 20) (fs' := [.ref q1, .ref q2, .ref q3, .ref q4, .int 0, .int 20, .int 0, .int 0, .int 0]) [(q4, .inl (E 0, 30, .inl (fun _ => 0))), (q3, .inl (E 0, 6, .inl (fun _ => 0))), (q2, .inl (E 0, 6, .inl (fun _ => 0))), (q1, .inl (E 0, 16, .inl (fun _ => 0)))] 5 rfl iX6 tyX6_ok nmX6 rfl (by decide) cw_f_X6_28 rfl rfl (by decide +kernel) rfl rfl (Nat.le_of_ble_eq_true rfl) rfl dX6_init_44 ?_
  refine CG_aload_n 0 rfl rfl dX6_init_47 ?_
  refine CG_iconst (v := 0) (by decide) dX6_init_48 ?_
  refine CG_putp (own := RX6) (C := RX6) (T := TX6) (N := 9) (ty0 := tyX6) (ty := .int) (ci := 6) (v := .int 0) (fs' := [.ref q1, .ref q2, .ref q3, .ref q4, .int 0, .int 20, .int 0, .int 0, .int 0]) [(q4, .inl (E 0, 30, .inl (fun _ => 0))), (q3, .inl (E 0, 6, .inl (fun _ => 0))), (q2, .inl (E 0, 6, .inl (fun _ => 0))), (q1, .inl (E 0, 16, .inl (fun _ => 0)))] 6 rfl iX6 tyX6_ok nmX6 rfl (by decide) cw_f_X6_31 rfl rfl (by decide +kernel) rfl rfl (Nat.le_of_ble_eq_true rfl) rfl dX6_init_49 ?_
  refine CG_aload_n 0 rfl rfl dX6_init_52 ?_
  refine CG_iconst (v := 0) (by decide) dX6_init_53 ?_
  refine CG_putp (own := RX6) (C := RX6) (T := TX6) (N := 9) (ty0 := tyX6) (ty := .int) (ci := 6) (v := .int 0) (fs' := [.ref q1, .ref q2, .ref q3, .ref q4, .int 0, .int 20, .int 0, .int 0, .int 0]) [(q4, .inl (E 0, 30, .inl (fun _ => 0))), (q3, .inl (E 0, 6, .inl (fun _ => 0))), (q2, .inl (E 0, 6, .inl (fun _ => 0))), (q1, .inl (E 0, 16, .inl (fun _ => 0)))] 7 rfl iX6 tyX6_ok nmX6 rfl (by decide) cw_f_X6_34 rfl rfl (by decide +kernel) rfl rfl (Nat.le_of_ble_eq_true rfl) rfl dX6_init_54 ?_
  refine CG_aload_n 0 rfl rfl dX6_init_57 ?_
  refine CG_sipush (v := 283) (by decide) dX6_init_58 ?_
  refine CG_putp (own := RX6) (C := RX6) (T := TX6) (N := 9) (ty0 := tyX6) (ty := .int) (ci := 6) (v := .int 283) (fs' := [.ref q1, .ref q2, .ref q3, .ref q4, .int 0, .int 20, .int 0, .int 0, .int 283]) [(q4, .inl (E 0, 30, .inl (fun _ => 0))), (q3, .inl (E 0, 6, .inl (fun _ => 0))), (q2, .inl (E 0, 6, .inl (fun _ => 0))), (q1, .inl (E 0, 16, .inl (fun _ => 0)))] 8 rfl iX6 tyX6_ok nmX6 rfl (by decide) cw_f_X6_37 rfl rfl (by decide +kernel) rfl rfl (Nat.le_of_ble_eq_true rfl) rfl dX6_init_61 ?_
  exact CG_ret dX6_init_64 ⟨fun k => [0, q1, q2, q3, q4].getD k 0, rfl⟩

def bX7 (E : Nat → ClassId) (h0 : Nat) (g : Nat → Nat) : va_W := [((g 1), .inl (E 0, 1950, .inl (fun _ => 0))), (h0, .inr (7, [.ref (g 1), .int 0, .int 0]))]

theorem ct_X7 {D : va_G} {E : Nat → ClassId} {A : Nat → Prop} (h0 : Nat) (wr : va_W) : CMt yX7_init cX7_init 1 0 1 1950 [.ref h0] D E A ((h0, .inr (7, [.null, .int 0, .int 0])) :: wr) (fun ws => ∃ g : Nat → Nat, ws = bX7 E h0 g ++ wr) := by
  refine CMt.intro (by decide +kernel) (Nat.le_of_ble_eq_true rfl) (lv := [(0, .ref h0)]) rfl ?_
  refine CG_aload_n 0 rfl rfl dX7_init_0 ?_
  refine CG_obj rfl cw_o_X7_1 cw_oi cw_oc dX7_init_1 ?_
  refine CG_aload_n 0 rfl rfl dX7_init_4 ?_
  refine CG_sipush (v := 1950) (by decide) dX7_init_5 ?_
  refine CG_newa (at_ := .int) (ty := .int) (N := 1950) (a0 := (1950, .inl (fun _ => 0))) 0 (fun _ => rfl) rfl cw_a_int (fun _ => rfl) (by decide) (by decide) (Nat.le_of_ble_eq_true rfl) (Nat.le_of_ble_eq_true rfl) (Nat.le_of_ble_eq_true rfl) dX7_init_8 (fun q1 => ?_)
  refine CG_putFp (own := RX7) (C := RX7) (T := TX7) (N := 3) (ty0 := tyX7) (ty := .array .int) (ci := 7) (v := .ref q1) (fs' := [.ref q1, .int 0, .int 0]) [(q1, .inl (E 0, 1950, .inl (fun _ => 0)))] 0 rfl rfl iX7 tyX7_ok nmX7 rfl (by decide) cw_f_X7_11 rfl rfl (by decide +kernel) rfl rfl (Nat.le_of_ble_eq_true rfl) rfl dX7_init_10 ?_
  refine CG_aload_n 0 rfl rfl dX7_init_13 ?_
  refine CG_iconst (v := 0) (by decide) dX7_init_14 ?_
  refine CG_putp (own := RX7) (C := RX7) (T := TX7) (N := 3) (ty0 := tyX7) (ty := .int) (ci := 7) (v := .int 0) (fs' := [.ref q1, .int 0, .int 0]) [(q1, .inl (E 0, 1950, .inl (fun _ => 0)))] 1 rfl iX7 tyX7_ok nmX7 rfl (by decide) cw_f_X7_15 rfl rfl (by decide +kernel) rfl rfl (Nat.le_of_ble_eq_true rfl) rfl dX7_init_15 ?_
  refine CG_aload_n 0 rfl rfl dX7_init_18 ?_
  refine CG_iconst (v := 0) (by decide) dX7_init_19 ?_
  refine CG_putp (own := RX7) (C := RX7) (T := TX7) (N := 3) (ty0 := tyX7) (ty := .int) (ci := 7) (v := .int 0) (fs' := [.ref q1, .int 0, .int 0]) [(q1, .inl (E 0, 1950, .inl (fun _ => 0)))] 2 rfl iX7 tyX7_ok nmX7 rfl (by decide) cw_f_X7_19 rfl rfl (by decide +kernel) rfl rfl (Nat.le_of_ble_eq_true rfl) rfl dX7_init_20 ?_
  exact CG_ret dX7_init_23 ⟨fun k => [0, q1].getD k 0, rfl⟩

def bX8 (E : Nat → ClassId) (h0 : Nat) (g : Nat → Nat) : va_W := [((g 4), .inl (E 0, 301, .inl (fun _ => 0))), ((g 3), .inl (E 0, 301, .inl (fun _ => 0))), ((g 2), .inl (E 0, 301, .inl (fun _ => 0))), ((g 1), .inl (E 0, 300, .inl (fun _ => 0))), (h0, .inr (8, [.ref (g 1), .int 0, .ref (g 2), .ref (g 3), .ref (g 4), .int 0]))]

theorem ct_X8 {D : va_G} {E : Nat → ClassId} {A : Nat → Prop} (h0 : Nat) (wr : va_W) : CMt yX8_init cX8_init 1 0 4 1203 [.ref h0] D E A ((h0, .inr (8, [.null, .int 0, .null, .null, .null, .int 0])) :: wr) (fun ws => ∃ g : Nat → Nat, ws = bX8 E h0 g ++ wr) := by
  refine CMt.intro (by decide +kernel) (Nat.le_of_ble_eq_true rfl) (lv := [(0, .ref h0)]) rfl ?_
  refine CG_aload_n 0 rfl rfl dX8_init_0 ?_
  refine CG_obj rfl cw_o_X8_3 cw_oi cw_oc dX8_init_1 ?_
  refine CG_aload_n 0 rfl rfl dX8_init_4 ?_
  refine CG_sipush (v := 300) (by decide) dX8_init_5 ?_
  refine CG_newa (at_ := .int) (ty := .int) (N := 300) (a0 := (300, .inl (fun _ => 0))) 0 (fun _ => rfl) rfl cw_a_int (fun _ => rfl) (by decide) (by decide) (Nat.le_of_ble_eq_true rfl) (Nat.le_of_ble_eq_true rfl) (Nat.le_of_ble_eq_true rfl) dX8_init_8 (fun q1 => ?_)
  refine CG_putFp (own := RX8) (C := RX8) (T := TX8) (N := 6) (ty0 := tyX8) (ty := .array .int) (ci := 8) (v := .ref q1) (fs' := [.ref q1, .int 0, .null, .null, .null, .int 0]) [(q1, .inl (E 0, 300, .inl (fun _ => 0)))] 0 rfl rfl iX8 tyX8_ok nmX8 rfl (by decide) cw_f_X8_9 rfl rfl (by decide +kernel) rfl rfl (Nat.le_of_ble_eq_true rfl) rfl dX8_init_10 ?_
  refine CG_aload_n 0 rfl rfl dX8_init_13 ?_
  refine CG_iconst (v := 0) (by decide) dX8_init_14 ?_
  refine CG_putp (own := RX8) (C := RX8) (T := TX8) (N := 6) (ty0 := tyX8) (ty := .int) (ci := 8) (v := .int 0) (fs' := [.ref q1, .int 0, .null, .null, .null, .int 0]) [(q1, .inl (E 0, 300, .inl (fun _ => 0)))] 1 rfl iX8 tyX8_ok nmX8 rfl (by decide) cw_f_X8_15 rfl rfl (by decide +kernel) rfl rfl (Nat.le_of_ble_eq_true rfl) rfl dX8_init_15 ?_
  refine CG_aload_n 0 rfl rfl dX8_init_18 ?_
  refine CG_sipush (v := 301) (by decide) dX8_init_19 ?_
  refine CG_newa (at_ := .int) (ty := .int) (N := 301) (a0 := (301, .inl (fun _ => 0))) 0 (fun _ => rfl) rfl cw_a_int (fun _ => rfl) (by decide) (by decide) (Nat.le_of_ble_eq_true rfl) (Nat.le_of_ble_eq_true rfl) (Nat.le_of_ble_eq_true rfl) dX8_init_22 (fun q2 => ?_)
  refine CG_putFp (own := RX8) (C := RX8) (T := TX8) (N := 6) (ty0 := tyX8) (ty := .array .int) (ci := 8) (v := .ref q2) (fs' := [.ref q1, .int 0, .ref q2, .null, .null, .int 0]) [(q2, .inl (E 0, 301, .inl (fun _ => 0))), (q1, .inl (E 0, 300, .inl (fun _ => 0)))] 2 rfl rfl iX8 tyX8_ok nmX8 rfl (by decide) cw_f_X8_19 rfl rfl (by decide +kernel) rfl rfl (Nat.le_of_ble_eq_true rfl) rfl dX8_init_24 ?_
  refine CG_aload_n 0 rfl rfl dX8_init_27 ?_
  refine CG_sipush (v := 301) (by decide) dX8_init_28 ?_
  refine CG_newa (at_ := .int) (ty := .int) (N := 301) (a0 := (301, .inl (fun _ => 0))) 0 (fun _ => rfl) rfl cw_a_int (fun _ => rfl) (by decide) (by decide) (Nat.le_of_ble_eq_true rfl) (Nat.le_of_ble_eq_true rfl) (Nat.le_of_ble_eq_true rfl) dX8_init_31 (fun q3 => ?_)
  refine CG_putFp (own := RX8) (C := RX8) (T := TX8) (N := 6) (ty0 := tyX8) (ty := .array .int) (ci := 8) (v := .ref q3) (fs' := [.ref q1, .int 0, .ref q2, .ref q3, .null, .int 0]) [(q3, .inl (E 0, 301, .inl (fun _ => 0))), (q2, .inl (E 0, 301, .inl (fun _ => 0))), (q1, .inl (E 0, 300, .inl (fun _ => 0)))] 3 rfl rfl iX8 tyX8_ok nmX8 rfl (by decide) cw_f_X8_22 rfl rfl (by decide +kernel) rfl rfl (Nat.le_of_ble_eq_true rfl) rfl dX8_init_33 ?_
  refine CG_aload_n 0 rfl rfl dX8_init_36 ?_
  refine CG_sipush (v := 301) (by decide) dX8_init_37 ?_
  refine CG_newa (at_ := .int) (ty := .int) (N := 301) (a0 := (301, .inl (fun _ => 0))) 0 (fun _ => rfl) rfl cw_a_int (fun _ => rfl) (by decide) (by decide) (Nat.le_of_ble_eq_true rfl) (Nat.le_of_ble_eq_true rfl) (Nat.le_of_ble_eq_true rfl) dX8_init_40 (fun q4 => ?_)
  refine CG_putFp (own := RX8) (C := RX8) (T := TX8) (N := 6) (ty0 := tyX8) (ty := .array .int) (ci := 8) (v := .ref q4) (fs' := [.ref q1, .int 0, .ref q2, .ref q3, .ref q4, .int 0]) [(q4, .inl (E 0, 301, .inl (fun _ => 0))), (q3, .inl (E 0, 301, .inl (fun _ => 0))), (q2, .inl (E 0, 301, .inl (fun _ => 0))), (q1, .inl (E 0, 300, .inl (fun _ => 0)))] 4 rfl rfl iX8 tyX8_ok nmX8 rfl (by decide) cw_f_X8_25 rfl rfl (by decide +kernel) rfl rfl (Nat.le_of_ble_eq_true rfl) rfl dX8_init_42 ?_
  refine CG_aload_n 0 rfl rfl dX8_init_45 ?_
  refine CG_iconst (v := 0) (by decide) dX8_init_46 ?_
  refine CG_putp (own := RX8) (C := RX8) (T := TX8) (N := 6) (ty0 := tyX8) (ty := .int) (ci := 8) (v := .int 0) (fs' := [.ref q1, .int 0, .ref q2, .ref q3, .ref q4, .int 0]) [(q4, .inl (E 0, 301, .inl (fun _ => 0))), (q3, .inl (E 0, 301, .inl (fun _ => 0))), (q2, .inl (E 0, 301, .inl (fun _ => 0))), (q1, .inl (E 0, 300, .inl (fun _ => 0)))] 5 rfl iX8 tyX8_ok nmX8 rfl (by decide) cw_f_X8_28 rfl rfl (by decide +kernel) rfl rfl (Nat.le_of_ble_eq_true rfl) rfl dX8_init_47 ?_
  exact CG_ret dX8_init_50 ⟨fun k => [0, q1, q2, q3, q4].getD k 0, rfl⟩

def bX5 (E : Nat → ClassId) (h0 a1 : Nat) (g : Nat → Nat) : va_W := [(h0, .inr (5, [.ref a1, .null, .int 0, .int (-1), .int (-1), .int (-1)]))]

theorem ct_X5 {D : va_G} {E : Nat → ClassId} {A : Nat → Prop} (h0 a1 : Nat) (wr : va_W) : CMt yX5_init cX5_init 2 0 0 0 [.ref h0, .ref a1] D E A ((h0, .inr (5, [.null, .null, .int 0, .int 0, .int 0, .int 0])) :: wr) (fun ws => ∃ g : Nat → Nat, ws = bX5 E h0 a1 g ++ wr) := by
  refine CMt.intro (by decide +kernel) (Nat.le_of_ble_eq_true rfl) (lv := [(0, .ref h0), (1, .ref a1)]) rfl ?_
  refine CG_aload_n 0 rfl rfl dX5_init_0 ?_
  refine CG_obj rfl cw_o_X5_3 cw_oi cw_oc dX5_init_1 ?_
  refine CG_aload_n 0 rfl rfl dX5_init_4 ?_
  refine CG_null dX5_init_5 ?_
  refine CG_putp (own := RX5) (C := RX5) (T := TX5) (N := 6) (ty0 := tyX5) (ty := .object "LiquoriceRoads$Text") (ci := 5) (v := .null) (fs' := [.null, .null, .int 0, .int 0, .int 0, .int 0]) [] 1 rfl iX5 tyX5_ok nmX5 rfl (by decide) cw_f_X5_9 rfl rfl (by decide +kernel) rfl rfl (Nat.le_of_ble_eq_true rfl) rfl dX5_init_6 ?_
  refine CG_aload_n 0 rfl rfl dX5_init_9 ?_
  refine CG_iconst (v := 0) (by decide) dX5_init_10 ?_
  refine CG_putp (own := RX5) (C := RX5) (T := TX5) (N := 6) (ty0 := tyX5) (ty := .int) (ci := 5) (v := .int 0) (fs' := [.null, .null, .int 0, .int 0, .int 0, .int 0]) [] 2 rfl iX5 tyX5_ok nmX5 rfl (by decide) cw_f_X5_15 rfl rfl (by decide +kernel) rfl rfl (Nat.le_of_ble_eq_true rfl) rfl dX5_init_11 ?_
  refine CG_aload_n 0 rfl rfl dX5_init_14 ?_
  refine CG_iconst (v := (-1)) (by decide) dX5_init_15 ?_
  refine CG_putp (own := RX5) (C := RX5) (T := TX5) (N := 6) (ty0 := tyX5) (ty := .int) (ci := 5) (v := .int (-1)) (fs' := [.null, .null, .int 0, .int (-1), .int 0, .int 0]) [] 3 rfl iX5 tyX5_ok nmX5 rfl (by decide) cw_f_X5_19 rfl rfl (by decide +kernel) rfl rfl (Nat.le_of_ble_eq_true rfl) rfl dX5_init_16 ?_
  refine CG_aload_n 0 rfl rfl dX5_init_19 ?_
  refine CG_iconst (v := (-1)) (by decide) dX5_init_20 ?_
  refine CG_putp (own := RX5) (C := RX5) (T := TX5) (N := 6) (ty0 := tyX5) (ty := .int) (ci := 5) (v := .int (-1)) (fs' := [.null, .null, .int 0, .int (-1), .int (-1), .int 0]) [] 4 rfl iX5 tyX5_ok nmX5 rfl (by decide) cw_f_X5_22 rfl rfl (by decide +kernel) rfl rfl (Nat.le_of_ble_eq_true rfl) rfl dX5_init_21 ?_
  refine CG_aload_n 0 rfl rfl dX5_init_24 ?_
  refine CG_iconst (v := (-1)) (by decide) dX5_init_25 ?_
  refine CG_putp (own := RX5) (C := RX5) (T := TX5) (N := 6) (ty0 := tyX5) (ty := .int) (ci := 5) (v := .int (-1)) (fs' := [.null, .null, .int 0, .int (-1), .int (-1), .int (-1)]) [] 5 rfl iX5 tyX5_ok nmX5 rfl (by decide) cw_f_X5_25 rfl rfl (by decide +kernel) rfl rfl (Nat.le_of_ble_eq_true rfl) rfl dX5_init_26 ?_
  refine CG_aload_n 0 rfl rfl dX5_init_29 ?_
  refine CG_aload_n 1 rfl rfl dX5_init_30 ?_
  refine CG_putFp (own := RX5) (C := RX5) (T := TX5) (N := 6) (ty0 := tyX5) (ty := .object "LiquoriceRoads$Tape") (ci := 5) (v := .ref a1) (fs' := [.ref a1, .null, .int 0, .int (-1), .int (-1), .int (-1)]) [] 0 rfl rfl iX5 tyX5_ok nmX5 rfl (by decide) cw_f_X5_28 rfl rfl (by decide +kernel) rfl rfl (Nat.le_of_ble_eq_true rfl) rfl dX5_init_31 ?_
  exact CG_ret dX5_init_34 ⟨fun k => [0].getD k 0, rfl⟩

def bX2 (E : Nat → ClassId) (h0 a1 a2 a3 : Nat) (g : Nat → Nat) : va_W := [((g 1), .inl (E 0, 64, .inl (fun _ => 0))), (h0, .inr (2, [.ref a1, .ref a2, .ref a3, .ref (g 1)]))]

theorem ct_X2 {D : va_G} {E : Nat → ClassId} {A : Nat → Prop} (h0 a1 a2 a3 : Nat) (wr : va_W) : CMt yX2_init cX2_init 4 0 1 64 [.ref h0, .ref a1, .ref a2, .ref a3] D E A ((h0, .inr (2, [.null, .null, .null, .null])) :: wr) (fun ws => ∃ g : Nat → Nat, ws = bX2 E h0 a1 a2 a3 g ++ wr) := by
  refine CMt.intro (by decide +kernel) (Nat.le_of_ble_eq_true rfl) (lv := [(0, .ref h0), (1, .ref a1), (2, .ref a2), (3, .ref a3)]) rfl ?_
  refine CG_aload_n 0 rfl rfl dX2_init_0 ?_
  refine CG_obj rfl cw_o_X2_3 cw_oi cw_oc dX2_init_1 ?_
  refine CG_aload_n 0 rfl rfl dX2_init_4 ?_
  refine CG_bipush (v := 64) (by decide) dX2_init_5 ?_
  refine CG_newa (at_ := .int) (ty := .int) (N := 64) (a0 := (64, .inl (fun _ => 0))) 0 (fun _ => rfl) rfl cw_a_int (fun _ => rfl) (by decide) (by decide) (Nat.le_of_ble_eq_true rfl) (Nat.le_of_ble_eq_true rfl) (Nat.le_of_ble_eq_true rfl) dX2_init_7 (fun q1 => ?_)
  refine CG_putFp (own := RX2) (C := RX2) (T := TX2) (N := 4) (ty0 := tyX2) (ty := .array .int) (ci := 2) (v := .ref q1) (fs' := [.null, .null, .null, .ref q1]) [(q1, .inl (E 0, 64, .inl (fun _ => 0)))] 3 rfl rfl iX2 tyX2_ok nmX2 rfl (by decide) cw_f_X2_11 rfl rfl (by decide +kernel) rfl rfl (Nat.le_of_ble_eq_true rfl) rfl dX2_init_9 ?_
  refine CG_aload_n 0 rfl rfl dX2_init_12 ?_
  refine CG_aload_n 1 rfl rfl dX2_init_13 ?_
  refine CG_putFp (own := RX2) (C := RX2) (T := TX2) (N := 4) (ty0 := tyX2) (ty := .object "LiquoriceRoads$Told") (ci := 2) (v := .ref a1) (fs' := [.ref a1, .null, .null, .ref q1]) [(q1, .inl (E 0, 64, .inl (fun _ => 0)))] 0 rfl rfl iX2 tyX2_ok nmX2 rfl (by decide) cw_f_X2_15 rfl rfl (by decide +kernel) rfl rfl (Nat.le_of_ble_eq_true rfl) rfl dX2_init_14 ?_
  refine CG_aload_n 0 rfl rfl dX2_init_17 ?_
  refine CG_aload_n 2 rfl rfl dX2_init_18 ?_
  refine CG_putFp (own := RX2) (C := RX2) (T := TX2) (N := 4) (ty0 := tyX2) (ty := .object "LiquoriceRoads$State") (ci := 2) (v := .ref a2) (fs' := [.ref a1, .ref a2, .null, .ref q1]) [(q1, .inl (E 0, 64, .inl (fun _ => 0)))] 1 rfl rfl iX2 tyX2_ok nmX2 rfl (by decide) cw_f_X2_19 rfl rfl (by decide +kernel) rfl rfl (Nat.le_of_ble_eq_true rfl) rfl dX2_init_19 ?_
  refine CG_aload_n 0 rfl rfl dX2_init_22 ?_
  refine CG_aload_n 3 rfl rfl dX2_init_23 ?_
  refine CG_putFp (own := RX2) (C := RX2) (T := TX2) (N := 4) (ty0 := tyX2) (ty := .array (.object "LiquoriceRoads$Text")) (ci := 2) (v := .ref a3) (fs' := [.ref a1, .ref a2, .ref a3, .ref q1]) [(q1, .inl (E 0, 64, .inl (fun _ => 0)))] 2 rfl rfl iX2 tyX2_ok nmX2 rfl (by decide) cw_f_X2_23 rfl rfl (by decide +kernel) rfl rfl (Nat.le_of_ble_eq_true rfl) rfl dX2_init_24 ?_
  exact CG_ret dX2_init_27 ⟨fun k => [0, q1].getD k 0, rfl⟩

def bX0 (E : Nat → ClassId) (h0 a1 a2 a3 a4 : Nat) (g : Nat → Nat) : va_W := [((g 1), .inl (E 0, 65, .inl (fun _ => 0))), (h0, .inr (0, [.ref a1, .ref a2, .ref a3, .ref a4, .ref (g 1)]))]

theorem ct_X0 {D : va_G} {E : Nat → ClassId} {A : Nat → Prop} (h0 a1 a2 a3 a4 : Nat) (wr : va_W) : CMt yX0_init cX0_init 5 0 1 65 [.ref h0, .ref a1, .ref a2, .ref a3, .ref a4] D E A ((h0, .inr (0, [.null, .null, .null, .null, .null])) :: wr) (fun ws => ∃ g : Nat → Nat, ws = bX0 E h0 a1 a2 a3 a4 g ++ wr) := by
  refine CMt.intro (by decide +kernel) (Nat.le_of_ble_eq_true rfl) (lv := [(0, .ref h0), (1, .ref a1), (2, .ref a2), (3, .ref a3), (4, .ref a4)]) rfl ?_
  refine CG_aload_n 0 rfl rfl dX0_init_0 ?_
  refine CG_obj rfl cw_o_X0_3 cw_oi cw_oc dX0_init_1 ?_
  refine CG_aload_n 0 rfl rfl dX0_init_4 ?_
  refine CG_bipush (v := 65) (by decide) dX0_init_5 ?_
  refine CG_newa (at_ := .int) (ty := .int) (N := 65) (a0 := (65, .inl (fun _ => 0))) 0 (fun _ => rfl) rfl cw_a_int (fun _ => rfl) (by decide) (by decide) (Nat.le_of_ble_eq_true rfl) (Nat.le_of_ble_eq_true rfl) (Nat.le_of_ble_eq_true rfl) dX0_init_7 (fun q1 => ?_)
  refine CG_putFp (own := RX0) (C := RX0) (T := TX0) (N := 5) (ty0 := tyX0) (ty := .array .int) (ci := 0) (v := .ref q1) (fs' := [.null, .null, .null, .null, .ref q1]) [(q1, .inl (E 0, 65, .inl (fun _ => 0)))] 4 rfl rfl iX0 tyX0_ok nmX0 rfl (by decide) cw_f_X0_11 rfl rfl (by decide +kernel) rfl rfl (Nat.le_of_ble_eq_true rfl) rfl dX0_init_9 ?_
  refine CG_aload_n 0 rfl rfl dX0_init_12 ?_
  refine CG_aload_n 1 rfl rfl dX0_init_13 ?_
  refine CG_putFp (own := RX0) (C := RX0) (T := TX0) (N := 5) (ty0 := tyX0) (ty := .object "LiquoriceRoads$Told") (ci := 0) (v := .ref a1) (fs' := [.ref a1, .null, .null, .null, .ref q1]) [(q1, .inl (E 0, 65, .inl (fun _ => 0)))] 0 rfl rfl iX0 tyX0_ok nmX0 rfl (by decide) cw_f_X0_17 rfl rfl (by decide +kernel) rfl rfl (Nat.le_of_ble_eq_true rfl) rfl dX0_init_14 ?_
  refine CG_aload_n 0 rfl rfl dX0_init_17 ?_
  refine CG_aload_n 2 rfl rfl dX0_init_18 ?_
  refine CG_putFp (own := RX0) (C := RX0) (T := TX0) (N := 5) (ty0 := tyX0) (ty := .object "LiquoriceRoads$State") (ci := 0) (v := .ref a2) (fs' := [.ref a1, .ref a2, .null, .null, .ref q1]) [(q1, .inl (E 0, 65, .inl (fun _ => 0)))] 1 rfl rfl iX0 tyX0_ok nmX0 rfl (by decide) cw_f_X0_21 rfl rfl (by decide +kernel) rfl rfl (Nat.le_of_ble_eq_true rfl) rfl dX0_init_19 ?_
  refine CG_aload_n 0 rfl rfl dX0_init_22 ?_
  refine CG_aload_n 3 rfl rfl dX0_init_23 ?_
  refine CG_putFp (own := RX0) (C := RX0) (T := TX0) (N := 5) (ty0 := tyX0) (ty := .object "LiquoriceRoads$Steps") (ci := 0) (v := .ref a3) (fs' := [.ref a1, .ref a2, .ref a3, .null, .ref q1]) [(q1, .inl (E 0, 65, .inl (fun _ => 0)))] 2 rfl rfl iX0 tyX0_ok nmX0 rfl (by decide) cw_f_X0_25 rfl rfl (by decide +kernel) rfl rfl (Nat.le_of_ble_eq_true rfl) rfl dX0_init_24 ?_
  refine CG_aload_n 0 rfl rfl dX0_init_27 ?_
  refine CG_aload 4 rfl dX0_init_28 ?_
  refine CG_putFp (own := RX0) (C := RX0) (T := TX0) (N := 5) (ty0 := tyX0) (ty := .object "LiquoriceRoads$Laws") (ci := 0) (v := .ref a4) (fs' := [.ref a1, .ref a2, .ref a3, .ref a4, .ref q1]) [(q1, .inl (E 0, 65, .inl (fun _ => 0)))] 3 rfl rfl iX0 tyX0_ok nmX0 rfl (by decide) cw_f_X0_29 rfl rfl (by decide +kernel) rfl rfl (Nat.le_of_ble_eq_true rfl) rfl dX0_init_30 ?_
  exact CG_ret dX0_init_33 ⟨fun k => [0, q1].getD k 0, rfl⟩

def bX4 (E : Nat → ClassId) (h0 a1 a2 : Nat) (g : Nat → Nat) : va_W := [((g 8), .inl (E 1, 8, .inr (.inl (fun _ => 0)))), ((g 7), .inl (E 1, 8, .inr (.inl (fun _ => 0)))), ((g 6), .inl (E 0, 256, .inl (fun _ => 0))), ((g 5), .inl (E 0, 8, .inl (fun _ => 0))), ((g 4), .inl (E 0, 8, .inl (fun _ => 0))), ((g 3), .inl (E 0, 8, .inl (fun _ => 0))), ((g 2), .inl (E 0, 64, .inl (fun _ => 0))), ((g 1), .inl (E 0, 8, .inl (fun _ => 0))), (h0, .inr (4, [.ref a1, .ref a2, .ref (g 1), .ref (g 2), .ref (g 3), .ref (g 4), .ref (g 5), .ref (g 6), .ref (g 7), .ref (g 8)]))]

theorem ct_X4 {D : va_G} {E : Nat → ClassId} {A : Nat → Prop} (h0 a1 a2 : Nat) (wr : va_W) : CMt yX4_init cX4_init 3 0 8 368 [.ref h0, .ref a1, .ref a2] D E A ((h0, .inr (4, [.null, .null, .null, .null, .null, .null, .null, .null, .null, .null])) :: wr) (fun ws => ∃ g : Nat → Nat, ws = bX4 E h0 a1 a2 g ++ wr) := by
  refine CMt.intro (by decide +kernel) (Nat.le_of_ble_eq_true rfl) (lv := [(0, .ref h0), (1, .ref a1), (2, .ref a2)]) rfl ?_
  refine CG_aload_n 0 rfl rfl dX4_init_0 ?_
  refine CG_obj rfl cw_o_X4_3 cw_oi cw_oc dX4_init_1 ?_
  refine CG_aload_n 0 rfl rfl dX4_init_4 ?_
  refine CG_bipush (v := 8) (by decide) dX4_init_5 ?_
  refine CG_newa (at_ := .int) (ty := .int) (N := 8) (a0 := (8, .inl (fun _ => 0))) 0 (fun _ => rfl) rfl cw_a_int (fun _ => rfl) (by decide) (by decide) (Nat.le_of_ble_eq_true rfl) (Nat.le_of_ble_eq_true rfl) (Nat.le_of_ble_eq_true rfl) dX4_init_7 (fun q1 => ?_)
  refine CG_putFp (own := RX4) (C := RX4) (T := TX4) (N := 10) (ty0 := tyX4) (ty := .array .int) (ci := 4) (v := .ref q1) (fs' := [.null, .null, .ref q1, .null, .null, .null, .null, .null, .null, .null]) [(q1, .inl (E 0, 8, .inl (fun _ => 0)))] 2 rfl rfl iX4 tyX4_ok nmX4 rfl (by decide) cw_f_X4_9 rfl rfl (by decide +kernel) rfl rfl (Nat.le_of_ble_eq_true rfl) rfl dX4_init_9 ?_
  refine CG_aload_n 0 rfl rfl dX4_init_12 ?_
  refine CG_bipush (v := 64) (by decide) dX4_init_13 ?_
  refine CG_newa (at_ := .int) (ty := .int) (N := 64) (a0 := (64, .inl (fun _ => 0))) 0 (fun _ => rfl) rfl cw_a_int (fun _ => rfl) (by decide) (by decide) (Nat.le_of_ble_eq_true rfl) (Nat.le_of_ble_eq_true rfl) (Nat.le_of_ble_eq_true rfl) dX4_init_15 (fun q2 => ?_)
  refine CG_putFp (own := RX4) (C := RX4) (T := TX4) (N := 10) (ty0 := tyX4) (ty := .array .int) (ci := 4) (v := .ref q2) (fs' := [.null, .null, .ref q1, .ref q2, .null, .null, .null, .null, .null, .null]) [(q2, .inl (E 0, 64, .inl (fun _ => 0))), (q1, .inl (E 0, 8, .inl (fun _ => 0)))] 3 rfl rfl iX4 tyX4_ok nmX4 rfl (by decide) cw_f_X4_15 rfl rfl (by decide +kernel) rfl rfl (Nat.le_of_ble_eq_true rfl) rfl dX4_init_17 ?_
  refine CG_aload_n 0 rfl rfl dX4_init_20 ?_
  refine CG_bipush (v := 8) (by decide) dX4_init_21 ?_
  refine CG_newa (at_ := .int) (ty := .int) (N := 8) (a0 := (8, .inl (fun _ => 0))) 0 (fun _ => rfl) rfl cw_a_int (fun _ => rfl) (by decide) (by decide) (Nat.le_of_ble_eq_true rfl) (Nat.le_of_ble_eq_true rfl) (Nat.le_of_ble_eq_true rfl) dX4_init_23 (fun q3 => ?_)
  refine CG_putFp (own := RX4) (C := RX4) (T := TX4) (N := 10) (ty0 := tyX4) (ty := .array .int) (ci := 4) (v := .ref q3) (fs' := [.null, .null, .ref q1, .ref q2, .ref q3, .null, .null, .null, .null, .null]) [(q3, .inl (E 0, 8, .inl (fun _ => 0))), (q2, .inl (E 0, 64, .inl (fun _ => 0))), (q1, .inl (E 0, 8, .inl (fun _ => 0)))] 4 rfl rfl iX4 tyX4_ok nmX4 rfl (by decide) cw_f_X4_18 rfl rfl (by decide +kernel) rfl rfl (Nat.le_of_ble_eq_true rfl) rfl dX4_init_25 ?_
  refine CG_aload_n 0 rfl rfl dX4_init_28 ?_
  refine CG_bipush (v := 8) (by decide) dX4_init_29 ?_
  refine CG_newa (at_ := .int) (ty := .int) (N := 8) (a0 := (8, .inl (fun _ => 0))) 0 (fun _ => rfl) rfl cw_a_int (fun _ => rfl) (by decide) (by decide) (Nat.le_of_ble_eq_true rfl) (Nat.le_of_ble_eq_true rfl) (Nat.le_of_ble_eq_true rfl) dX4_init_31 (fun q4 => ?_)
  refine CG_putFp (own := RX4) (C := RX4) (T := TX4) (N := 10) (ty0 := tyX4) (ty := .array .int) (ci := 4) (v := .ref q4) (fs' := [.null, .null, .ref q1, .ref q2, .ref q3, .ref q4, .null, .null, .null, .null]) [(q4, .inl (E 0, 8, .inl (fun _ => 0))), (q3, .inl (E 0, 8, .inl (fun _ => 0))), (q2, .inl (E 0, 64, .inl (fun _ => 0))), (q1, .inl (E 0, 8, .inl (fun _ => 0)))] 5 rfl rfl iX4 tyX4_ok nmX4 rfl (by decide) cw_f_X4_21 rfl rfl (by decide +kernel) rfl rfl (Nat.le_of_ble_eq_true rfl) rfl dX4_init_33 ?_
  refine CG_aload_n 0 rfl rfl dX4_init_36 ?_
  refine CG_bipush (v := 8) (by decide) dX4_init_37 ?_
  refine CG_newa (at_ := .int) (ty := .int) (N := 8) (a0 := (8, .inl (fun _ => 0))) 0 (fun _ => rfl) rfl cw_a_int (fun _ => rfl) (by decide) (by decide) (Nat.le_of_ble_eq_true rfl) (Nat.le_of_ble_eq_true rfl) (Nat.le_of_ble_eq_true rfl) dX4_init_39 (fun q5 => ?_)
  refine CG_putFp (own := RX4) (C := RX4) (T := TX4) (N := 10) (ty0 := tyX4) (ty := .array .int) (ci := 4) (v := .ref q5) (fs' := [.null, .null, .ref q1, .ref q2, .ref q3, .ref q4, .ref q5, .null, .null, .null]) [(q5, .inl (E 0, 8, .inl (fun _ => 0))), (q4, .inl (E 0, 8, .inl (fun _ => 0))), (q3, .inl (E 0, 8, .inl (fun _ => 0))), (q2, .inl (E 0, 64, .inl (fun _ => 0))), (q1, .inl (E 0, 8, .inl (fun _ => 0)))] 6 rfl rfl iX4 tyX4_ok nmX4 rfl (by decide) cw_f_X4_24 rfl rfl (by decide +kernel) rfl rfl (Nat.le_of_ble_eq_true rfl) rfl dX4_init_41 ?_
  refine CG_aload_n 0 rfl rfl dX4_init_44 ?_
  refine CG_sipush (v := 256) (by decide) dX4_init_45 ?_
  refine CG_newa (at_ := .int) (ty := .int) (N := 256) (a0 := (256, .inl (fun _ => 0))) 0 (fun _ => rfl) rfl cw_a_int (fun _ => rfl) (by decide) (by decide) (Nat.le_of_ble_eq_true rfl) (Nat.le_of_ble_eq_true rfl) (Nat.le_of_ble_eq_true rfl) dX4_init_48 (fun q6 => ?_)
  refine CG_putFp (own := RX4) (C := RX4) (T := TX4) (N := 10) (ty0 := tyX4) (ty := .array .int) (ci := 4) (v := .ref q6) (fs' := [.null, .null, .ref q1, .ref q2, .ref q3, .ref q4, .ref q5, .ref q6, .null, .null]) [(q6, .inl (E 0, 256, .inl (fun _ => 0))), (q5, .inl (E 0, 8, .inl (fun _ => 0))), (q4, .inl (E 0, 8, .inl (fun _ => 0))), (q3, .inl (E 0, 8, .inl (fun _ => 0))), (q2, .inl (E 0, 64, .inl (fun _ => 0))), (q1, .inl (E 0, 8, .inl (fun _ => 0)))] 7 rfl rfl iX4 tyX4_ok nmX4 rfl (by decide) cw_f_X4_27 rfl rfl (by decide +kernel) rfl rfl (Nat.le_of_ble_eq_true rfl) rfl dX4_init_50 ?_
  refine CG_aload_n 0 rfl rfl dX4_init_53 ?_
  refine CG_bipush (v := 8) (by decide) dX4_init_54 ?_
  refine CG_newa (at_ := .long) (ty := .long) (N := 8) (a0 := (8, .inr (.inl (fun _ => 0)))) 1 (fun _ => rfl) rfl cw_a_long (fun _ => rfl) (by decide) (by decide) (Nat.le_of_ble_eq_true rfl) (Nat.le_of_ble_eq_true rfl) (Nat.le_of_ble_eq_true rfl) dX4_init_56 (fun q7 => ?_)
  refine CG_putp (own := RX4) (C := RX4) (T := TX4) (N := 10) (ty0 := tyX4) (ty := .array .long) (ci := 4) (v := .ref q7) (fs' := [.null, .null, .ref q1, .ref q2, .ref q3, .ref q4, .ref q5, .ref q6, .ref q7, .null]) [(q7, .inl (E 1, 8, .inr (.inl (fun _ => 0)))), (q6, .inl (E 0, 256, .inl (fun _ => 0))), (q5, .inl (E 0, 8, .inl (fun _ => 0))), (q4, .inl (E 0, 8, .inl (fun _ => 0))), (q3, .inl (E 0, 8, .inl (fun _ => 0))), (q2, .inl (E 0, 64, .inl (fun _ => 0))), (q1, .inl (E 0, 8, .inl (fun _ => 0)))] 8 rfl iX4 tyX4_ok nmX4 rfl (by decide) cw_f_X4_30 rfl rfl (by decide +kernel) rfl rfl (Nat.le_of_ble_eq_true rfl) rfl dX4_init_58 ?_
  refine CG_aload_n 0 rfl rfl dX4_init_61 ?_
  refine CG_bipush (v := 8) (by decide) dX4_init_62 ?_
  refine CG_newa (at_ := .long) (ty := .long) (N := 8) (a0 := (8, .inr (.inl (fun _ => 0)))) 1 (fun _ => rfl) rfl cw_a_long (fun _ => rfl) (by decide) (by decide) (Nat.le_of_ble_eq_true rfl) (Nat.le_of_ble_eq_true rfl) (Nat.le_of_ble_eq_true rfl) dX4_init_64 (fun q8 => ?_)
  refine CG_putp (own := RX4) (C := RX4) (T := TX4) (N := 10) (ty0 := tyX4) (ty := .array .long) (ci := 4) (v := .ref q8) (fs' := [.null, .null, .ref q1, .ref q2, .ref q3, .ref q4, .ref q5, .ref q6, .ref q7, .ref q8]) [(q8, .inl (E 1, 8, .inr (.inl (fun _ => 0)))), (q7, .inl (E 1, 8, .inr (.inl (fun _ => 0)))), (q6, .inl (E 0, 256, .inl (fun _ => 0))), (q5, .inl (E 0, 8, .inl (fun _ => 0))), (q4, .inl (E 0, 8, .inl (fun _ => 0))), (q3, .inl (E 0, 8, .inl (fun _ => 0))), (q2, .inl (E 0, 64, .inl (fun _ => 0))), (q1, .inl (E 0, 8, .inl (fun _ => 0)))] 9 rfl iX4 tyX4_ok nmX4 rfl (by decide) cw_f_X4_34 rfl rfl (by decide +kernel) rfl rfl (Nat.le_of_ble_eq_true rfl) rfl dX4_init_66 ?_
  refine CG_aload_n 0 rfl rfl dX4_init_69 ?_
  refine CG_aload_n 1 rfl rfl dX4_init_70 ?_
  refine CG_putFp (own := RX4) (C := RX4) (T := TX4) (N := 10) (ty0 := tyX4) (ty := .object "LiquoriceRoads$Told") (ci := 4) (v := .ref a1) (fs' := [.ref a1, .null, .ref q1, .ref q2, .ref q3, .ref q4, .ref q5, .ref q6, .ref q7, .ref q8]) [(q8, .inl (E 1, 8, .inr (.inl (fun _ => 0)))), (q7, .inl (E 1, 8, .inr (.inl (fun _ => 0)))), (q6, .inl (E 0, 256, .inl (fun _ => 0))), (q5, .inl (E 0, 8, .inl (fun _ => 0))), (q4, .inl (E 0, 8, .inl (fun _ => 0))), (q3, .inl (E 0, 8, .inl (fun _ => 0))), (q2, .inl (E 0, 64, .inl (fun _ => 0))), (q1, .inl (E 0, 8, .inl (fun _ => 0)))] 0 rfl rfl iX4 tyX4_ok nmX4 rfl (by decide) cw_f_X4_37 rfl rfl (by decide +kernel) rfl rfl (Nat.le_of_ble_eq_true rfl) rfl dX4_init_71 ?_
  refine CG_aload_n 0 rfl rfl dX4_init_74 ?_
  refine CG_aload_n 2 rfl rfl dX4_init_75 ?_
  refine CG_putFp (own := RX4) (C := RX4) (T := TX4) (N := 10) (ty0 := tyX4) (ty := .object "LiquoriceRoads$State") (ci := 4) (v := .ref a2) (fs' := [.ref a1, .ref a2, .ref q1, .ref q2, .ref q3, .ref q4, .ref q5, .ref q6, .ref q7, .ref q8]) [(q8, .inl (E 1, 8, .inr (.inl (fun _ => 0)))), (q7, .inl (E 1, 8, .inr (.inl (fun _ => 0)))), (q6, .inl (E 0, 256, .inl (fun _ => 0))), (q5, .inl (E 0, 8, .inl (fun _ => 0))), (q4, .inl (E 0, 8, .inl (fun _ => 0))), (q3, .inl (E 0, 8, .inl (fun _ => 0))), (q2, .inl (E 0, 64, .inl (fun _ => 0))), (q1, .inl (E 0, 8, .inl (fun _ => 0)))] 1 rfl rfl iX4 tyX4_ok nmX4 rfl (by decide) cw_f_X4_41 rfl rfl (by decide +kernel) rfl rfl (Nat.le_of_ble_eq_true rfl) rfl dX4_init_76 ?_
  exact CG_ret dX4_init_79 ⟨fun k => [0, q1, q2, q3, q4, q5, q6, q7, q8].getD k 0, rfl⟩

def bX3 (E : Nat → ClassId) (h0 a1 a2 a3 : Nat) (g : Nat → Nat) : va_W := [((g 4), .inl (E 1, 100, .inr (.inl (fun _ => 0)))), ((g 3), .inl (E 0, 6, .inl (fun _ => 0))), ((g 2), .inl (E 0, 6, .inl (fun _ => 0))), ((g 1), .inl (E 0, 600, .inl (fun _ => 0))), (h0, .inr (3, [.ref a1, .ref a2, .ref a3, .ref (g 1), .ref (g 2), .ref (g 3), .int 0, .ref (g 4)]))]

theorem ct_X3 {D : va_G} {E : Nat → ClassId} {A : Nat → Prop} (h0 a1 a2 a3 : Nat) (wr : va_W) : CMt yX3_init cX3_init 4 0 4 712 [.ref h0, .ref a1, .ref a2, .ref a3] D E A ((h0, .inr (3, [.null, .null, .null, .null, .null, .null, .int 0, .null])) :: wr) (fun ws => ∃ g : Nat → Nat, ws = bX3 E h0 a1 a2 a3 g ++ wr) := by
  refine CMt.intro (by decide +kernel) (Nat.le_of_ble_eq_true rfl) (lv := [(0, .ref h0), (1, .ref a1), (2, .ref a2), (3, .ref a3)]) rfl ?_
  refine CG_aload_n 0 rfl rfl dX3_init_0 ?_
  refine CG_obj rfl cw_o_X3_3 cw_oi cw_oc dX3_init_1 ?_
  refine CG_aload_n 0 rfl rfl dX3_init_4 ?_
  refine CG_sipush (v := 600) (by decide) dX3_init_5 ?_
  refine CG_newa (at_ := .int) (ty := .int) (N := 600) (a0 := (600, .inl (fun _ => 0))) 0 (fun _ => rfl) rfl cw_a_int (fun _ => rfl) (by decide) (by decide) (Nat.le_of_ble_eq_true rfl) (Nat.le_of_ble_eq_true rfl) (Nat.le_of_ble_eq_true rfl) dX3_init_8 (fun q1 => ?_)
  refine CG_putFp (own := RX3) (C := RX3) (T := TX3) (N := 8) (ty0 := tyX3) (ty := .array .int) (ci := 3) (v := .ref q1) (fs' := [.null, .null, .null, .ref q1, .null, .null, .int 0, .null]) [(q1, .inl (E 0, 600, .inl (fun _ => 0)))] 3 rfl rfl iX3 tyX3_ok nmX3 rfl (by decide) cw_f_X3_11 rfl rfl (by decide +kernel) rfl rfl (Nat.le_of_ble_eq_true rfl) rfl dX3_init_10 ?_
  refine CG_aload_n 0 rfl rfl dX3_init_13 ?_
  refine CG_bipush (v := 6) (by decide) dX3_init_14 ?_
  refine CG_newa (at_ := .int) (ty := .int) (N := 6) (a0 := (6, .inl (fun _ => 0))) 0 (fun _ => rfl) rfl cw_a_int (fun _ => rfl) (by decide) (by decide) (Nat.le_of_ble_eq_true rfl) (Nat.le_of_ble_eq_true rfl) (Nat.le_of_ble_eq_true rfl) dX3_init_16 (fun q2 => ?_)
  refine CG_putFp (own := RX3) (C := RX3) (T := TX3) (N := 8) (ty0 := tyX3) (ty := .array .int) (ci := 3) (v := .ref q2) (fs' := [.null, .null, .null, .ref q1, .ref q2, .null, .int 0, .null]) [(q2, .inl (E 0, 6, .inl (fun _ => 0))), (q1, .inl (E 0, 600, .inl (fun _ => 0)))] 4 rfl rfl iX3 tyX3_ok nmX3 rfl (by decide) cw_f_X3_15 rfl rfl (by decide +kernel) rfl rfl (Nat.le_of_ble_eq_true rfl) rfl dX3_init_18 ?_
  refine CG_aload_n 0 rfl rfl dX3_init_21 ?_
  refine CG_bipush (v := 6) (by decide) dX3_init_22 ?_
  refine CG_newa (at_ := .int) (ty := .int) (N := 6) (a0 := (6, .inl (fun _ => 0))) 0 (fun _ => rfl) rfl cw_a_int (fun _ => rfl) (by decide) (by decide) (Nat.le_of_ble_eq_true rfl) (Nat.le_of_ble_eq_true rfl) (Nat.le_of_ble_eq_true rfl) dX3_init_24 (fun q3 => ?_)
  refine CG_putFp (own := RX3) (C := RX3) (T := TX3) (N := 8) (ty0 := tyX3) (ty := .array .int) (ci := 3) (v := .ref q3) (fs' := [.null, .null, .null, .ref q1, .ref q2, .ref q3, .int 0, .null]) [(q3, .inl (E 0, 6, .inl (fun _ => 0))), (q2, .inl (E 0, 6, .inl (fun _ => 0))), (q1, .inl (E 0, 600, .inl (fun _ => 0)))] 5 rfl rfl iX3 tyX3_ok nmX3 rfl (by decide) cw_f_X3_18 rfl rfl (by decide +kernel) rfl rfl (Nat.le_of_ble_eq_true rfl) rfl dX3_init_26 ?_
  refine CG_aload_n 0 rfl rfl dX3_init_29 ?_
  refine CG_iconst (v := 0) (by decide) dX3_init_30 ?_
  refine CG_putp (own := RX3) (C := RX3) (T := TX3) (N := 8) (ty0 := tyX3) (ty := .int) (ci := 3) (v := .int 0) (fs' := [.null, .null, .null, .ref q1, .ref q2, .ref q3, .int 0, .null]) [(q3, .inl (E 0, 6, .inl (fun _ => 0))), (q2, .inl (E 0, 6, .inl (fun _ => 0))), (q1, .inl (E 0, 600, .inl (fun _ => 0)))] 6 rfl iX3 tyX3_ok nmX3 rfl (by decide) cw_f_X3_21 rfl rfl (by decide +kernel) rfl rfl (Nat.le_of_ble_eq_true rfl) rfl dX3_init_31 ?_
  refine CG_aload_n 0 rfl rfl dX3_init_34 ?_
  refine CG_bipush (v := 100) (by decide) dX3_init_35 ?_
  refine CG_newa (at_ := .long) (ty := .long) (N := 100) (a0 := (100, .inr (.inl (fun _ => 0)))) 1 (fun _ => rfl) rfl cw_a_long (fun _ => rfl) (by decide) (by decide) (Nat.le_of_ble_eq_true rfl) (Nat.le_of_ble_eq_true rfl) (Nat.le_of_ble_eq_true rfl) dX3_init_37 (fun q4 => ?_)
  refine CG_putFp (own := RX3) (C := RX3) (T := TX3) (N := 8) (ty0 := tyX3) (ty := .array .long) (ci := 3) (v := .ref q4) (fs' := [.null, .null, .null, .ref q1, .ref q2, .ref q3, .int 0, .ref q4]) [(q4, .inl (E 1, 100, .inr (.inl (fun _ => 0)))), (q3, .inl (E 0, 6, .inl (fun _ => 0))), (q2, .inl (E 0, 6, .inl (fun _ => 0))), (q1, .inl (E 0, 600, .inl (fun _ => 0)))] 7 rfl rfl iX3 tyX3_ok nmX3 rfl (by decide) cw_f_X3_25 rfl rfl (by decide +kernel) rfl rfl (Nat.le_of_ble_eq_true rfl) rfl dX3_init_39 ?_
  refine CG_aload_n 0 rfl rfl dX3_init_42 ?_
  refine CG_aload_n 1 rfl rfl dX3_init_43 ?_
  refine CG_putFp (own := RX3) (C := RX3) (T := TX3) (N := 8) (ty0 := tyX3) (ty := .object "LiquoriceRoads$Told") (ci := 3) (v := .ref a1) (fs' := [.ref a1, .null, .null, .ref q1, .ref q2, .ref q3, .int 0, .ref q4]) [(q4, .inl (E 1, 100, .inr (.inl (fun _ => 0)))), (q3, .inl (E 0, 6, .inl (fun _ => 0))), (q2, .inl (E 0, 6, .inl (fun _ => 0))), (q1, .inl (E 0, 600, .inl (fun _ => 0)))] 0 rfl rfl iX3 tyX3_ok nmX3 rfl (by decide) cw_f_X3_29 rfl rfl (by decide +kernel) rfl rfl (Nat.le_of_ble_eq_true rfl) rfl dX3_init_44 ?_
  refine CG_aload_n 0 rfl rfl dX3_init_47 ?_
  refine CG_aload_n 2 rfl rfl dX3_init_48 ?_
  refine CG_putFp (own := RX3) (C := RX3) (T := TX3) (N := 8) (ty0 := tyX3) (ty := .object "LiquoriceRoads$State") (ci := 3) (v := .ref a2) (fs' := [.ref a1, .ref a2, .null, .ref q1, .ref q2, .ref q3, .int 0, .ref q4]) [(q4, .inl (E 1, 100, .inr (.inl (fun _ => 0)))), (q3, .inl (E 0, 6, .inl (fun _ => 0))), (q2, .inl (E 0, 6, .inl (fun _ => 0))), (q1, .inl (E 0, 600, .inl (fun _ => 0)))] 1 rfl rfl iX3 tyX3_ok nmX3 rfl (by decide) cw_f_X3_33 rfl rfl (by decide +kernel) rfl rfl (Nat.le_of_ble_eq_true rfl) rfl dX3_init_49 ?_
  refine CG_aload_n 0 rfl rfl dX3_init_52 ?_
  refine CG_aload_n 3 rfl rfl dX3_init_53 ?_
  refine CG_putFp (own := RX3) (C := RX3) (T := TX3) (N := 8) (ty0 := tyX3) (ty := .object "LiquoriceRoads$Laws") (ci := 3) (v := .ref a3) (fs' := [.ref a1, .ref a2, .ref a3, .ref q1, .ref q2, .ref q3, .int 0, .ref q4]) [(q4, .inl (E 1, 100, .inr (.inl (fun _ => 0)))), (q3, .inl (E 0, 6, .inl (fun _ => 0))), (q2, .inl (E 0, 6, .inl (fun _ => 0))), (q1, .inl (E 0, 600, .inl (fun _ => 0)))] 2 rfl rfl iX3 tyX3_ok nmX3 rfl (by decide) cw_f_X3_37 rfl rfl (by decide +kernel) rfl rfl (Nat.le_of_ble_eq_true rfl) rfl dX3_init_54 ?_
  exact CG_ret dX3_init_57 ⟨fun k => [0, q1, q2, q3, q4].getD k 0, rfl⟩

def bX9 (E : Nat → ClassId) (h0 : Nat) (g : Nat → Nat) : va_W := [((g 4), .inl (E 0, 96, .inl (fun _ => 0))), ((g 3), .inl (E 0, 24, .inl (fun _ => 0))), ((g 2), .inl (E 0, 300, .inl (fun _ => 0))), ((g 1), .inl (E 0, 300, .inl (fun _ => 0))), (h0, .inr (9, [.ref (g 1), .ref (g 2), .int 0, .int (-1), .int (-1), .int (-1), .int (-1), .ref (g 3), .ref (g 4), .int 0]))]

theorem ct_X9 {D : va_G} {E : Nat → ClassId} {A : Nat → Prop} (h0 : Nat) (wr : va_W) : CMt yX9_init cX9_init 1 0 4 720 [.ref h0] D E A ((h0, .inr (9, [.null, .null, .int 0, .int 0, .int 0, .int 0, .int 0, .null, .null, .int 0])) :: wr) (fun ws => ∃ g : Nat → Nat, ws = bX9 E h0 g ++ wr) := by
  refine CMt.intro (by decide +kernel) (Nat.le_of_ble_eq_true rfl) (lv := [(0, .ref h0)]) rfl ?_
  refine CG_aload_n 0 rfl rfl dX9_init_0 ?_
  refine CG_obj rfl cw_o_X9_3 cw_oi cw_oc dX9_init_1 ?_
  refine CG_aload_n 0 rfl rfl dX9_init_4 ?_
  refine CG_sipush (v := 300) (by decide) dX9_init_5 ?_
  refine CG_newa (at_ := .int) (ty := .int) (N := 300) (a0 := (300, .inl (fun _ => 0))) 0 (fun _ => rfl) rfl cw_a_int (fun _ => rfl) (by decide) (by decide) (Nat.le_of_ble_eq_true rfl) (Nat.le_of_ble_eq_true rfl) (Nat.le_of_ble_eq_true rfl) dX9_init_8 (fun q1 => ?_)
  refine CG_putFp (own := RX9) (C := RX9) (T := TX9) (N := 10) (ty0 := tyX9) (ty := .array .int) (ci := 9) (v := .ref q1) (fs' := [.ref q1, .null, .int 0, .int 0, .int 0, .int 0, .int 0, .null, .null, .int 0]) [(q1, .inl (E 0, 300, .inl (fun _ => 0)))] 0 rfl rfl iX9 tyX9_ok nmX9 rfl (by decide) cw_f_X9_9 rfl rfl (by decide +kernel) rfl rfl (Nat.le_of_ble_eq_true rfl) rfl dX9_init_10 ?_
  refine CG_aload_n 0 rfl rfl dX9_init_13 ?_
  refine CG_sipush (v := 300) (by decide) dX9_init_14 ?_
  refine CG_newa (at_ := .int) (ty := .int) (N := 300) (a0 := (300, .inl (fun _ => 0))) 0 (fun _ => rfl) rfl cw_a_int (fun _ => rfl) (by decide) (by decide) (Nat.le_of_ble_eq_true rfl) (Nat.le_of_ble_eq_true rfl) (Nat.le_of_ble_eq_true rfl) dX9_init_17 (fun q2 => ?_)
  refine CG_putFp (own := RX9) (C := RX9) (T := TX9) (N := 10) (ty0 := tyX9) (ty := .array .int) (ci := 9) (v := .ref q2) (fs' := [.ref q1, .ref q2, .int 0, .int 0, .int 0, .int 0, .int 0, .null, .null, .int 0]) [(q2, .inl (E 0, 300, .inl (fun _ => 0))), (q1, .inl (E 0, 300, .inl (fun _ => 0)))] 1 rfl rfl iX9 tyX9_ok nmX9 rfl (by decide) cw_f_X9_15 rfl rfl (by decide +kernel) rfl rfl (Nat.le_of_ble_eq_true rfl) rfl dX9_init_19 ?_
  refine CG_aload_n 0 rfl rfl dX9_init_22 ?_
  refine CG_iconst (v := 0) (by decide) dX9_init_23 ?_
  refine CG_putp (own := RX9) (C := RX9) (T := TX9) (N := 10) (ty0 := tyX9) (ty := .int) (ci := 9) (v := .int 0) (fs' := [.ref q1, .ref q2, .int 0, .int 0, .int 0, .int 0, .int 0, .null, .null, .int 0]) [(q2, .inl (E 0, 300, .inl (fun _ => 0))), (q1, .inl (E 0, 300, .inl (fun _ => 0)))] 2 rfl iX9 tyX9_ok nmX9 rfl (by decide) cw_f_X9_18 rfl rfl (by decide +kernel) rfl rfl (Nat.le_of_ble_eq_true rfl) rfl dX9_init_24 ?_
  refine CG_aload_n 0 rfl rfl dX9_init_27 ?_
  refine CG_iconst (v := (-1)) (by decide) dX9_init_28 ?_
  refine CG_putp (own := RX9) (C := RX9) (T := TX9) (N := 10) (ty0 := tyX9) (ty := .int) (ci := 9) (v := .int (-1)) (fs' := [.ref q1, .ref q2, .int 0, .int (-1), .int 0, .int 0, .int 0, .null, .null, .int 0]) [(q2, .inl (E 0, 300, .inl (fun _ => 0))), (q1, .inl (E 0, 300, .inl (fun _ => 0)))] 3 rfl iX9 tyX9_ok nmX9 rfl (by decide) cw_f_X9_22 rfl rfl (by decide +kernel) rfl rfl (Nat.le_of_ble_eq_true rfl) rfl dX9_init_29 ?_
  refine CG_aload_n 0 rfl rfl dX9_init_32 ?_
  refine CG_iconst (v := (-1)) (by decide) dX9_init_33 ?_
  refine CG_putp (own := RX9) (C := RX9) (T := TX9) (N := 10) (ty0 := tyX9) (ty := .int) (ci := 9) (v := .int (-1)) (fs' := [.ref q1, .ref q2, .int 0, .int (-1), .int (-1), .int 0, .int 0, .null, .null, .int 0]) [(q2, .inl (E 0, 300, .inl (fun _ => 0))), (q1, .inl (E 0, 300, .inl (fun _ => 0)))] 4 rfl iX9 tyX9_ok nmX9 rfl (by decide) cw_f_X9_25 rfl rfl (by decide +kernel) rfl rfl (Nat.le_of_ble_eq_true rfl) rfl dX9_init_34 ?_
  refine CG_aload_n 0 rfl rfl dX9_init_37 ?_
  refine CG_iconst (v := (-1)) (by decide) dX9_init_38 ?_
  refine CG_putp (own := RX9) (C := RX9) (T := TX9) (N := 10) (ty0 := tyX9) (ty := .int) (ci := 9) (v := .int (-1)) (fs' := [.ref q1, .ref q2, .int 0, .int (-1), .int (-1), .int (-1), .int 0, .null, .null, .int 0]) [(q2, .inl (E 0, 300, .inl (fun _ => 0))), (q1, .inl (E 0, 300, .inl (fun _ => 0)))] 5 rfl iX9 tyX9_ok nmX9 rfl (by decide) cw_f_X9_28 rfl rfl (by decide +kernel) rfl rfl (Nat.le_of_ble_eq_true rfl) rfl dX9_init_39 ?_
  refine CG_aload_n 0 rfl rfl dX9_init_42 ?_
  refine CG_iconst (v := (-1)) (by decide) dX9_init_43 ?_
  refine CG_putp (own := RX9) (C := RX9) (T := TX9) (N := 10) (ty0 := tyX9) (ty := .int) (ci := 9) (v := .int (-1)) (fs' := [.ref q1, .ref q2, .int 0, .int (-1), .int (-1), .int (-1), .int (-1), .null, .null, .int 0]) [(q2, .inl (E 0, 300, .inl (fun _ => 0))), (q1, .inl (E 0, 300, .inl (fun _ => 0)))] 6 rfl iX9 tyX9_ok nmX9 rfl (by decide) cw_f_X9_31 rfl rfl (by decide +kernel) rfl rfl (Nat.le_of_ble_eq_true rfl) rfl dX9_init_44 ?_
  refine CG_aload_n 0 rfl rfl dX9_init_47 ?_
  refine CG_bipush (v := 24) (by decide) dX9_init_48 ?_
  refine CG_newa (at_ := .int) (ty := .int) (N := 24) (a0 := (24, .inl (fun _ => 0))) 0 (fun _ => rfl) rfl cw_a_int (fun _ => rfl) (by decide) (by decide) (Nat.le_of_ble_eq_true rfl) (Nat.le_of_ble_eq_true rfl) (Nat.le_of_ble_eq_true rfl) dX9_init_50 (fun q3 => ?_)
  refine CG_putFp (own := RX9) (C := RX9) (T := TX9) (N := 10) (ty0 := tyX9) (ty := .array .int) (ci := 9) (v := .ref q3) (fs' := [.ref q1, .ref q2, .int 0, .int (-1), .int (-1), .int (-1), .int (-1), .ref q3, .null, .int 0]) [(q3, .inl (E 0, 24, .inl (fun _ => 0))), (q2, .inl (E 0, 300, .inl (fun _ => 0))), (q1, .inl (E 0, 300, .inl (fun _ => 0)))] 7 rfl rfl iX9 tyX9_ok nmX9 rfl (by decide) cw_f_X9_34 rfl rfl (by decide +kernel) rfl rfl (Nat.le_of_ble_eq_true rfl) rfl dX9_init_52 ?_
  refine CG_aload_n 0 rfl rfl dX9_init_55 ?_
  refine CG_bipush (v := 96) (by decide) dX9_init_56 ?_
  refine CG_newa (at_ := .int) (ty := .int) (N := 96) (a0 := (96, .inl (fun _ => 0))) 0 (fun _ => rfl) rfl cw_a_int (fun _ => rfl) (by decide) (by decide) (Nat.le_of_ble_eq_true rfl) (Nat.le_of_ble_eq_true rfl) (Nat.le_of_ble_eq_true rfl) dX9_init_58 (fun q4 => ?_)
  refine CG_putFp (own := RX9) (C := RX9) (T := TX9) (N := 10) (ty0 := tyX9) (ty := .array .int) (ci := 9) (v := .ref q4) (fs' := [.ref q1, .ref q2, .int 0, .int (-1), .int (-1), .int (-1), .int (-1), .ref q3, .ref q4, .int 0]) [(q4, .inl (E 0, 96, .inl (fun _ => 0))), (q3, .inl (E 0, 24, .inl (fun _ => 0))), (q2, .inl (E 0, 300, .inl (fun _ => 0))), (q1, .inl (E 0, 300, .inl (fun _ => 0)))] 8 rfl rfl iX9 tyX9_ok nmX9 rfl (by decide) cw_f_X9_37 rfl rfl (by decide +kernel) rfl rfl (Nat.le_of_ble_eq_true rfl) rfl dX9_init_60 ?_
  refine CG_aload_n 0 rfl rfl dX9_init_63 ?_
  refine CG_iconst (v := 0) (by decide) dX9_init_64 ?_
  refine CG_putp (own := RX9) (C := RX9) (T := TX9) (N := 10) (ty0 := tyX9) (ty := .int) (ci := 9) (v := .int 0) (fs' := [.ref q1, .ref q2, .int 0, .int (-1), .int (-1), .int (-1), .int (-1), .ref q3, .ref q4, .int 0]) [(q4, .inl (E 0, 96, .inl (fun _ => 0))), (q3, .inl (E 0, 24, .inl (fun _ => 0))), (q2, .inl (E 0, 300, .inl (fun _ => 0))), (q1, .inl (E 0, 300, .inl (fun _ => 0)))] 9 rfl iX9 tyX9_ok nmX9 rfl (by decide) cw_f_X9_40 rfl rfl (by decide +kernel) rfl rfl (Nat.le_of_ble_eq_true rfl) rfl dX9_init_65 ?_
  exact CG_ret dX9_init_68 ⟨fun k => [0, q1, q2, q3, q4].getD k 0, rfl⟩
