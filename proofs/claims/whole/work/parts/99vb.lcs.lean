theorem lwc_24 {xL : Nat} {xs : Nat → Int32} {i n : Int} {σ : Mem} (hi : 0 ≤ i ∧ i + 6 ≤ xL ∧ xL ≤ 3072) (hO : OKm σ) (h : LI σ n) (hN : n ≤ 600000000) (hE : ∀ σ' : Mem, OKm σ' → LI σ' (n + 10000) → LG xL xs 1547 (LV i) [] σ') : LG xL xs 998 (LV i) [] σ := by
  obtain ⟨A, Ls, IA, IL, tx, X, hC, hM, hJ, hn⟩ := h
  have hI := hC.1.1.2.2.1
  have hcn := hI.1
  refine LG_aload_n 1 rfl rfl dL_law_998 ?_
  refine LG_sc (k := 1) hi (by omega) dL_law_999 dL_law_1000 dL_law_1001 dL_law_1002 dL_law_1003 ?_
  refine LG_sc (k := 2) hi (by omega) dL_law_1004 dL_law_1005 dL_law_1006 dL_law_1007 dL_law_1008 ?_
  refine LG_call (as := [_, _]) cf_L_116 rfl rfl (sp_X11_cut 3 (Nat.le_refl _) _ hO _ (sc_r _ _) _ (sc_r _ _) A tx hC.1.1) (by omega) rfl rfl (Nat.le_of_ble_eq_true rfl) dL_law_1009 ?_
  rintro _ σ1 ⟨u, rfl, hp⟩ hO1 hr1
  have a1 : ∀ q : Nat, 74 ≤ q → σ1 q = σ q := fun q hq => hp.2 q (by simp; omega)
  have hM1 := hM.other a1
  refine LG_aload_n 2 rfl rfl dL_law_1012 ?_
  refine LG_sc (k := 1) hi (by omega) dL_law_1013 dL_law_1014 dL_law_1015 dL_law_1016 dL_law_1017 ?_
  refine LG_sc (k := 2) hi (by omega) dL_law_1018 dL_law_1019 dL_law_1020 dL_law_1021 dL_law_1022 ?_
  refine LG_call (as := [_, _]) cf_L_119 rfl rfl (sp_X12_cut 3 (Nat.le_refl _) _ hO1 _ (sc_r _ _) _ (sc_r _ _) A tx hM1.1.1) (by omega) rfl rfl (Nat.le_of_ble_eq_true rfl) dL_law_1023 ?_
  rintro _ σ2 ⟨u2, rfl, hp2⟩ hO2 hr2
  have fin : u = u2 ∧ LI σ2 (n + 10000) := by
    obtain ⟨e1, f1⟩ := hp
    obtain ⟨e2, eq⟩ := hp2
    exact ⟨by rw [e1, e2], fin_ask hC hM hJ hn f1 (by rw [eq]; exact hM1.1.1) (fun q _ => by rw [eq])⟩
  exact LG_icmp_eq (tgt := 1547) (hr1 _ rfl) (hr2 _ rfl) dL_law_1026 (by decide) (fun _ => hE σ2 hO2 fin.2) (fun hne => absurd fin.1 hne)

theorem lwc_25 {xL : Nat} {xs : Nat → Int32} {i n : Int} {σ : Mem} (hi : 0 ≤ i ∧ i + 6 ≤ xL ∧ xL ≤ 3072) (hO : OKm σ) (h : LI σ n) (hN : n ≤ 600000000) (hE : ∀ σ' : Mem, OKm σ' → LI σ' (n + 10000) → LG xL xs 1547 (LV i) [] σ') : LG xL xs 1031 (LV i) [] σ := by
  obtain ⟨A, Ls, IA, IL, tx, X, hC, hM, hJ, hn⟩ := h
  have hI := hC.1.1.2.2.1
  have hcn := hI.1
  by_cases hz : sc xs (i + 1) = 0
  · refine LG_aload_n 1 rfl rfl dL_law_1031 ?_
    refine LG_sc (k := 1) hi (by omega) dL_law_1032 dL_law_1033 dL_law_1034 dL_law_1035 dL_law_1036 ?_
    refine LG_if_eq (tgt := 1044) (sc_r _ _) dL_law_1037 (by decide) (fun _ => ?_) (fun h => absurd hz h)
    refine LG_iconst dL_law_1044 ?_
    refine LG_call (as := [_]) cf_L_120 rfl rfl (sp_X11_tree 2 (Nat.le_refl _) _ hO _ (rL 0 rfl) A tx hC.1.1) (by omega) rfl rfl (Nat.le_of_ble_eq_true rfl) dL_law_1045 ?_
    rintro _ σ1 ⟨u, rfl, hp⟩ hO1 hr1
    have a1 : ∀ q : Nat, 74 ≤ q → σ1 q = σ q := fun q hq => hp.2 q (by simp; omega)
    have hM1 := hM.other a1
    refine LG_aload_n 2 rfl rfl dL_law_1048 ?_
    refine LG_sc (k := 1) hi (by omega) dL_law_1049 dL_law_1050 dL_law_1051 dL_law_1052 dL_law_1053 ?_
    refine LG_if_eq (tgt := 1061) (sc_r _ _) dL_law_1054 (by decide) (fun _ => ?_) (fun h => absurd hz h)
    refine LG_iconst dL_law_1061 ?_
    refine LG_call (as := [_]) cf_L_124 rfl rfl (sp_X12_tree 2 (Nat.le_refl _) _ hO1 _ (rL 0 rfl) A tx hM1.1.1) (by omega) rfl rfl (Nat.le_of_ble_eq_true rfl) dL_law_1062 ?_
    rintro _ σ2 ⟨u2, rfl, hp2⟩ hO2 hr2
    have fin : u = u2 ∧ LI σ2 (n + 10000) := by
      obtain ⟨e1, f1⟩ := hp
      obtain ⟨e2, eq⟩ := hp2
      exact ⟨by rw [e1, e2], fin_ask hC hM hJ hn f1 (by rw [eq]; exact hM1.1.1) (fun q _ => by rw [eq])⟩
    exact LG_icmp_eq (tgt := 1547) (hr1 _ rfl) (hr2 _ rfl) dL_law_1065 (by decide) (fun _ => hE σ2 hO2 fin.2) (fun hne => absurd fin.1 hne)
  · refine LG_aload_n 1 rfl rfl dL_law_1031 ?_
    refine LG_sc (k := 1) hi (by omega) dL_law_1032 dL_law_1033 dL_law_1034 dL_law_1035 dL_law_1036 ?_
    refine LG_if_eq (tgt := 1044) (sc_r _ _) dL_law_1037 (by decide) (fun h => absurd h hz) (fun _ => ?_)
    refine LG_iconst dL_law_1040 ?_
    refine LG_goto (tgt := 1045) dL_law_1041 (by decide) ?_
    refine LG_call (as := [_]) cf_L_120 rfl rfl (sp_X11_tree 2 (Nat.le_refl _) _ hO _ (rL 1 rfl) A tx hC.1.1) (by omega) rfl rfl (Nat.le_of_ble_eq_true rfl) dL_law_1045 ?_
    rintro _ σ1 ⟨u, rfl, hp⟩ hO1 hr1
    have a1 : ∀ q : Nat, 74 ≤ q → σ1 q = σ q := fun q hq => hp.2 q (by simp; omega)
    have hM1 := hM.other a1
    refine LG_aload_n 2 rfl rfl dL_law_1048 ?_
    refine LG_sc (k := 1) hi (by omega) dL_law_1049 dL_law_1050 dL_law_1051 dL_law_1052 dL_law_1053 ?_
    refine LG_if_eq (tgt := 1061) (sc_r _ _) dL_law_1054 (by decide) (fun h => absurd h hz) (fun _ => ?_)
    refine LG_iconst dL_law_1057 ?_
    refine LG_goto (tgt := 1062) dL_law_1058 (by decide) ?_
    refine LG_call (as := [_]) cf_L_124 rfl rfl (sp_X12_tree 2 (Nat.le_refl _) _ hO1 _ (rL 1 rfl) A tx hM1.1.1) (by omega) rfl rfl (Nat.le_of_ble_eq_true rfl) dL_law_1062 ?_
    rintro _ σ2 ⟨u2, rfl, hp2⟩ hO2 hr2
    have fin : u = u2 ∧ LI σ2 (n + 10000) := by
      obtain ⟨e1, f1⟩ := hp
      obtain ⟨e2, eq⟩ := hp2
      exact ⟨by rw [e1, e2], fin_ask hC hM hJ hn f1 (by rw [eq]; exact hM1.1.1) (fun q _ => by rw [eq])⟩
    exact LG_icmp_eq (tgt := 1547) (hr1 _ rfl) (hr2 _ rfl) dL_law_1065 (by decide) (fun _ => hE σ2 hO2 fin.2) (fun hne => absurd fin.1 hne)

theorem lwc_26 {xL : Nat} {xs : Nat → Int32} {i n : Int} {σ : Mem} (hi : 0 ≤ i ∧ i + 6 ≤ xL ∧ xL ≤ 3072) (hO : OKm σ) (h : LI σ n) (hN : n ≤ 600000000) (hE : ∀ σ' : Mem, OKm σ' → LI σ' (n + 10000) → LG xL xs 1547 (LV i) [] σ') : LG xL xs 1070 (LV i) [] σ := by
  obtain ⟨A, Ls, IA, IL, tx, X, hC, hM, hJ, hn⟩ := h
  have hI := hC.1.1.2.2.1
  have hcn := hI.1
  refine LG_aload_n 1 rfl rfl dL_law_1070 ?_
  refine LG_call (as := []) cf_L_125 rfl rfl (sp_X11_bridges 3 (Nat.le_refl _) _ hO  A tx hC.1.1) (by omega) rfl rfl (Nat.le_of_ble_eq_true rfl) dL_law_1071 ?_
  rintro _ σ1 ⟨u, rfl, hp⟩ hO1 hr1
  have a1 : ∀ q : Nat, 74 ≤ q → σ1 q = σ q := fun q hq => hp.2 q (by simp; omega)
  have hM1 := hM.other a1
  refine LG_aload_n 2 rfl rfl dL_law_1074 ?_
  refine LG_call (as := []) cf_L_128 rfl rfl (sp_X12_bridges 2 (Nat.le_refl _) _ hO1  A tx hM1.1.1) (by omega) rfl rfl (Nat.le_of_ble_eq_true rfl) dL_law_1075 ?_
  rintro _ σ2 ⟨u2, rfl, hp2⟩ hO2 hr2
  have fin : u = u2 ∧ LI σ2 (n + 10000) := by
    obtain ⟨e1, f1⟩ := hp
    obtain ⟨e2, v2, f2⟩ := hp2
    exact ⟨by rw [e1, e2], fin_ask hC hM hJ hn f1 v2 (fun q hq => f2 q (by simp; omega))⟩
  exact LG_icmp_eq (tgt := 1547) (hr1 _ rfl) (hr2 _ rfl) dL_law_1078 (by decide) (fun _ => hE σ2 hO2 fin.2) (fun hne => absurd fin.1 hne)

theorem lwc_27 {xL : Nat} {xs : Nat → Int32} {i n : Int} {σ : Mem} (hi : 0 ≤ i ∧ i + 6 ≤ xL ∧ xL ≤ 3072) (hO : OKm σ) (h : LI σ n) (hN : n ≤ 600000000) (hE : ∀ σ' : Mem, OKm σ' → LI σ' (n + 10000) → LG xL xs 1547 (LV i) [] σ') : LG xL xs 1083 (LV i) [] σ := by
  obtain ⟨A, Ls, IA, IL, tx, X, hC, hM, hJ, hn⟩ := h
  have hI := hC.1.1.2.2.1
  have hcn := hI.1
  refine LG_aload_n 1 rfl rfl dL_law_1083 ?_
  refine LG_sc (k := 1) hi (by omega) dL_law_1084 dL_law_1085 dL_law_1086 dL_law_1087 dL_law_1088 ?_
  refine LG_call (as := [_]) cf_L_129 rfl rfl (sp_X11_carter 4 (Nat.le_refl _) _ hO _ (sc_r _ _) A tx hC.1.1) (by omega) rfl rfl (Nat.le_of_ble_eq_true rfl) dL_law_1089 ?_
  rintro _ σ1 ⟨u, rfl, hp⟩ hO1 hr1
  have a1 : ∀ q : Nat, 74 ≤ q → σ1 q = σ q := fun q hq => hp.2 q (by simp; omega)
  have hM1 := hM.other a1
  refine LG_aload_n 2 rfl rfl dL_law_1092 ?_
  refine LG_sc (k := 1) hi (by omega) dL_law_1093 dL_law_1094 dL_law_1095 dL_law_1096 dL_law_1097 ?_
  refine LG_call (as := [_]) cf_L_132 rfl rfl (sp_X12_carter 3 (Nat.le_refl _) _ hO1 _ (sc_r _ _) A tx hM1.1.1) (by omega) rfl rfl (Nat.le_of_ble_eq_true rfl) dL_law_1098 ?_
  rintro _ σ2 ⟨u2, rfl, hp2⟩ hO2 hr2
  have fin : u = u2 ∧ LI σ2 (n + 10000) := by
    obtain ⟨e1, f1⟩ := hp
    obtain ⟨e2, v2, f2⟩ := hp2
    exact ⟨by rw [e1, e2], fin_ask hC hM hJ hn f1 v2 (fun q hq => f2 q (by simp; omega))⟩
  exact LG_icmp_eq (tgt := 1547) (hr1 _ rfl) (hr2 _ rfl) dL_law_1101 (by decide) (fun _ => hE σ2 hO2 fin.2) (fun hne => absurd fin.1 hne)

theorem lwc_28 {xL : Nat} {xs : Nat → Int32} {i n : Int} {σ : Mem} (hi : 0 ≤ i ∧ i + 6 ≤ xL ∧ xL ≤ 3072) (hO : OKm σ) (h : LI σ n) (hN : n ≤ 600000000) (hE : ∀ σ' : Mem, OKm σ' → LI σ' (n + 10000) → LG xL xs 1547 (LV i) [] σ') : LG xL xs 1106 (LV i) [] σ := by
  obtain ⟨A, Ls, IA, IL, tx, X, hC, hM, hJ, hn⟩ := h
  have hI := hC.1.1.2.2.1
  have hcn := hI.1
  refine LG_aload_n 1 rfl rfl dL_law_1106 ?_
  refine LG_call (as := []) cf_L_133 rfl rfl (sp_X11_centre 3 (Nat.le_refl _) _ hO  A tx hC.1.1) (by omega) rfl rfl (Nat.le_of_ble_eq_true rfl) dL_law_1107 ?_
  rintro _ σ1 ⟨u, rfl, hp⟩ hO1 hr1
  have a1 : ∀ q : Nat, 74 ≤ q → σ1 q = σ q := fun q hq => hp.2 q (by simp; omega)
  have hM1 := hM.other a1
  refine LG_aload_n 2 rfl rfl dL_law_1110 ?_
  refine LG_call (as := []) cf_L_136 rfl rfl (sp_X12_centre 3 (Nat.le_refl _) _ hO1  A tx hM1.1.1) (by omega) rfl rfl (Nat.le_of_ble_eq_true rfl) dL_law_1111 ?_
  rintro _ σ2 ⟨u2, rfl, hp2⟩ hO2 hr2
  have fin : u = u2 ∧ LI σ2 (n + 10000) := by
    obtain ⟨e1, f1⟩ := hp
    obtain ⟨e2, v2, f2⟩ := hp2
    exact ⟨by rw [e1, e2], fin_ask hC hM hJ hn f1 v2 (fun q hq => f2 q (by simp; omega))⟩
  exact LG_icmp_eq (tgt := 1547) (hr1 _ rfl) (hr2 _ rfl) dL_law_1114 (by decide) (fun _ => hE σ2 hO2 fin.2) (fun hne => absurd fin.1 hne)

theorem lwc_29 {xL : Nat} {xs : Nat → Int32} {i n : Int} {σ : Mem} (hi : 0 ≤ i ∧ i + 6 ≤ xL ∧ xL ≤ 3072) (hO : OKm σ) (h : LI σ n) (hN : n ≤ 600000000) (hE : ∀ σ' : Mem, OKm σ' → LI σ' (n + 10000) → LG xL xs 1547 (LV i) [] σ') : LG xL xs 1119 (LV i) [] σ := by
  obtain ⟨A, Ls, IA, IL, tx, X, hC, hM, hJ, hn⟩ := h
  have hI := hC.1.1.2.2.1
  have hcn := hI.1
  refine LG_aload_n 1 rfl rfl dL_law_1119 ?_
  refine LG_call (as := []) cf_L_137 rfl rfl (sp_X11_pieces 3 (Nat.le_refl _) _ hO  A tx hC.1.1) (by omega) rfl rfl (Nat.le_of_ble_eq_true rfl) dL_law_1120 ?_
  rintro _ σ1 ⟨u, rfl, hp⟩ hO1 hr1
  have a1 : ∀ q : Nat, 74 ≤ q → σ1 q = σ q := fun q hq => hp.2 q (by simp; omega)
  have hM1 := hM.other a1
  refine LG_aload_n 2 rfl rfl dL_law_1123 ?_
  refine LG_call (as := []) cf_L_140 rfl rfl (sp_X12_pieces 2 (Nat.le_refl _) _ hO1  A tx hM1.1.1) (by omega) rfl rfl (Nat.le_of_ble_eq_true rfl) dL_law_1124 ?_
  rintro _ σ2 ⟨u2, rfl, hp2⟩ hO2 hr2
  have fin : u = u2 ∧ LI σ2 (n + 10000) := by
    obtain ⟨e1, f1⟩ := hp
    obtain ⟨e2, eq⟩ := hp2
    exact ⟨by rw [e1, e2], fin_ask hC hM hJ hn f1 (by rw [eq]; exact hM1.1.1) (fun q _ => by rw [eq])⟩
  exact LG_icmp_eq (tgt := 1547) (hr1 _ rfl) (hr2 _ rfl) dL_law_1127 (by decide) (fun _ => hE σ2 hO2 fin.2) (fun hne => absurd fin.1 hne)

theorem lwc_30 {xL : Nat} {xs : Nat → Int32} {i n : Int} {σ : Mem} (hi : 0 ≤ i ∧ i + 6 ≤ xL ∧ xL ≤ 3072) (hO : OKm σ) (h : LI σ n) (hN : n ≤ 600000000) (hE : ∀ σ' : Mem, OKm σ' → LI σ' (n + 10000) → LG xL xs 1547 (LV i) [] σ') : LG xL xs 1132 (LV i) [] σ := by
  obtain ⟨A, Ls, IA, IL, tx, X, hC, hM, hJ, hn⟩ := h
  have hI := hC.1.1.2.2.1
  have hcn := hI.1
  refine LG_aload_n 1 rfl rfl dL_law_1132 ?_
  refine LG_sc (k := 1) hi (by omega) dL_law_1133 dL_law_1134 dL_law_1135 dL_law_1136 dL_law_1137 ?_
  refine LG_sc (k := 2) hi (by omega) dL_law_1138 dL_law_1139 dL_law_1140 dL_law_1141 dL_law_1142 ?_
  refine LG_call (as := [_, _]) cf_L_141 rfl rfl (sp_X11_times 5 (Nat.le_refl _) _ hO _ (sc_r _ _) _ (sc_r _ _) A tx hC.1.1) (by omega) rfl rfl (Nat.le_of_ble_eq_true rfl) dL_law_1143 ?_
  rintro _ σ1 ⟨u, rfl, hp⟩ hO1 hr1
  have a1 : ∀ q : Nat, 74 ≤ q → σ1 q = σ q := fun q hq => hp.2.2 q (by simp; omega)
  have hM1 := hM.other a1
  refine LG_aload_n 2 rfl rfl dL_law_1146 ?_
  refine LG_sc (k := 1) hi (by omega) dL_law_1147 dL_law_1148 dL_law_1149 dL_law_1150 dL_law_1151 ?_
  refine LG_sc (k := 2) hi (by omega) dL_law_1152 dL_law_1153 dL_law_1154 dL_law_1155 dL_law_1156 ?_
  refine LG_call (as := [_, _]) cf_L_144 rfl rfl (sp_X12_timesB 6 (Nat.le_refl _) _ hO1 _ (sc_r _ _) _ (sc_r _ _) A tx hM1.1.1) (by omega) rfl rfl (Nat.le_of_ble_eq_true rfl) dL_law_1157 ?_
  rintro _ σ2 ⟨u2, rfl, hp2⟩ hO2 hr2
  have fin : u = u2 ∧ LI σ2 (n + 10000) := by
    obtain ⟨e1, v1, f1⟩ := hp
    obtain ⟨e2, v2, j2, f2⟩ := hp2
    exact ⟨by rw [e1, e2], fin_g hC hM hJ hn (hC.vw v1 (fun q hq => f1 q (by simp; omega)) (by unfold netC; rw [f1 40 (by simp)]; exact hC.2.2.2)) a1 v2 (fun q h1 h2 => f2 q (by simp; omega)) j2⟩
  exact LG_icmp_eq (tgt := 1547) (hr1 _ rfl) (hr2 _ rfl) dL_law_1160 (by decide) (fun _ => hE σ2 hO2 fin.2) (fun hne => absurd fin.1 hne)

theorem lwc_31 {xL : Nat} {xs : Nat → Int32} {i n : Int} {σ : Mem} (hi : 0 ≤ i ∧ i + 6 ≤ xL ∧ xL ≤ 3072) (hO : OKm σ) (h : LI σ n) (hN : n ≤ 600000000) (hE : ∀ σ' : Mem, OKm σ' → LI σ' (n + 10000) → LG xL xs 1547 (LV i) [] σ') : LG xL xs 1165 (LV i) [] σ := by
  obtain ⟨A, Ls, IA, IL, tx, X, hC, hM, hJ, hn⟩ := h
  have hI := hC.1.1.2.2.1
  have hcn := hI.1
  refine LG_aload_n 1 rfl rfl dL_law_1165 ?_
  refine LG_sc (k := 1) hi (by omega) dL_law_1166 dL_law_1167 dL_law_1168 dL_law_1169 dL_law_1170 ?_
  refine LG_sc (k := 2) hi (by omega) dL_law_1171 dL_law_1172 dL_law_1173 dL_law_1174 dL_law_1175 ?_
  refine LG_call (as := [_, _]) cf_L_145 rfl rfl (sp_X11_crowd 13 (Nat.le_refl _) _ hO _ (sc_r _ _) _ (sc_r _ _) A tx hC.1.1) (by omega) rfl rfl (Nat.le_of_ble_eq_true rfl) dL_law_1176 ?_
  rintro _ σ1 ⟨u, rfl, hp⟩ hO1 hr1
  have a1 : ∀ q : Nat, 74 ≤ q → σ1 q = σ q := fun q hq => hp.2.2.2 q (by simp; omega)
  have hM1 := hM.other a1
  refine LG_aload_n 2 rfl rfl dL_law_1179 ?_
  refine LG_sc (k := 1) hi (by omega) dL_law_1180 dL_law_1181 dL_law_1182 dL_law_1183 dL_law_1184 ?_
  refine LG_sc (k := 2) hi (by omega) dL_law_1185 dL_law_1186 dL_law_1187 dL_law_1188 dL_law_1189 ?_
  refine LG_call (as := [_, _]) cf_L_148 rfl rfl (sp_X12_crowdB 7 (Nat.le_refl _) _ hO1 _ (sc_r _ _) _ (sc_r _ _) A tx hM1.1.1) (by omega) rfl rfl (Nat.le_of_ble_eq_true rfl) dL_law_1190 ?_
  rintro _ σ2 ⟨u2, rfl, hp2⟩ hO2 hr2
  have fin : u = u2 ∧ LI σ2 (n + 10000) := by
    obtain ⟨e1, v1, j1, f1⟩ := hp
    obtain ⟨e2, v2, j2, f2⟩ := hp2
    exact ⟨by rw [e1, e2], fin_g hC hM hJ hn (hC.vw v1 (fun q hq => f1 q (by simp; omega)) (by unfold netC; rw [f1 40 (by simp)]; exact hC.2.2.2)) a1 v2 (fun q h1 h2 => f2 q (by simp; omega)) j2⟩
  exact LG_icmp_eq (tgt := 1547) (hr1 _ rfl) (hr2 _ rfl) dL_law_1193 (by decide) (fun _ => hE σ2 hO2 fin.2) (fun hne => absurd fin.1 hne)

theorem lwc_32 {xL : Nat} {xs : Nat → Int32} {i n : Int} {σ : Mem} (hi : 0 ≤ i ∧ i + 6 ≤ xL ∧ xL ≤ 3072) (hO : OKm σ) (h : LI σ n) (hN : n ≤ 600000000) (hE : ∀ σ' : Mem, OKm σ' → LI σ' (n + 10000) → LG xL xs 1547 (LV i) [] σ') : LG xL xs 1198 (LV i) [] σ := by
  obtain ⟨A, Ls, IA, IL, tx, X, hC, hM, hJ, hn⟩ := h
  have hI := hC.1.1.2.2.1
  have hcn := hI.1
  refine LG_aload_n 1 rfl rfl dL_law_1198 ?_
  refine LG_sc (k := 1) hi (by omega) dL_law_1199 dL_law_1200 dL_law_1201 dL_law_1202 dL_law_1203 ?_
  refine LG_call (as := [_]) cf_L_149 rfl rfl (sp_X11_who 5 (Nat.le_refl _) _ hO _ (sc_r _ _) A tx IA IL ⟨hC.1.1, hC.2.1, hJ.who⟩) (by omega) rfl rfl (Nat.le_of_ble_eq_true rfl) dL_law_1204 ?_
  rintro _ σ1 ⟨u, rfl, hp⟩ hO1 hr1
  have a1 : ∀ q : Nat, 74 ≤ q → σ1 q = σ q := fun q hq => hp.2.2 q (by simp; omega)
  have hM1 := hM.other a1
  refine LG_aload_n 2 rfl rfl dL_law_1207 ?_
  refine LG_sc (k := 1) hi (by omega) dL_law_1208 dL_law_1209 dL_law_1210 dL_law_1211 dL_law_1212 ?_
  refine LG_call (as := [_]) cf_L_153 rfl rfl (sp_X12_whoB 5 (Nat.le_refl _) _ hO1 _ (sc_r _ _) A tx IA IL ⟨hM1.1.1, hM1.2.1, hJ.who⟩) (by omega) rfl rfl (Nat.le_of_ble_eq_true rfl) dL_law_1213 ?_
  rintro _ σ2 ⟨u2, rfl, hp2⟩ hO2 hr2
  have fin : u = u2 ∧ LI σ2 (n + 10000) := by
    obtain ⟨e1, v1, f1⟩ := hp
    obtain ⟨e2, v2, j2, f2⟩ := hp2
    exact ⟨by rw [e1, e2], fin_g hC hM hJ hn (hC.vw v1 (fun q hq => f1 q (by simp; omega)) (by unfold netC; rw [f1 40 (by simp)]; exact hC.2.2.2)) a1 v2 (fun q h1 h2 => f2 q (by simp; omega)) j2⟩
  exact LG_lcmp_eq (tgt := 1547) (hr1 _ rfl) (hr2 _ rfl) dL_law_1216 dL_law_1217 (by decide) (fun _ => hE σ2 hO2 fin.2) (fun hne => absurd fin.1 hne)

theorem lwc_33 {xL : Nat} {xs : Nat → Int32} {i n : Int} {σ : Mem} (hi : 0 ≤ i ∧ i + 6 ≤ xL ∧ xL ≤ 3072) (hO : OKm σ) (h : LI σ n) (hN : n ≤ 600000000) (hE : ∀ σ' : Mem, OKm σ' → LI σ' (n + 10000) → LG xL xs 1547 (LV i) [] σ') : LG xL xs 1222 (LV i) [] σ := by
  obtain ⟨A, Ls, IA, IL, tx, X, hC, hM, hJ, hn⟩ := h
  have hI := hC.1.1.2.2.1
  have hcn := hI.1
  by_cases hz : sc xs (i + 1) = 0
  · refine LG_aload_n 1 rfl rfl dL_law_1222 ?_
    refine LG_sc (k := 1) hi (by omega) dL_law_1223 dL_law_1224 dL_law_1225 dL_law_1226 dL_law_1227 ?_
    refine LG_if_eq (tgt := 1235) (sc_r _ _) dL_law_1228 (by decide) (fun _ => ?_) (fun h => absurd hz h)
    refine LG_iconst dL_law_1235 ?_
    refine LG_call (as := [_]) cf_L_154 rfl rfl (sp_X11_watch 3 (Nat.le_refl _) _ hO _ (rL 0 rfl) A tx hC.1.1) (by omega) rfl rfl (Nat.le_of_ble_eq_true rfl) dL_law_1236 ?_
    rintro _ σ1 ⟨u, rfl, hp⟩ hO1 hr1
    have a1 : ∀ q : Nat, 74 ≤ q → σ1 q = σ q := fun q hq => hp.2 q (by simp; omega)
    have hM1 := hM.other a1
    refine LG_aload_n 2 rfl rfl dL_law_1239 ?_
    refine LG_sc (k := 1) hi (by omega) dL_law_1240 dL_law_1241 dL_law_1242 dL_law_1243 dL_law_1244 ?_
    refine LG_if_eq (tgt := 1252) (sc_r _ _) dL_law_1245 (by decide) (fun _ => ?_) (fun h => absurd hz h)
    refine LG_iconst dL_law_1252 ?_
    refine LG_call (as := [_]) cf_L_157 rfl rfl (sp_X12_watch 2 (Nat.le_refl _) _ hO1 _ (rL 0 rfl) A tx hM1.1.1) (by omega) rfl rfl (Nat.le_of_ble_eq_true rfl) dL_law_1253 ?_
    rintro _ σ2 ⟨u2, rfl, hp2⟩ hO2 hr2
    have fin : u = u2 ∧ LI σ2 (n + 10000) := by
      obtain ⟨e1, f1⟩ := hp
      obtain ⟨e2, eq⟩ := hp2
      exact ⟨by rw [e1, e2], fin_ask hC hM hJ hn f1 (by rw [eq]; exact hM1.1.1) (fun q _ => by rw [eq])⟩
    exact LG_icmp_eq (tgt := 1547) (hr1 _ rfl) (hr2 _ rfl) dL_law_1256 (by decide) (fun _ => hE σ2 hO2 fin.2) (fun hne => absurd fin.1 hne)
  · refine LG_aload_n 1 rfl rfl dL_law_1222 ?_
    refine LG_sc (k := 1) hi (by omega) dL_law_1223 dL_law_1224 dL_law_1225 dL_law_1226 dL_law_1227 ?_
    refine LG_if_eq (tgt := 1235) (sc_r _ _) dL_law_1228 (by decide) (fun h => absurd h hz) (fun _ => ?_)
    refine LG_iconst dL_law_1231 ?_
    refine LG_goto (tgt := 1236) dL_law_1232 (by decide) ?_
    refine LG_call (as := [_]) cf_L_154 rfl rfl (sp_X11_watch 3 (Nat.le_refl _) _ hO _ (rL 1 rfl) A tx hC.1.1) (by omega) rfl rfl (Nat.le_of_ble_eq_true rfl) dL_law_1236 ?_
    rintro _ σ1 ⟨u, rfl, hp⟩ hO1 hr1
    have a1 : ∀ q : Nat, 74 ≤ q → σ1 q = σ q := fun q hq => hp.2 q (by simp; omega)
    have hM1 := hM.other a1
    refine LG_aload_n 2 rfl rfl dL_law_1239 ?_
    refine LG_sc (k := 1) hi (by omega) dL_law_1240 dL_law_1241 dL_law_1242 dL_law_1243 dL_law_1244 ?_
    refine LG_if_eq (tgt := 1252) (sc_r _ _) dL_law_1245 (by decide) (fun h => absurd h hz) (fun _ => ?_)
    refine LG_iconst dL_law_1248 ?_
    refine LG_goto (tgt := 1253) dL_law_1249 (by decide) ?_
    refine LG_call (as := [_]) cf_L_157 rfl rfl (sp_X12_watch 2 (Nat.le_refl _) _ hO1 _ (rL 1 rfl) A tx hM1.1.1) (by omega) rfl rfl (Nat.le_of_ble_eq_true rfl) dL_law_1253 ?_
    rintro _ σ2 ⟨u2, rfl, hp2⟩ hO2 hr2
    have fin : u = u2 ∧ LI σ2 (n + 10000) := by
      obtain ⟨e1, f1⟩ := hp
      obtain ⟨e2, eq⟩ := hp2
      exact ⟨by rw [e1, e2], fin_ask hC hM hJ hn f1 (by rw [eq]; exact hM1.1.1) (fun q _ => by rw [eq])⟩
    exact LG_icmp_eq (tgt := 1547) (hr1 _ rfl) (hr2 _ rfl) dL_law_1256 (by decide) (fun _ => hE σ2 hO2 fin.2) (fun hne => absurd fin.1 hne)

theorem lwc_34 {xL : Nat} {xs : Nat → Int32} {i n : Int} {σ : Mem} (hi : 0 ≤ i ∧ i + 6 ≤ xL ∧ xL ≤ 3072) (hO : OKm σ) (h : LI σ n) (hN : n ≤ 600000000) (hE : ∀ σ' : Mem, OKm σ' → LI σ' (n + 10000) → LG xL xs 1547 (LV i) [] σ') : LG xL xs 1261 (LV i) [] σ := by
  obtain ⟨A, Ls, IA, IL, tx, X, hC, hM, hJ, hn⟩ := h
  have hI := hC.1.1.2.2.1
  have hcn := hI.1
  refine LG_aload_n 1 rfl rfl dL_law_1261 ?_
  refine LG_call (as := []) cf_L_158 rfl rfl (sp_X11_colours 3 (Nat.le_refl _) _ hO  A tx hC.1.1) (by omega) rfl rfl (Nat.le_of_ble_eq_true rfl) dL_law_1262 ?_
  rintro _ σ1 ⟨u, rfl, hp⟩ hO1 hr1
  have a1 : ∀ q : Nat, 74 ≤ q → σ1 q = σ q := fun q hq => hp.2 q (by simp; omega)
  have hM1 := hM.other a1
  refine LG_aload_n 2 rfl rfl dL_law_1265 ?_
  refine LG_call (as := []) cf_L_161 rfl rfl (sp_X12_colours 2 (Nat.le_refl _) _ hO1  A tx hM1.1.1) (by omega) rfl rfl (Nat.le_of_ble_eq_true rfl) dL_law_1266 ?_
  rintro _ σ2 ⟨u2, rfl, hp2⟩ hO2 hr2
  have fin : u = u2 ∧ LI σ2 (n + 10000) := by
    obtain ⟨e1, f1⟩ := hp
    obtain ⟨e2, v2, f2⟩ := hp2
    exact ⟨by rw [e1, e2], fin_ask hC hM hJ hn f1 v2 (fun q hq => f2 q (by simp; omega))⟩
  exact LG_icmp_eq (tgt := 1547) (hr1 _ rfl) (hr2 _ rfl) dL_law_1269 (by decide) (fun _ => hE σ2 hO2 fin.2) (fun hne => absurd fin.1 hne)

theorem lwc_35 {xL : Nat} {xs : Nat → Int32} {i n : Int} {σ : Mem} (hi : 0 ≤ i ∧ i + 6 ≤ xL ∧ xL ≤ 3072) (hO : OKm σ) (h : LI σ n) (hN : n ≤ 600000000) (hE : ∀ σ' : Mem, OKm σ' → LI σ' (n + 10000) → LG xL xs 1547 (LV i) [] σ') : LG xL xs 1274 (LV i) [] σ := by
  obtain ⟨A, Ls, IA, IL, tx, X, hC, hM, hJ, hn⟩ := h
  have hI := hC.1.1.2.2.1
  have hcn := hI.1
  by_cases hz : sc xs (i + 4) = 0
  · refine LG_aload_n 1 rfl rfl dL_law_1274 ?_
    refine LG_sc (k := 1) hi (by omega) dL_law_1275 dL_law_1276 dL_law_1277 dL_law_1278 dL_law_1279 ?_
    refine LG_sc (k := 2) hi (by omega) dL_law_1280 dL_law_1281 dL_law_1282 dL_law_1283 dL_law_1284 ?_
    refine LG_sc (k := 3) hi (by omega) dL_law_1285 dL_law_1286 dL_law_1287 dL_law_1288 dL_law_1289 ?_
    refine LG_sc (k := 4) hi (by omega) dL_law_1290 dL_law_1291 dL_law_1292 dL_law_1293 dL_law_1294 ?_
    refine LG_if_eq (tgt := 1302) (sc_r _ _) dL_law_1295 (by decide) (fun _ => ?_) (fun h => absurd hz h)
    refine LG_iconst dL_law_1302 ?_
    refine LG_call (as := [_, _, _, _]) cf_L_162 rfl rfl (sp_X11_likely 4 (Nat.le_refl _) _ hO _ (sc_r _ _) _ (sc_r _ _) _ (sc_r _ _) _ (rL 0 rfl) A tx ⟨hC.1.1, hC.2.2.2⟩) (by omega) rfl rfl (Nat.le_of_ble_eq_true rfl) dL_law_1303 ?_
    rintro _ σ1 ⟨u, rfl, hp⟩ hO1 hr1
    have a1 : ∀ q : Nat, 74 ≤ q → σ1 q = σ q := fun q hq => hp.2.2.2.2 q (by simp; omega)
    have hM1 := hM.other a1
    refine LG_aload_n 2 rfl rfl dL_law_1306 ?_
    refine LG_sc (k := 1) hi (by omega) dL_law_1307 dL_law_1308 dL_law_1309 dL_law_1310 dL_law_1311 ?_
    refine LG_sc (k := 2) hi (by omega) dL_law_1312 dL_law_1313 dL_law_1314 dL_law_1315 dL_law_1316 ?_
    refine LG_sc (k := 3) hi (by omega) dL_law_1317 dL_law_1318 dL_law_1319 dL_law_1320 dL_law_1321 ?_
    refine LG_sc (k := 4) hi (by omega) dL_law_1322 dL_law_1323 dL_law_1324 dL_law_1325 dL_law_1326 ?_
    refine LG_if_eq (tgt := 1334) (sc_r _ _) dL_law_1327 (by decide) (fun _ => ?_) (fun h => absurd hz h)
    refine LG_iconst dL_law_1334 ?_
    refine LG_call (as := [_, _, _, _]) cf_L_166 rfl rfl (sp_X12_likely 4 (Nat.le_refl _) _ hO1 _ (sc_r _ _) _ (sc_r _ _) _ (sc_r _ _) _ (rL 0 rfl) A tx hM1.1.1) (by omega) rfl rfl (Nat.le_of_ble_eq_true rfl) dL_law_1335 ?_
    rintro _ σ2 ⟨u2, rfl, hp2⟩ hO2 hr2
    have fin : u = u2 ∧ LI σ2 (n + 10000) := by
      obtain ⟨e1, v1, n1, j1, f1⟩ := hp
      obtain ⟨e2, v2, f2⟩ := hp2
      exact ⟨by rw [e1, e2], fin_g hC hM hJ hn (hC.vw v1 (fun q hq => f1 q (by simp; omega)) n1) a1 v2 (fun q h1 h2 => f2 q (by simp; omega)) (fun j _ => by rw [f2 75 (by simp)])⟩
    exact LG_lcmp_eq (tgt := 1547) (hr1 _ rfl) (hr2 _ rfl) dL_law_1338 dL_law_1339 (by decide) (fun _ => hE σ2 hO2 fin.2) (fun hne => absurd fin.1 hne)
  · refine LG_aload_n 1 rfl rfl dL_law_1274 ?_
    refine LG_sc (k := 1) hi (by omega) dL_law_1275 dL_law_1276 dL_law_1277 dL_law_1278 dL_law_1279 ?_
    refine LG_sc (k := 2) hi (by omega) dL_law_1280 dL_law_1281 dL_law_1282 dL_law_1283 dL_law_1284 ?_
    refine LG_sc (k := 3) hi (by omega) dL_law_1285 dL_law_1286 dL_law_1287 dL_law_1288 dL_law_1289 ?_
    refine LG_sc (k := 4) hi (by omega) dL_law_1290 dL_law_1291 dL_law_1292 dL_law_1293 dL_law_1294 ?_
    refine LG_if_eq (tgt := 1302) (sc_r _ _) dL_law_1295 (by decide) (fun h => absurd h hz) (fun _ => ?_)
    refine LG_iconst dL_law_1298 ?_
    refine LG_goto (tgt := 1303) dL_law_1299 (by decide) ?_
    refine LG_call (as := [_, _, _, _]) cf_L_162 rfl rfl (sp_X11_likely 4 (Nat.le_refl _) _ hO _ (sc_r _ _) _ (sc_r _ _) _ (sc_r _ _) _ (rL 1 rfl) A tx ⟨hC.1.1, hC.2.2.2⟩) (by omega) rfl rfl (Nat.le_of_ble_eq_true rfl) dL_law_1303 ?_
    rintro _ σ1 ⟨u, rfl, hp⟩ hO1 hr1
    have a1 : ∀ q : Nat, 74 ≤ q → σ1 q = σ q := fun q hq => hp.2.2.2.2 q (by simp; omega)
    have hM1 := hM.other a1
    refine LG_aload_n 2 rfl rfl dL_law_1306 ?_
    refine LG_sc (k := 1) hi (by omega) dL_law_1307 dL_law_1308 dL_law_1309 dL_law_1310 dL_law_1311 ?_
    refine LG_sc (k := 2) hi (by omega) dL_law_1312 dL_law_1313 dL_law_1314 dL_law_1315 dL_law_1316 ?_
    refine LG_sc (k := 3) hi (by omega) dL_law_1317 dL_law_1318 dL_law_1319 dL_law_1320 dL_law_1321 ?_
    refine LG_sc (k := 4) hi (by omega) dL_law_1322 dL_law_1323 dL_law_1324 dL_law_1325 dL_law_1326 ?_
    refine LG_if_eq (tgt := 1334) (sc_r _ _) dL_law_1327 (by decide) (fun h => absurd h hz) (fun _ => ?_)
    refine LG_iconst dL_law_1330 ?_
    refine LG_goto (tgt := 1335) dL_law_1331 (by decide) ?_
    refine LG_call (as := [_, _, _, _]) cf_L_166 rfl rfl (sp_X12_likely 4 (Nat.le_refl _) _ hO1 _ (sc_r _ _) _ (sc_r _ _) _ (sc_r _ _) _ (rL 1 rfl) A tx hM1.1.1) (by omega) rfl rfl (Nat.le_of_ble_eq_true rfl) dL_law_1335 ?_
    rintro _ σ2 ⟨u2, rfl, hp2⟩ hO2 hr2
    have fin : u = u2 ∧ LI σ2 (n + 10000) := by
      obtain ⟨e1, v1, n1, j1, f1⟩ := hp
      obtain ⟨e2, v2, f2⟩ := hp2
      exact ⟨by rw [e1, e2], fin_g hC hM hJ hn (hC.vw v1 (fun q hq => f1 q (by simp; omega)) n1) a1 v2 (fun q h1 h2 => f2 q (by simp; omega)) (fun j _ => by rw [f2 75 (by simp)])⟩
    exact LG_lcmp_eq (tgt := 1547) (hr1 _ rfl) (hr2 _ rfl) dL_law_1338 dL_law_1339 (by decide) (fun _ => hE σ2 hO2 fin.2) (fun hne => absurd fin.1 hne)

theorem lwc_36 {xL : Nat} {xs : Nat → Int32} {i n : Int} {σ : Mem} (hi : 0 ≤ i ∧ i + 6 ≤ xL ∧ xL ≤ 3072) (hO : OKm σ) (h : LI σ n) (hN : n ≤ 600000000) (hE : ∀ σ' : Mem, OKm σ' → LI σ' (n + 10000) → LG xL xs 1547 (LV i) [] σ') : LG xL xs 1344 (LV i) [] σ := by
  obtain ⟨A, Ls, IA, IL, tx, X, hC, hM, hJ, hn⟩ := h
  have hI := hC.1.1.2.2.1
  have hcn := hI.1
  refine LG_aload_n 1 rfl rfl dL_law_1344 ?_
  refine LG_sc (k := 1) hi (by omega) dL_law_1345 dL_law_1346 dL_law_1347 dL_law_1348 dL_law_1349 ?_
  refine LG_call (as := [_]) cf_L_167 rfl rfl (sp_X11_ring 3 (Nat.le_refl _) _ hO _ (sc_r _ _) A tx hC.1.1) (by omega) rfl rfl (Nat.le_of_ble_eq_true rfl) dL_law_1350 ?_
  rintro _ σ1 ⟨u, rfl, hp⟩ hO1 hr1
  have a1 : ∀ q : Nat, 74 ≤ q → σ1 q = σ q := fun q hq => hp.2 q (by simp; omega)
  have hM1 := hM.other a1
  refine LG_aload_n 2 rfl rfl dL_law_1353 ?_
  refine LG_sc (k := 1) hi (by omega) dL_law_1354 dL_law_1355 dL_law_1356 dL_law_1357 dL_law_1358 ?_
  refine LG_call (as := [_]) cf_L_170 rfl rfl (sp_X12_ring 2 (Nat.le_refl _) _ hO1 _ (sc_r _ _) A tx hM1.1.1) (by omega) rfl rfl (Nat.le_of_ble_eq_true rfl) dL_law_1359 ?_
  rintro _ σ2 ⟨u2, rfl, hp2⟩ hO2 hr2
  have fin : u = u2 ∧ LI σ2 (n + 10000) := by
    obtain ⟨e1, f1⟩ := hp
    obtain ⟨e2, v2, f2⟩ := hp2
    exact ⟨by rw [e1, e2], fin_ask hC hM hJ hn f1 v2 (fun q hq => f2 q (by simp; omega))⟩
  exact LG_icmp_eq (tgt := 1547) (hr1 _ rfl) (hr2 _ rfl) dL_law_1362 (by decide) (fun _ => hE σ2 hO2 fin.2) (fun hne => absurd fin.1 hne)

theorem lwc_37 {xL : Nat} {xs : Nat → Int32} {i n : Int} {σ : Mem} (hi : 0 ≤ i ∧ i + 6 ≤ xL ∧ xL ≤ 3072) (hO : OKm σ) (h : LI σ n) (hN : n ≤ 600000000) (hE : ∀ σ' : Mem, OKm σ' → LI σ' (n + 10000) → LG xL xs 1547 (LV i) [] σ') : LG xL xs 1367 (LV i) [] σ := by
  obtain ⟨A, Ls, IA, IL, tx, X, hC, hM, hJ, hn⟩ := h
  have hI := hC.1.1.2.2.1
  have hcn := hI.1
  refine LG_aload_n 1 rfl rfl dL_law_1367 ?_
  refine LG_call (as := []) cf_L_171 rfl rfl (sp_X11_stranded 5 (Nat.le_refl _) _ hO  A tx hC.1.1) (by omega) rfl rfl (Nat.le_of_ble_eq_true rfl) dL_law_1368 ?_
  rintro _ σ1 ⟨u, rfl, hp⟩ hO1 hr1
  have a1 : ∀ q : Nat, 74 ≤ q → σ1 q = σ q := fun q hq => hp.2 q (by simp; omega)
  have hM1 := hM.other a1
  refine LG_aload_n 2 rfl rfl dL_law_1371 ?_
  refine LG_call (as := []) cf_L_174 rfl rfl (sp_X12_stranded 8 (Nat.le_refl _) _ hO1  A tx hM1.1.1) (by omega) rfl rfl (Nat.le_of_ble_eq_true rfl) dL_law_1372 ?_
  rintro _ σ2 ⟨u2, rfl, hp2⟩ hO2 hr2
  have fin : u = u2 ∧ LI σ2 (n + 10000) := by
    obtain ⟨e1, f1⟩ := hp
    obtain ⟨e2, v2, f2⟩ := hp2
    exact ⟨by rw [e1, e2], fin_ask hC hM hJ hn f1 v2 (fun q hq => f2 q (by simp; omega))⟩
  exact LG_icmp_eq (tgt := 1547) (hr1 _ rfl) (hr2 _ rfl) dL_law_1375 (by decide) (fun _ => hE σ2 hO2 fin.2) (fun hne => absurd fin.1 hne)

theorem lwc_38 {xL : Nat} {xs : Nat → Int32} {i n : Int} {σ : Mem} (hi : 0 ≤ i ∧ i + 6 ≤ xL ∧ xL ≤ 3072) (hO : OKm σ) (h : LI σ n) (hN : n ≤ 600000000) (hE : ∀ σ' : Mem, OKm σ' → LI σ' (n + 10000) → LG xL xs 1547 (LV i) [] σ') : LG xL xs 1380 (LV i) [] σ := by
  obtain ⟨A, Ls, IA, IL, tx, X, hC, hM, hJ, hn⟩ := h
  have hI := hC.1.1.2.2.1
  have hcn := hI.1
  refine LG_aload_n 1 rfl rfl dL_law_1380 ?_
  refine LG_sc (k := 1) hi (by omega) dL_law_1381 dL_law_1382 dL_law_1383 dL_law_1384 dL_law_1385 ?_
  refine LG_sc (k := 2) hi (by omega) dL_law_1386 dL_law_1387 dL_law_1388 dL_law_1389 dL_law_1390 ?_
  refine LG_sc (k := 3) hi (by omega) dL_law_1391 dL_law_1392 dL_law_1393 dL_law_1394 dL_law_1395 ?_
  refine LG_call (as := [_, _, _]) cf_L_175 rfl rfl (sp_X11_said 1 (Nat.le_refl _) _ hO _ (sc_r _ _) _ (sc_r _ _) _ (sc_r _ _) A Ls tx hC.1) (by omega) rfl rfl (Nat.le_of_ble_eq_true rfl) dL_law_1396 ?_
  rintro _ σ1 ⟨u, rfl, hp⟩ hO1 hr1
  have a1 : ∀ q : Nat, 74 ≤ q → σ1 q = σ q := fun q hq => hp.2.2.2 q (by simp; omega)
  have hM1 := hM.other a1
  refine LG_aload_n 2 rfl rfl dL_law_1399 ?_
  refine LG_sc (k := 1) hi (by omega) dL_law_1400 dL_law_1401 dL_law_1402 dL_law_1403 dL_law_1404 ?_
  refine LG_sc (k := 2) hi (by omega) dL_law_1405 dL_law_1406 dL_law_1407 dL_law_1408 dL_law_1409 ?_
  refine LG_sc (k := 3) hi (by omega) dL_law_1410 dL_law_1411 dL_law_1412 dL_law_1413 dL_law_1414 ?_
  refine LG_call (as := [_, _, _]) cf_L_178 rfl rfl (sp_X12_said 2 (Nat.le_refl _) _ hO1 _ (sc_r _ _) _ (sc_r _ _) _ (sc_r _ _) A Ls tx hM1.1) (by omega) rfl rfl (Nat.le_of_ble_eq_true rfl) dL_law_1415 ?_
  rintro _ σ2 ⟨u2, rfl, hp2⟩ hO2 hr2
  have fin : u = u2 ∧ LI σ2 (n + 10000) := by
    obtain ⟨p1, p2, p3, f1⟩ := hp
    obtain ⟨m1, m2, m3, f2⟩ := hp2
    have cv : ∀ A2 : Mem, vsC σ1 A2 Ls tx → fullC σ1 A2 Ls IA IL tx X := fun A2 h => hC.vs h (fun q hq => f1 q (by simp; omega))
    by_cases hc : (sc xs (i + 1)) = -1
    · obtain ⟨e1, v1⟩ := p1 hc
      obtain ⟨e2, v2⟩ := m1 hc
      exact ⟨by rw [e1, e2], fin_vs hC hM hJ hn (cv _ v1) a1 v2 (stM.of75 f2) (by omega) (hJ.1.q10 (by omega)) (extA.q10 (by omega))⟩
    · by_cases hd : saidOK A (sc xs (i + 1)) (sc xs (i + 2)) (sc xs (i + 3))
      · obtain ⟨e1, v1⟩ := p2 hc hd
        obtain ⟨e2, v2⟩ := m2 hc hd
        exact ⟨by rw [e1, e2], fin_vs hC hM hJ hn (cv _ v1) a1 v2 (stM.of75 f2) (by omega) hJ.1.said extA.said⟩
      · obtain ⟨e1, v1⟩ := p3 hc hd
        obtain ⟨e2, v2⟩ := m3 hc hd
        exact ⟨by rw [e1, e2], fin_vs hC hM hJ hn (cv _ v1) a1 v2 (stM.of75 f2) (by omega) hJ.1 (extA.rf A)⟩
  exact LG_icmp_eq (tgt := 1547) (hr1 _ rfl) (hr2 _ rfl) dL_law_1418 (by decide) (fun _ => hE σ2 hO2 fin.2) (fun hne => absurd fin.1 hne)

theorem lwc_39 {xL : Nat} {xs : Nat → Int32} {i n : Int} {σ : Mem} (hi : 0 ≤ i ∧ i + 6 ≤ xL ∧ xL ≤ 3072) (hO : OKm σ) (h : LI σ n) (hN : n ≤ 600000000) (hE : ∀ σ' : Mem, OKm σ' → LI σ' (n + 10000) → LG xL xs 1547 (LV i) [] σ') : LG xL xs 1423 (LV i) [] σ := by
  obtain ⟨A, Ls, IA, IL, tx, X, hC, hM, hJ, hn⟩ := h
  have hI := hC.1.1.2.2.1
  have hcn := hI.1
  refine LG_aload_n 1 rfl rfl dL_law_1423 ?_
  refine LG_call (as := []) cf_L_179 rfl rfl (sp_X11_whose 5 (Nat.le_refl _) _ hO  A tx hC.1.1) (by omega) rfl rfl (Nat.le_of_ble_eq_true rfl) dL_law_1424 ?_
  rintro _ σ1 ⟨u, rfl, hp⟩ hO1 hr1
  have a1 : ∀ q : Nat, 74 ≤ q → σ1 q = σ q := fun q hq => hp.2 q (by simp; omega)
  have hM1 := hM.other a1
  refine LG_aload_n 2 rfl rfl dL_law_1427 ?_
  refine LG_call (as := []) cf_L_182 rfl rfl (sp_X12_whose 5 (Nat.le_refl _) _ hO1  A tx hM1.1.1) (by omega) rfl rfl (Nat.le_of_ble_eq_true rfl) dL_law_1428 ?_
  rintro _ σ2 ⟨u2, rfl, hp2⟩ hO2 hr2
  have fin : u = u2 ∧ LI σ2 (n + 10000) := by
    obtain ⟨e1, f1⟩ := hp
    obtain ⟨e2, v2, f2⟩ := hp2
    exact ⟨by rw [e1, e2], fin_ask hC hM hJ hn f1 v2 (fun q hq => f2 q (by simp; omega))⟩
  exact LG_icmp_eq (tgt := 1547) (hr1 _ rfl) (hr2 _ rfl) dL_law_1431 (by decide) (fun _ => hE σ2 hO2 fin.2) (fun hne => absurd fin.1 hne)

theorem lwc_40 {xL : Nat} {xs : Nat → Int32} {i n : Int} {σ : Mem} (hi : 0 ≤ i ∧ i + 6 ≤ xL ∧ xL ≤ 3072) (hO : OKm σ) (h : LI σ n) (hN : n ≤ 600000000) (hE : ∀ σ' : Mem, OKm σ' → LI σ' (n + 10000) → LG xL xs 1547 (LV i) [] σ') : LG xL xs 1436 (LV i) [] σ := by
  obtain ⟨A, Ls, IA, IL, tx, X, hC, hM, hJ, hn⟩ := h
  have hI := hC.1.1.2.2.1
  have hcn := hI.1
  refine LG_aload_n 1 rfl rfl dL_law_1436 ?_
  refine LG_call (as := []) cf_L_183 rfl rfl (sp_X11_thinnest 0 (Nat.le_refl _) _ hO  A tx hC.1.1) (by omega) rfl rfl (Nat.le_of_ble_eq_true rfl) dL_law_1437 ?_
  rintro _ σ1 ⟨u, rfl, hp⟩ hO1 hr1
  have a1 : ∀ q : Nat, 74 ≤ q → σ1 q = σ q := fun q hq => hp.2 q (by simp; omega)
  have hM1 := hM.other a1
  refine LG_aload_n 2 rfl rfl dL_law_1440 ?_
  refine LG_call (as := []) cf_L_186 rfl rfl (sp_X12_thinnest 0 (Nat.le_refl _) _ hO1  A tx hM1.1.1) (by omega) rfl rfl (Nat.le_of_ble_eq_true rfl) dL_law_1441 ?_
  rintro _ σ2 ⟨u2, rfl, hp2⟩ hO2 hr2
  have fin : u = u2 ∧ LI σ2 (n + 10000) := by
    obtain ⟨e1, f1⟩ := hp
    obtain ⟨e2, v2, f2⟩ := hp2
    exact ⟨by rw [e1, e2], fin_ask hC hM hJ hn f1 v2 (fun q hq => f2 q (by simp; omega))⟩
  exact LG_icmp_eq (tgt := 1547) (hr1 _ rfl) (hr2 _ rfl) dL_law_1444 (by decide) (fun _ => hE σ2 hO2 fin.2) (fun hne => absurd fin.1 hne)

theorem lwc_41 {xL : Nat} {xs : Nat → Int32} {i n : Int} {σ : Mem} (hi : 0 ≤ i ∧ i + 6 ≤ xL ∧ xL ≤ 3072) (hO : OKm σ) (h : LI σ n) (hN : n ≤ 600000000) (hE : ∀ σ' : Mem, OKm σ' → LI σ' (n + 10000) → LG xL xs 1547 (LV i) [] σ') : LG xL xs 1449 (LV i) [] σ := by
  obtain ⟨A, Ls, IA, IL, tx, X, hC, hM, hJ, hn⟩ := h
  have hI := hC.1.1.2.2.1
  have hcn := hI.1
  refine LG_aload_n 1 rfl rfl dL_law_1449 ?_
  refine LG_call (as := []) cf_L_187 rfl rfl (sp_X11_busiest 0 (Nat.le_refl _) _ hO  A tx hC.1.1) (by omega) rfl rfl (Nat.le_of_ble_eq_true rfl) dL_law_1450 ?_
  rintro _ σ1 ⟨u, rfl, hp⟩ hO1 hr1
  have a1 : ∀ q : Nat, 74 ≤ q → σ1 q = σ q := fun q hq => hp.2 q (by simp; omega)
  have hM1 := hM.other a1
  refine LG_aload_n 2 rfl rfl dL_law_1453 ?_
  refine LG_call (as := []) cf_L_190 rfl rfl (sp_X12_busiest 1 (Nat.le_refl _) _ hO1  A tx hM1.1.1) (by omega) rfl rfl (Nat.le_of_ble_eq_true rfl) dL_law_1454 ?_
  rintro _ σ2 ⟨u2, rfl, hp2⟩ hO2 hr2
  have fin : u = u2 ∧ LI σ2 (n + 10000) := by
    obtain ⟨e1, f1⟩ := hp
    obtain ⟨e2, v2, f2⟩ := hp2
    exact ⟨by rw [e1, e2], fin_ask hC hM hJ hn f1 v2 (fun q hq => f2 q (by simp; omega))⟩
  exact LG_icmp_eq (tgt := 1547) (hr1 _ rfl) (hr2 _ rfl) dL_law_1457 (by decide) (fun _ => hE σ2 hO2 fin.2) (fun hne => absurd fin.1 hne)

theorem lwc_42 {xL : Nat} {xs : Nat → Int32} {i n : Int} {σ : Mem} (hi : 0 ≤ i ∧ i + 6 ≤ xL ∧ xL ≤ 3072) (hO : OKm σ) (h : LI σ n) (hN : n ≤ 600000000) (hE : ∀ σ' : Mem, OKm σ' → LI σ' (n + 10000) → LG xL xs 1547 (LV i) [] σ') : LG xL xs 1462 (LV i) [] σ := by
  obtain ⟨A, Ls, IA, IL, tx, X, hC, hM, hJ, hn⟩ := h
  have hI := hC.1.1.2.2.1
  have hcn := hI.1
  refine LG_aload_n 1 rfl rfl dL_law_1462 ?_
  refine LG_call (as := []) cf_L_191 rfl rfl (sp_X11_lonely 2 (Nat.le_refl _) _ hO  A tx hC.1.1) (by omega) rfl rfl (Nat.le_of_ble_eq_true rfl) dL_law_1463 ?_
  rintro _ σ1 ⟨u, rfl, hp⟩ hO1 hr1
  have a1 : ∀ q : Nat, 74 ≤ q → σ1 q = σ q := fun q hq => hp.2 q (by simp; omega)
  have hM1 := hM.other a1
  refine LG_aload_n 2 rfl rfl dL_law_1466 ?_
  refine LG_call (as := []) cf_L_194 rfl rfl (sp_X12_lonely 2 (Nat.le_refl _) _ hO1  A tx hM1.1.1) (by omega) rfl rfl (Nat.le_of_ble_eq_true rfl) dL_law_1467 ?_
  rintro _ σ2 ⟨u2, rfl, hp2⟩ hO2 hr2
  have fin : u = u2 ∧ LI σ2 (n + 10000) := by
    obtain ⟨e1, f1⟩ := hp
    obtain ⟨e2, v2, f2⟩ := hp2
    exact ⟨by rw [e1, e2], fin_ask hC hM hJ hn f1 v2 (fun q hq => f2 q (by simp; omega))⟩
  exact LG_icmp_eq (tgt := 1547) (hr1 _ rfl) (hr2 _ rfl) dL_law_1470 (by decide) (fun _ => hE σ2 hO2 fin.2) (fun hne => absurd fin.1 hne)

theorem lwc_43 {xL : Nat} {xs : Nat → Int32} {i n : Int} {σ : Mem} (hi : 0 ≤ i ∧ i + 6 ≤ xL ∧ xL ≤ 3072) (hO : OKm σ) (h : LI σ n) (hN : n ≤ 600000000) (hE : ∀ σ' : Mem, OKm σ' → LI σ' (n + 10000) → LG xL xs 1547 (LV i) [] σ') : LG xL xs 1475 (LV i) [] σ := by
  obtain ⟨A, Ls, IA, IL, tx, X, hC, hM, hJ, hn⟩ := h
  have hI := hC.1.1.2.2.1
  have hcn := hI.1
  refine LG_aload_n 1 rfl rfl dL_law_1475 ?_
  refine LG_sc (k := 1) hi (by omega) dL_law_1476 dL_law_1477 dL_law_1478 dL_law_1479 dL_law_1480 ?_
  refine LG_call (as := [_]) cf_L_195 rfl rfl (sp_X11_ledger 1 (Nat.le_refl _) _ hO _ (sc_r _ _) A tx hC.1.1) (by omega) rfl rfl (Nat.le_of_ble_eq_true rfl) dL_law_1481 ?_
  rintro _ σ1 ⟨u, rfl, hp⟩ hO1 hr1
  have a1 : ∀ q : Nat, 74 ≤ q → σ1 q = σ q := fun q hq => hp.2 q (by simp; omega)
  have hM1 := hM.other a1
  refine LG_aload_n 2 rfl rfl dL_law_1484 ?_
  refine LG_sc (k := 1) hi (by omega) dL_law_1485 dL_law_1486 dL_law_1487 dL_law_1488 dL_law_1489 ?_
  refine LG_call (as := [_]) cf_L_198 rfl rfl (sp_X12_ledger 2 (Nat.le_refl _) _ hO1 _ (sc_r _ _) A tx hM1.1.1) (by omega) rfl rfl (Nat.le_of_ble_eq_true rfl) dL_law_1490 ?_
  rintro _ σ2 ⟨u2, rfl, hp2⟩ hO2 hr2
  have fin : u = u2 ∧ LI σ2 (n + 10000) := by
    obtain ⟨e1, f1⟩ := hp
    obtain ⟨e2, v2, f2⟩ := hp2
    exact ⟨by rw [e1, e2], fin_ask hC hM hJ hn f1 v2 (fun q hq => f2 q (by simp; omega))⟩
  exact LG_icmp_eq (tgt := 1547) (hr1 _ rfl) (hr2 _ rfl) dL_law_1493 (by decide) (fun _ => hE σ2 hO2 fin.2) (fun hne => absurd fin.1 hne)

theorem lwc_44 {xL : Nat} {xs : Nat → Int32} {i n : Int} {σ : Mem} (hi : 0 ≤ i ∧ i + 6 ≤ xL ∧ xL ≤ 3072) (hO : OKm σ) (h : LI σ n) (hN : n ≤ 600000000) (hE : ∀ σ' : Mem, OKm σ' → LI σ' (n + 10000) → LG xL xs 1547 (LV i) [] σ') : LG xL xs 1498 (LV i) [] σ := by
  obtain ⟨A, Ls, IA, IL, tx, X, hC, hM, hJ, hn⟩ := h
  have hI := hC.1.1.2.2.1
  have hcn := hI.1
  refine LG_aload_n 1 rfl rfl dL_law_1498 ?_
  refine LG_call (as := []) cf_L_199 rfl rfl (sp_X11_image 1 (Nat.le_refl _) _ hO  A Ls IA IL tx X hC) (by omega) rfl rfl (Nat.le_of_ble_eq_true rfl) dL_law_1499 ?_
  rintro _ σ1 ⟨u, rfl, hp⟩ hO1 hr1
  have a1 : ∀ q : Nat, 74 ≤ q → σ1 q = σ q := fun q hq => hp.2.2 q hq
  have hM1 := hM.other a1
  refine LG_aload_n 2 rfl rfl dL_law_1502 ?_
  refine LG_call (as := []) cf_L_202 rfl rfl (sp_X12_image 1 (Nat.le_refl _) _ hO1  A Ls IA IL tx X hM1) (by omega) rfl rfl (Nat.le_of_ble_eq_true rfl) dL_law_1503 ?_
  rintro _ σ2 ⟨u2, rfl, hp2⟩ hO2 hr2
  have fin : u = u2 ∧ LI σ2 (n + 10000) := by
    obtain ⟨e1, c1, f1⟩ := hp
    obtain ⟨e2, c2, f2, g2⟩ := hp2
    exact ⟨by rw [e1, e2], fin_all hC hM hJ hn c1 a1 c2 f2 (by rw [g2]) ⟨hJ.1, hI, hJ.1, extA.rf A, hJ.2.2.2.2⟩⟩
  exact LG_icmp_eq (tgt := 1547) (hr1 _ rfl) (hr2 _ rfl) dL_law_1506 (by decide) (fun _ => hE σ2 hO2 fin.2) (fun hne => absurd fin.1 hne)

theorem lwc_45 {xL : Nat} {xs : Nat → Int32} {i n : Int} {σ : Mem} (hi : 0 ≤ i ∧ i + 6 ≤ xL ∧ xL ≤ 3072) (hO : OKm σ) (h : LI σ n) (hN : n ≤ 600000000) (hE : ∀ σ' : Mem, OKm σ' → LI σ' (n + 10000) → LG xL xs 1547 (LV i) [] σ') : LG xL xs 1511 (LV i) [] σ := by
  obtain ⟨A, Ls, IA, IL, tx, X, hC, hM, hJ, hn⟩ := h
  have hI := hC.1.1.2.2.1
  have hcn := hI.1
  refine LG_aload_n 1 rfl rfl dL_law_1511 ?_
  refine LG_call (as := []) cf_L_203 rfl rfl (sp_X11_back 1 (Nat.le_refl _) _ hO  A Ls IA IL tx X ⟨hC, hJ.2.1, hJ.2.2.2.1.1⟩) (by omega) rfl rfl (Nat.le_of_ble_eq_true rfl) dL_law_1512 ?_
  rintro _ σ1 ⟨u, rfl, hp⟩ hO1 hr1
  have a1 : ∀ q : Nat, 74 ≤ q → σ1 q = σ q := fun q hq => hp.2.2 q hq
  have hM1 := hM.other a1
  refine LG_aload_n 2 rfl rfl dL_law_1515 ?_
  refine LG_call (as := []) cf_L_206 rfl rfl (sp_X12_back 1 (Nat.le_refl _) _ hO1  A Ls IA IL tx X ⟨hM1, hJ.2.1, hJ.2.2.2.1.1⟩) (by omega) rfl rfl (Nat.le_of_ble_eq_true rfl) dL_law_1516 ?_
  rintro _ σ2 ⟨u2, rfl, hp2⟩ hO2 hr2
  have fin : u = u2 ∧ LI σ2 (n + 10000) := by
    obtain ⟨e1, c1, f1⟩ := hp
    obtain ⟨e2, c2, f2, g2⟩ := hp2
    exact ⟨by rw [e1, e2], fin_all hC hM hJ hn c1 a1 c2 f2 (by rw [g2]) ⟨hJ.2.2.1, hJ.2.1, hJ.2.2.1, extA.rf IA, hJ.2.2.2.2⟩⟩
  exact LG_icmp_eq (tgt := 1547) (hr1 _ rfl) (hr2 _ rfl) dL_law_1519 (by decide) (fun _ => hE σ2 hO2 fin.2) (fun hne => absurd fin.1 hne)

theorem lwc_46 {xL : Nat} {xs : Nat → Int32} {i n : Int} {σ : Mem} (hi : 0 ≤ i ∧ i + 6 ≤ xL ∧ xL ≤ 3072) (hO : OKm σ) (h : LI σ n) (hN : n ≤ 600000000) (hE : ∀ σ' : Mem, OKm σ' → LI σ' (n + 10000) → LG xL xs 1547 (LV i) [] σ') : LG xL xs 1524 (LV i) [] σ := by
  obtain ⟨A, Ls, IA, IL, tx, X, hC, hM, hJ, hn⟩ := h
  have hI := hC.1.1.2.2.1
  have hcn := hI.1
  refine LG_aload_n 1 rfl rfl dL_law_1524 ?_
  refine LG_sc (k := 1) hi (by omega) dL_law_1525 dL_law_1526 dL_law_1527 dL_law_1528 dL_law_1529 ?_
  refine LG_call (as := [_]) cf_L_207 rfl rfl (sp_X11_about 0 (Nat.le_refl _) _ hO _ (sc_r _ _) A Ls IA IL tx X hC) (by omega) rfl rfl (Nat.le_of_ble_eq_true rfl) dL_law_1530 ?_
  rintro _ σ1 ⟨u, rfl, hp⟩ hO1 hr1
  have a1 : ∀ q : Nat, 74 ≤ q → σ1 q = σ q := fun q hq => (by rw [hp.2])
  have hM1 := hM.other a1
  refine LG_aload_n 2 rfl rfl dL_law_1533 ?_
  refine LG_sc (k := 1) hi (by omega) dL_law_1534 dL_law_1535 dL_law_1536 dL_law_1537 dL_law_1538 ?_
  refine LG_call (as := [_]) cf_L_210 rfl rfl (sp_X12_about 1 (Nat.le_refl _) _ hO1 _ (sc_r _ _) A Ls IA IL tx X hM1) (by omega) rfl rfl (Nat.le_of_ble_eq_true rfl) dL_law_1539 ?_
  rintro _ σ2 ⟨u2, rfl, hp2⟩ hO2 hr2
  have fin : u = u2 ∧ LI σ2 (n + 10000) := by
    obtain ⟨e1, s1⟩ := hp
    obtain ⟨e2, s2⟩ := hp2
    rw [s2]
    exact ⟨by rw [e1, e2], fin_all hC hM hJ hn (by rw [s1]; exact hC) a1 hM1 (fun q _ => rfl) rfl hJ⟩
  exact LG_icmp_eq (tgt := 1547) (hr1 _ rfl) (hr2 _ rfl) dL_law_1542 (by decide) (fun _ => hE σ2 hO2 fin.2) (fun hne => absurd fin.1 hne)
