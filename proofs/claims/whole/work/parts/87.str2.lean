theorem cf_J0_335 : CFv RJ0 335 RJ0 yJ0_coder_7d493 cJ0_coder_7d493 1 (some .byte) 0 := ⟨⟨tblG_at 127 (by decide +kernel) (by decide +kernel), tblG_at 625 (by decide +kernel) (by decide +kernel), ⟨by decide, by decide⟩, by decide +kernel, by decide⟩, tblG_at 622 (by decide +kernel) (by decide +kernel), tblG_at 623 (by decide +kernel) (by decide +kernel), tblG_at 624 (by decide +kernel) (by decide +kernel)⟩
theorem cf_J0_492 : CFv RJ0 492 RJ0 yJ0_isLatin1_aae02 cJ0_isLatin1_aae02 1 (some .boolean) 0 := ⟨⟨tblG_at 127 (by decide +kernel) (by decide +kernel), tblG_at 635 (by decide +kernel) (by decide +kernel), ⟨by decide, by decide⟩, by decide +kernel, by decide⟩, tblG_at 632 (by decide +kernel) (by decide +kernel), tblG_at 633 (by decide +kernel) (by decide +kernel), tblG_at 634 (by decide +kernel) (by decide +kernel)⟩
theorem cf_J0_495 : CFs RJ0 495 yJ1_charAt_3b067 cJ1_charAt_3b067 2 (some .char) 2 := ⟨⟨tblG_at 128 (by decide +kernel) (by decide +kernel), tblG_at 638 (by decide +kernel) (by decide +kernel), ⟨by decide, by decide⟩, by decide +kernel, by decide⟩, tblG_at 636 (by decide +kernel) (by decide +kernel), tblG_at 637 (by decide +kernel) (by decide +kernel)⟩
theorem cf_J0_498 : CFs RJ0 498 yJ2_charAt_3b067 cJ2_charAt_3b067 2 (some .char) 2 := ⟨⟨tblG_at 130 (by decide +kernel) (by decide +kernel), tblG_at 649 (by decide +kernel) (by decide +kernel), ⟨by decide, by decide⟩, by decide +kernel, by decide⟩, tblG_at 647 (by decide +kernel) (by decide +kernel), tblG_at 648 (by decide +kernel) (by decide +kernel)⟩
theorem cf_J0_633 : CFv RJ0 633 RJ0 yJ0_indexOf_7cf53 cJ0_indexOf_7cf53 3 (some .int) 2 := ⟨⟨tblG_at 127 (by decide +kernel) (by decide +kernel), tblG_at 688 (by decide +kernel) (by decide +kernel), ⟨by decide, by decide⟩, by decide +kernel, by decide⟩, tblG_at 685 (by decide +kernel) (by decide +kernel), tblG_at 686 (by decide +kernel) (by decide +kernel), tblG_at 687 (by decide +kernel) (by decide +kernel)⟩
theorem cf_J1_9 : CFs RJ1 9 yJ0_checkIndex_df160 cJ0_checkIndex_df160 2 none 2 := ⟨⟨tblG_at 127 (by decide +kernel) (by decide +kernel), tblG_at 641 (by decide +kernel) (by decide +kernel), ⟨by decide, by decide⟩, by decide +kernel, by decide⟩, tblG_at 639 (by decide +kernel) (by decide +kernel), tblG_at 640 (by decide +kernel) (by decide +kernel)⟩
theorem cf_J0_1059 : CFs RJ0 1059 yJ3_checkIndex_8e157 cJ3_checkIndex_8e157 3 (some .int) 3 := ⟨⟨tblG_at 129 (by decide +kernel) (by decide +kernel), tblG_at 646 (by decide +kernel) (by decide +kernel), ⟨by decide, by decide⟩, by decide +kernel, by decide⟩, tblG_at 644 (by decide +kernel) (by decide +kernel), tblG_at 645 (by decide +kernel) (by decide +kernel)⟩
theorem cf_J0_505 : CFv RJ0 505 RJ0 yJ0_length_8abf5 cJ0_length_8abf5 1 (some .int) 0 := ⟨⟨tblG_at 127 (by decide +kernel) (by decide +kernel), tblG_at 621 (by decide +kernel) (by decide +kernel), ⟨by decide, by decide⟩, by decide +kernel, by decide⟩, tblG_at 689 (by decide +kernel) (by decide +kernel), tblG_at 619 (by decide +kernel) (by decide +kernel), tblG_at 620 (by decide +kernel) (by decide +kernel)⟩
theorem cf_J0_637 : CFs RJ0 637 yJ1_indexOf_4cfef cJ1_indexOf_4cfef 4 (some .int) 4 := ⟨⟨tblG_at 128 (by decide +kernel) (by decide +kernel), tblG_at 692 (by decide +kernel) (by decide +kernel), ⟨by decide, by decide⟩, by decide +kernel, by decide⟩, tblG_at 690 (by decide +kernel) (by decide +kernel), tblG_at 691 (by decide +kernel) (by decide +kernel)⟩
theorem cf_J0_640 : CFs RJ0 640 yJ2_indexOf_4cfef cJ2_indexOf_4cfef 4 (some .int) 4 := ⟨⟨tblG_at 130 (by decide +kernel) (by decide +kernel), tblG_at 705 (by decide +kernel) (by decide +kernel), ⟨by decide, by decide⟩, by decide +kernel, by decide⟩, tblG_at 703 (by decide +kernel) (by decide +kernel), tblG_at 704 (by decide +kernel) (by decide +kernel)⟩
theorem cf_J1_88 : CFs RJ1 88 yJ1_canEncode_9a6ad cJ1_canEncode_9a6ad 1 (some .boolean) 1 := ⟨⟨tblG_at 128 (by decide +kernel) (by decide +kernel), tblG_at 695 (by decide +kernel) (by decide +kernel), ⟨by decide, by decide⟩, by decide +kernel, by decide⟩, tblG_at 693 (by decide +kernel) (by decide +kernel), tblG_at 694 (by decide +kernel) (by decide +kernel)⟩
theorem sf_J1_92 : Cond.methodLink RJ1 92 Lib.Math.max.name ∈ tblG ∧ Cond.static Lib.Math.max.name ∈ tblG ∧ Cond.initialized "java/lang/Math" ∈ tblG ∧ Cond.code Lib.Math.max.name Lib.Math.max.code 2 (some .int) ∈ tblG := ⟨tblG_at 696 (by decide +kernel) (by decide +kernel), tblG_at 697 (by decide +kernel) (by decide +kernel), tblG_at 131 (by decide +kernel) (by decide +kernel), tblG_at 698 (by decide +kernel) (by decide +kernel)⟩
theorem cf_J1_92 : CFs RJ1 92 yJ9_max_7cf53 cJ9_max_7cf53 2 (some .int) 2 := ⟨⟨tblG_at 131 (by decide +kernel) (by decide +kernel), tblG_at 698 (by decide +kernel) (by decide +kernel), ⟨by decide, by decide⟩, by decide +kernel, by decide⟩, tblG_at 696 (by decide +kernel) (by decide +kernel), tblG_at 697 (by decide +kernel) (by decide +kernel)⟩
theorem sf_J1_38 : Cond.methodLink RJ1 38 Lib.Math.min.name ∈ tblG ∧ Cond.static Lib.Math.min.name ∈ tblG ∧ Cond.initialized "java/lang/Math" ∈ tblG ∧ Cond.code Lib.Math.min.name Lib.Math.min.code 2 (some .int) ∈ tblG := ⟨tblG_at 699 (by decide +kernel) (by decide +kernel), tblG_at 678 (by decide +kernel) (by decide +kernel), tblG_at 131 (by decide +kernel) (by decide +kernel), tblG_at 679 (by decide +kernel) (by decide +kernel)⟩
theorem cf_J1_38 : CFs RJ1 38 yJ9_min_7cf53 cJ9_min_7cf53 2 (some .int) 2 := ⟨⟨tblG_at 131 (by decide +kernel) (by decide +kernel), tblG_at 679 (by decide +kernel) (by decide +kernel), ⟨by decide, by decide⟩, by decide +kernel, by decide⟩, tblG_at 699 (by decide +kernel) (by decide +kernel), tblG_at 678 (by decide +kernel) (by decide +kernel)⟩
theorem cf_J1_95 : CFs RJ1 95 yJ1_indexOfChar_4cfef cJ1_indexOfChar_4cfef 6 (some .int) 4 := ⟨⟨tblG_at 128 (by decide +kernel) (by decide +kernel), tblG_at 702 (by decide +kernel) (by decide +kernel), ⟨by decide, by decide⟩, by decide +kernel, by decide⟩, tblG_at 700 (by decide +kernel) (by decide +kernel), tblG_at 701 (by decide +kernel) (by decide +kernel)⟩

theorem sw_val : Cond.fieldLink "java/lang/String" 9 "java/lang/String" "value" "[B" ∈ tblG := tblG_at 2067 (by decide +kernel) (by decide +kernel)
theorem sw_cod : Cond.fieldLink "java/lang/String" 15 "java/lang/String" "coder" "B" ∈ tblG := tblG_at 2068 (by decide +kernel) (by decide +kernel)
theorem sw_cmp : Cond.fieldLink "java/lang/String" 38 "java/lang/String" "COMPACT_STRINGS" "Z" ∈ tblG := tblG_at 626 (by decide +kernel) (by decide +kernel)

def sB (i : Nat) (k : Int) : Int := ((strByt.getD i []).getD k.toNat 0).toInt
theorem sB_v (i : Nat) (k : Int) : (strByt.getD i []).getD k.toNat 0 = Int32.ofInt (sB i k) := (Int32.ofInt_toInt _).symm
theorem sB_r (i : Nat) (k : Int) : R32 (sB i k) := by
  have h1 := Int32.le_toInt ((strByt.getD i []).getD k.toNat 0)
  have h2 := Int32.toInt_lt ((strByt.getD i []).getD k.toNat 0)
  unfold R32 sB; omega
theorem strL0 {k : Int} (h : k < 132) : k < (strLen.getD 0 0 : Nat) := by
  have : strLen.getD 0 0 = 132 := by decide +kernel
  omega
theorem strL1 {k : Int} (h : k < 11) : k < (strLen.getD 1 0 : Nat) := by
  have : strLen.getD 1 0 = 11 := by decide +kernel
  omega

def wp_J0_coder_7d493_s0  (σ : Mem) (Q : Int → Mem → Prop) : Prop :=
  Q 0 σ
theorem mt_J0_coder_7d493_s0 {d : Nat} (hd : 0 ≤ d)  {σ : Mem} {Q : Int → Mem → Prop}  (hO : OKm σ) (h : wp_J0_coder_7d493_s0  σ Q) : Mt yJ0_coder_7d493 cJ0_coder_7d493 1 (some .byte) d [aR (1000)] σ (QI Q) := by
  refine Mt.introF (by decide +kernel) (Nat.le_of_ble_eq_true rfl) [(0, aR (1000))] rfl ?_
  unfold wp_J0_coder_7d493_s0 at h
  refine G_scmp rfl sw_cmp dJ0_coder_7d493_0 ?_
  refine G_if_eq (rL 1 rfl) dJ0_coder_7d493_3 (tgt := 13) (by decide) (fun c1 => absurd c1 (by decide)) (fun _ => ?_)
  refine G_aload_n 0 rfl rfl dJ0_coder_7d493_6 ?_
  refine G_scod (i := 0) (by decide) rfl sw_cod dJ0_coder_7d493_7 ?_
  refine G_goto (tgt := 14) dJ0_coder_7d493_10 (by decide) ?_
  exact G_wret rfl rfl (rL 0 rfl) dJ0_coder_7d493_14 ⟨_, rfl, h⟩ hO

theorem sp_J0_coder_7d493_s0 (d : Nat) (hd : 0 ≤ d) (σ : Mem) (hO : OKm σ) : Mt yJ0_coder_7d493 cJ0_coder_7d493 1 (some .byte) d [aR (1000)] σ (QI (fun v σ' => ((0 : Int)) = v ∧ σ = σ')) := mt_J0_coder_7d493_s0 hd  hO (by
  unfold wp_J0_coder_7d493_s0
  exact ⟨rfl, rfl⟩)

def wp_J0_isLatin1_aae02_s0  (σ : Mem) (Q : Int → Mem → Prop) : Prop :=
  Q 1 σ
theorem mt_J0_isLatin1_aae02_s0 {d : Nat} (hd : 0 ≤ d)  {σ : Mem} {Q : Int → Mem → Prop}  (hO : OKm σ) (h : wp_J0_isLatin1_aae02_s0  σ Q) : Mt yJ0_isLatin1_aae02 cJ0_isLatin1_aae02 1 (some .boolean) d [aR (1000)] σ (QI Q) := by
  refine Mt.introF (by decide +kernel) (Nat.le_of_ble_eq_true rfl) [(0, aR (1000))] rfl ?_
  unfold wp_J0_isLatin1_aae02_s0 at h
  refine G_scmp rfl sw_cmp dJ0_isLatin1_aae02_0 ?_
  refine G_if_eq (rL 1 rfl) dJ0_isLatin1_aae02_3 (tgt := 17) (by decide) (fun c1 => absurd c1 (by decide)) (fun _ => ?_)
  refine G_aload_n 0 rfl rfl dJ0_isLatin1_aae02_6 ?_
  refine G_scod (i := 0) (by decide) rfl sw_cod dJ0_isLatin1_aae02_7 ?_
  refine G_if_ne (rL 0 rfl) dJ0_isLatin1_aae02_10 (tgt := 17) (by decide) (fun c2 => absurd c2 (by decide)) (fun _ => ?_)
  refine G_iconst dJ0_isLatin1_aae02_13 ?_
  refine G_goto (tgt := 18) dJ0_isLatin1_aae02_14 (by decide) ?_
  exact G_zret rfl (by decide) dJ0_isLatin1_aae02_18 ⟨_, rfl, h⟩ hO

theorem sp_J0_isLatin1_aae02_s0 (d : Nat) (hd : 0 ≤ d) (σ : Mem) (hO : OKm σ) : Mt yJ0_isLatin1_aae02 cJ0_isLatin1_aae02 1 (some .boolean) d [aR (1000)] σ (QI (fun v σ' => ((1 : Int)) = v ∧ σ = σ')) := mt_J0_isLatin1_aae02_s0 hd  hO (by
  unfold wp_J0_isLatin1_aae02_s0
  exact ⟨rfl, rfl⟩)

def wp_J0_length_8abf5_s0  (σ : Mem) (Q : Int → Mem → Prop) : Prop :=
  Q (bShr 132 ((0 : Int))) σ
theorem mt_J0_length_8abf5_s0 {d : Nat} (hd : 1 ≤ d)  {σ : Mem} {Q : Int → Mem → Prop}  (hO : OKm σ) (h : wp_J0_length_8abf5_s0  σ Q) : Mt yJ0_length_8abf5 cJ0_length_8abf5 1 (some .int) d [aR (1000)] σ (QI Q) := by
  refine Mt.introF (by decide +kernel) (Nat.le_of_ble_eq_true rfl) [(0, aR (1000))] rfl ?_
  unfold wp_J0_length_8abf5_s0 at h
  refine G_aload_n 0 rfl rfl dJ0_length_8abf5_0 ?_
  refine G_sval (i := 0) (by decide) rfl sw_val dJ0_length_8abf5_1 ?_
  refine G_slen (i := 0) (v := 132) (by decide) (by decide +kernel) dJ0_length_8abf5_4 ?_
  refine G_aload_n 0 rfl rfl dJ0_length_8abf5_5 ?_
  refine G_callVs (i := 0) (as := []) (by decide) cf_J0_335 rfl (sp_J0_coder_7d493_s0 (d - 1) (by omega) _ hO ) (by omega) rfl rfl (Nat.le_of_ble_eq_true rfl) dJ0_length_8abf5_6 ?_
  rintro _ _ ⟨_, rfl, rfl, rfl⟩ o2 r1
  refine G_ishr dJ0_length_8abf5_9 ?_
  exact G_iret rfl (r32_of _) dJ0_length_8abf5_10 ⟨_, rfl, h⟩ hO

theorem sp_J0_length_8abf5_s0 (d : Nat) (hd : 1 ≤ d) (σ : Mem) (hO : OKm σ) : Mt yJ0_length_8abf5 cJ0_length_8abf5 1 (some .int) d [aR (1000)] σ (QI (fun v σ' => ((132 : Int)) = v ∧ σ = σ')) := mt_J0_length_8abf5_s0 hd  hO (by
  unfold wp_J0_length_8abf5_s0
  exact ⟨by decide +kernel, rfl⟩)

def wp_J0_coder_7d493_s1  (σ : Mem) (Q : Int → Mem → Prop) : Prop :=
  Q 0 σ
theorem mt_J0_coder_7d493_s1 {d : Nat} (hd : 0 ≤ d)  {σ : Mem} {Q : Int → Mem → Prop}  (hO : OKm σ) (h : wp_J0_coder_7d493_s1  σ Q) : Mt yJ0_coder_7d493 cJ0_coder_7d493 1 (some .byte) d [aR (1001)] σ (QI Q) := by
  refine Mt.introF (by decide +kernel) (Nat.le_of_ble_eq_true rfl) [(0, aR (1001))] rfl ?_
  unfold wp_J0_coder_7d493_s1 at h
  refine G_scmp rfl sw_cmp dJ0_coder_7d493_0 ?_
  refine G_if_eq (rL 1 rfl) dJ0_coder_7d493_3 (tgt := 13) (by decide) (fun c1 => absurd c1 (by decide)) (fun _ => ?_)
  refine G_aload_n 0 rfl rfl dJ0_coder_7d493_6 ?_
  refine G_scod (i := 1) (by decide) rfl sw_cod dJ0_coder_7d493_7 ?_
  refine G_goto (tgt := 14) dJ0_coder_7d493_10 (by decide) ?_
  exact G_wret rfl rfl (rL 0 rfl) dJ0_coder_7d493_14 ⟨_, rfl, h⟩ hO

theorem sp_J0_coder_7d493_s1 (d : Nat) (hd : 0 ≤ d) (σ : Mem) (hO : OKm σ) : Mt yJ0_coder_7d493 cJ0_coder_7d493 1 (some .byte) d [aR (1001)] σ (QI (fun v σ' => ((0 : Int)) = v ∧ σ = σ')) := mt_J0_coder_7d493_s1 hd  hO (by
  unfold wp_J0_coder_7d493_s1
  exact ⟨rfl, rfl⟩)

def wp_J0_isLatin1_aae02_s1  (σ : Mem) (Q : Int → Mem → Prop) : Prop :=
  Q 1 σ
theorem mt_J0_isLatin1_aae02_s1 {d : Nat} (hd : 0 ≤ d)  {σ : Mem} {Q : Int → Mem → Prop}  (hO : OKm σ) (h : wp_J0_isLatin1_aae02_s1  σ Q) : Mt yJ0_isLatin1_aae02 cJ0_isLatin1_aae02 1 (some .boolean) d [aR (1001)] σ (QI Q) := by
  refine Mt.introF (by decide +kernel) (Nat.le_of_ble_eq_true rfl) [(0, aR (1001))] rfl ?_
  unfold wp_J0_isLatin1_aae02_s1 at h
  refine G_scmp rfl sw_cmp dJ0_isLatin1_aae02_0 ?_
  refine G_if_eq (rL 1 rfl) dJ0_isLatin1_aae02_3 (tgt := 17) (by decide) (fun c1 => absurd c1 (by decide)) (fun _ => ?_)
  refine G_aload_n 0 rfl rfl dJ0_isLatin1_aae02_6 ?_
  refine G_scod (i := 1) (by decide) rfl sw_cod dJ0_isLatin1_aae02_7 ?_
  refine G_if_ne (rL 0 rfl) dJ0_isLatin1_aae02_10 (tgt := 17) (by decide) (fun c2 => absurd c2 (by decide)) (fun _ => ?_)
  refine G_iconst dJ0_isLatin1_aae02_13 ?_
  refine G_goto (tgt := 18) dJ0_isLatin1_aae02_14 (by decide) ?_
  exact G_zret rfl (by decide) dJ0_isLatin1_aae02_18 ⟨_, rfl, h⟩ hO

theorem sp_J0_isLatin1_aae02_s1 (d : Nat) (hd : 0 ≤ d) (σ : Mem) (hO : OKm σ) : Mt yJ0_isLatin1_aae02 cJ0_isLatin1_aae02 1 (some .boolean) d [aR (1001)] σ (QI (fun v σ' => ((1 : Int)) = v ∧ σ = σ')) := mt_J0_isLatin1_aae02_s1 hd  hO (by
  unfold wp_J0_isLatin1_aae02_s1
  exact ⟨rfl, rfl⟩)

def wp_J0_length_8abf5_s1  (σ : Mem) (Q : Int → Mem → Prop) : Prop :=
  Q (bShr 11 ((0 : Int))) σ
theorem mt_J0_length_8abf5_s1 {d : Nat} (hd : 1 ≤ d)  {σ : Mem} {Q : Int → Mem → Prop}  (hO : OKm σ) (h : wp_J0_length_8abf5_s1  σ Q) : Mt yJ0_length_8abf5 cJ0_length_8abf5 1 (some .int) d [aR (1001)] σ (QI Q) := by
  refine Mt.introF (by decide +kernel) (Nat.le_of_ble_eq_true rfl) [(0, aR (1001))] rfl ?_
  unfold wp_J0_length_8abf5_s1 at h
  refine G_aload_n 0 rfl rfl dJ0_length_8abf5_0 ?_
  refine G_sval (i := 1) (by decide) rfl sw_val dJ0_length_8abf5_1 ?_
  refine G_slen (i := 1) (v := 11) (by decide) (by decide +kernel) dJ0_length_8abf5_4 ?_
  refine G_aload_n 0 rfl rfl dJ0_length_8abf5_5 ?_
  refine G_callVs (i := 1) (as := []) (by decide) cf_J0_335 rfl (sp_J0_coder_7d493_s1 (d - 1) (by omega) _ hO ) (by omega) rfl rfl (Nat.le_of_ble_eq_true rfl) dJ0_length_8abf5_6 ?_
  rintro _ _ ⟨_, rfl, rfl, rfl⟩ o2 r1
  refine G_ishr dJ0_length_8abf5_9 ?_
  exact G_iret rfl (r32_of _) dJ0_length_8abf5_10 ⟨_, rfl, h⟩ hO

theorem sp_J0_length_8abf5_s1 (d : Nat) (hd : 1 ≤ d) (σ : Mem) (hO : OKm σ) : Mt yJ0_length_8abf5 cJ0_length_8abf5 1 (some .int) d [aR (1001)] σ (QI (fun v σ' => ((11 : Int)) = v ∧ σ = σ')) := mt_J0_length_8abf5_s1 hd  hO (by
  unfold wp_J0_length_8abf5_s1
  exact ⟨by decide +kernel, rfl⟩)
