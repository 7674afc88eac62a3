theorem cf_J0_335 : CFv RJ0 335 RJ0 yJ0_coder_7d493 cJ0_coder_7d493 1 (some .byte) 0 := ⟨⟨tblG_at 127 (by decide +kernel) (by decide +kernel), tblG_at 625 (by decide +kernel) (by decide +kernel), ⟨by decide, by decide⟩, by decide +kernel, by decide⟩, tblG_at 622 (by decide +kernel) (by decide +kernel), tblG_at 623 (by decide +kernel) (by decide +kernel), tblG_at 624 (by decide +kernel) (by decide +kernel)⟩
theorem cf_J0_492 : CFv RJ0 492 RJ0 yJ0_isLatin1_aae02 cJ0_isLatin1_aae02 1 (some .boolean) 0 := ⟨⟨tblG_at 127 (by decide +kernel) (by decide +kernel), tblG_at 635 (by decide +kernel) (by decide +kernel), ⟨by decide, by decide⟩, by decide +kernel, by decide⟩, tblG_at 632 (by decide +kernel) (by decide +kernel), tblG_at 633 (by decide +kernel) (by decide +kernel), tblG_at 634 (by decide +kernel) (by decide +kernel)⟩
theorem cf_J0_495 : CFs RJ0 495 yJ1_charAt_3b067 cJ1_charAt_3b067 2 (some .char) 2 := ⟨⟨tblG_at 128 (by decide +kernel) (by decide +kernel), tblG_at 638 (by decide +kernel) (by decide +kernel), ⟨by decide, by decide⟩, by decide +kernel, by decide⟩, tblG_at 636 (by decide +kernel) (by decide +kernel), tblG_at 637 (by decide +kernel) (by decide +kernel)⟩
theorem cf_J0_498 : CFs RJ0 498 yJ2_charAt_3b067 cJ2_charAt_3b067 2 (some .char) 2 := ⟨⟨tblG_at 130 (by decide +kernel) (by decide +kernel), tblG_at 649 (by decide +kernel) (by decide +kernel), ⟨by decide, by decide⟩, by decide +kernel, by decide⟩, tblG_at 647 (by decide +kernel) (by decide +kernel), tblG_at 648 (by decide +kernel) (by decide +kernel)⟩
theorem cf_J0_633 : CFv RJ0 633 RJ0 yJ0_indexOf_7cf53 cJ0_indexOf_7cf53 3 (some .int) 2 := ⟨⟨tblG_at 127 (by decide +kernel) (by decide +kernel), tblG_at 688 (by decide +kernel) (by decide +kernel), ⟨by decide, by decide⟩, by decide +kernel, by decide⟩, tblG_at 685 (by decide +kernel) (by decide +kernel), tblG_at 686 (by decide +kernel) (by decide +kernel), tblG_at 687 (by decide +kernel) (by decide +kernel)⟩
theorem cf_J1_9 : CFs RJ1 9 yJ0_checkIndex_df160 cJ0_checkIndex_df160 2 none 2 := ⟨⟨tblG_at 127 (by decide +kernel) (by decide +kernel), tblG_at 641 (by decide +kernel) (by decide +kernel), ⟨by decide, by decide⟩, by decide +kernel, by decide⟩, tblG_at 639 (by decide +kernel) (by decide +kernel), tblG_at 640 (by decide +kernel) (by decide +kernel)⟩
theorem cf_J0_1059 : CFs RJ0 1059 yJ3_checkIndex_8e157 cJ3_checkIndex_8e157 3 (some .int) 3 := ⟨⟨tblG_at 129 (by decide +kernel) (by decide +kernel), tblG_at 646 (by decide +kernel) (by decide +kernel), ⟨by decide, by decide⟩, by decide +kernel, by decide⟩, tblG_at 644 (by decide +kernel) (by decide +kernel), tblG_at 645 (by decide +kernel) (by decide +kernel)⟩
theorem cf_J0_505 : CFv RJ0 505 RJ0 yJ0_length_8abf5 cJ0_length_8abf5 1 (some .int) 0 := ⟨⟨tblG_at 127 (by decide +kernel) (by decide +kernel), tblG_at 621 (by decide +kernel) (by decide +kernel), ⟨by decide, by decide⟩, by decide +kernel, by decide⟩, tblG_at 689 (by decide +kernel) (by decide +kernel), tblG_at 619 (by decide +kernel) (by decide +kernel), tblG_at 620 (by decide +kernel) (by decide +kernel)⟩
theorem cf_J0_637 : CFs RJ0 637 yJ1_indexOf_4cfef cJ1_indexOf_4cfef 4 (some .int) 4 := ⟨⟨tblG_at 128 (by decide +kernel) (by decide +kernel), tblG_at 692 (by decide +kernel) (by decide +kernel), ⟨by decide, by decide⟩, by decide +kernel, by decide⟩, tblG_at 690 (by decide +kernel) (by decide +kernel), tblG_at 691 (by decide +kernel) (by decide +kernel)⟩
theorem cf_J0_640 : CFs RJ0 640 yJ2_indexOf_4cfef cJ2_indexOf_4cfef 4 (some .int) 4 := ⟨⟨tblG_at 130 (by decide +kernel) (by decide +kernel), tblG_at 705 (by decide +kernel) (by decide +kernel), ⟨by decide, by decide⟩, by decide +kernel, by decide⟩, tblG_at 703 (by decide +kernel) (by decide +kernel), tblG_at 704 (by decide +kernel) (by decide +kernel)⟩
theorem cf_J1_88 : CFs RJ1 88 yJ1_canEncode_9a6ad cJ1_canEncode_9a6ad 1 (some .boolean) 1 := ⟨⟨tblG_at 128 (by decide +kernel) (by decide +kernel), tblG_at 695 (by decide +kernel) (by decide +kernel), ⟨by decide, by decide⟩, by decide +kernel, by decide⟩, tblG_at 693 (by decide +kernel) (by decide +kernel), tblG_at 694 (by decide +kernel) (by decide +kernel)⟩
theorem sf_J1_92 : Cond.methodLink RJ1 92 Lib.Math.max.name ∈ tblG ∧ Cond.static Lib.Math.max.name ∈ tblG ∧ Cond.initialized "java/lang/Math" ∈ tblG ∧ Cond.code Lib.Math.max.name Lib.Math.max.code 2 (some .int) ∈ tblG := ⟨tblG_at 696 (by decide +kernel) (by decide +kernel), tblG_at 697 (by decide +kernel) (by decide +kernel), tblG_at 131 (by decide +kernel) (by decide +kernel), tblG_at 698 (by decide +kernel) (by decide +kernel)⟩
theorem cf_J1_92 : CFs RJ1 92 yJ9_max_7cf53 cJ9_max_7cf53 2 (some .int) 2 := ⟨⟨tblG_at 131 (by decide +kernel) (by decide +kernel), tblG_at 698 (by decide +kernel) (by decide +kernel), ⟨by decide, by decide⟩, by decide +kernel, by decide⟩, tblG_at 696 (by decide +kernel) (by decide +kernel), tblG_at 697 (by decide +kernel) (by decide +kernel)⟩
theorem sf_J1_38 : Cond.methodLink RJ1 38 Lib.Math.min.name ∈ tblG ∧ Cond.static Lib.Math.min.name ∈ tblG ∧ Cond.initialized "java/lang/Math" ∈ tblG ∧ Cond.code Lib.Math.min.name Lib.Math.min.code 2 (some .int) ∈ tblG := ⟨tblG_at 699 (by decide +kernel) (by decide +kernel), tblG_at 678 (by decide +kernel) (by decide +kernel), tblG_at 131 (by decide +kernel) (by decide +kernel), tblG_at 679 (by decide +kernel) (by decide +kernel)⟩
theorem cf_J1_38 : CFs RJ1 38 yJ9_min_7cf53 cJ9_min_7cf53 2 (some .int) 2 := ⟨⟨tblG_at 131 (by decide +kernel) (by decide +kernel), tblG_at 679 (by decide +kernel) (by decide +kernel), ⟨by decide, by decide⟩, by decide +kernel, by decide⟩, tblG_at 699 (by decide +kernel) (by decide +kernel), tblG_at 678 (by decide +kernel) (by decide +kernel)⟩
theorem cf_J1_95 : CFs RJ1 95 yJ1_indexOfChar_4cfef cJ1_indexOfChar_4cfef 6 (some .int) 4 := ⟨⟨tblG_at 128 (by decide +kernel) (by decide +kernel), tblG_at 702 (by decide +kernel) (by decide +kernel), ⟨by decide, by decide⟩, by decide +kernel, by decide⟩, tblG_at 700 (by decide +kernel) (by decide +kernel), tblG_at 701 (by decide +kernel) (by decide +kernel)⟩

theorem sw_val : Cond.fieldLink "java/lang/String" 9 "java/lang/String" "value" "[B" ∈ tblG := tblG_at 2067 (by decide +kernel) (by decide +kernel)
theorem sw_cod : Cond.fieldLink "java/lang/String" 15 "java/lang/String" "coder" "B" ∈ tblG := tblG_at 2068 (by decide +kernel) (by decide +kernel)
theorem sw_cmp : Cond.fieldLink "java/lang/String" 38 "java/lang/String" "COMPACT_STRINGS" "Z" ∈ tblG := tblG_at 626 (by decide +kernel) (by decide +kernel)

def sB (i : Nat) (k : Int) : Int := ((strByt.getD i []).getD k.toNat 0).toInt
theorem sB_v (i : Nat) (k : Int) : (strByt.getD i []).getD k.toNat 0 = Int32.ofInt (sB i k) := (Int32.ofInt_toInt _).symm
theorem sB_r (i : Nat) (k : Int) : R32 (sB i k) := by
  have h1 := Int32.le_toInt ((strByt.getD i []).getD k.toNat 0)
  have h2 := Int32.toInt_lt ((strByt.getD i []).getD k.toNat 0)
  unfold R32 sB; omega
theorem strL0 {k : Int} (h : k < 132) : k < (strLen.getD 0 0 : Nat) := by
  have : strLen.getD 0 0 = 132 := by decide +kernel
  omega
theorem strL1 {k : Int} (h : k < 11) : k < (strLen.getD 1 0 : Nat) := by
  have : strLen.getD 1 0 = 11 := by decide +kernel
  omega

def wp_J0_coder_7d493_s0  (σ : Mem) (Q : Int → Mem → Prop) : Prop :=
  Q 0 σ
theorem mt_J0_coder_7d493_s0 {d : Nat} (hd : 0 ≤ d)  {σ : Mem} {Q : Int → Mem → Prop}  (hO : OKm σ) (h : wp_J0_coder_7d493_s0  σ Q) : Mt yJ0_coder_7d493 cJ0_coder_7d493 1 (some .byte) d [aR (1000)] σ (QI Q) := by
  refine Mt.introF (by decide +kernel) (Nat.le_of_ble_eq_true rfl) [(0, aR (1000))] rfl ?_
  unfold wp_J0_coder_7d493_s0 at h
  refine G_scmp rfl sw_cmp dJ0_coder_7d493_0 ?_
  refine G_if_eq (rL 1 rfl) dJ0_coder_7d493_3 (tgt := 13) (by decide) (fun c1 => absurd c1 (by decide)) (fun _ => ?_)
  refine G_aload_n 0 rfl rfl dJ0_coder_7d493_6 ?_
  refine G_scod (i := 0) (by decide) rfl sw_cod dJ0_coder_7d493_7 ?_
  refine G_goto (tgt := 14) dJ0_coder_7d493_10 (by decide) ?_
  exact G_wret rfl rfl (rL 0 rfl) dJ0_coder_7d493_14 ⟨_, rfl, h⟩ hO

theorem sp_J0_coder_7d493_s0 (d : Nat) (hd : 0 ≤ d) (σ : Mem) (hO : OKm σ) : Mt yJ0_coder_7d493 cJ0_coder_7d493 1 (some .byte) d [aR (1000)] σ (QI (fun v σ' => ((0 : Int)) = v ∧ σ = σ')) := mt_J0_coder_7d493_s0 hd  hO (by
  unfold wp_J0_coder_7d493_s0
  exact ⟨rfl, rfl⟩)

def wp_J0_isLatin1_aae02_s0  (σ : Mem) (Q : Int → Mem → Prop) : Prop :=
  Q 1 σ
theorem mt_J0_isLatin1_aae02_s0 {d : Nat} (hd : 0 ≤ d)  {σ : Mem} {Q : Int → Mem → Prop}  (hO : OKm σ) (h : wp_J0_isLatin1_aae02_s0  σ Q) : Mt yJ0_isLatin1_aae02 cJ0_isLatin1_aae02 1 (some .boolean) d [aR (1000)] σ (QI Q) := by
  refine Mt.introF (by decide +kernel) (Nat.le_of_ble_eq_true rfl) [(0, aR (1000))] rfl ?_
  unfold wp_J0_isLatin1_aae02_s0 at h
  refine G_scmp rfl sw_cmp dJ0_isLatin1_aae02_0 ?_
  refine G_if_eq (rL 1 rfl) dJ0_isLatin1_aae02_3 (tgt := 17) (by decide) (fun c1 => absurd c1 (by decide)) (fun _ => ?_)
  refine G_aload_n 0 rfl rfl dJ0_isLatin1_aae02_6 ?_
  refine G_scod (i := 0) (by decide) rfl sw_cod dJ0_isLatin1_aae02_7 ?_
  refine G_if_ne (rL 0 rfl) dJ0_isLatin1_aae02_10 (tgt := 17) (by decide) (fun c2 => absurd c2 (by decide)) (fun _ => ?_)
  refine G_iconst dJ0_isLatin1_aae02_13 ?_
  refine G_goto (tgt := 18) dJ0_isLatin1_aae02_14 (by decide) ?_
  exact G_zret rfl (by decide) dJ0_isLatin1_aae02_18 ⟨_, rfl, h⟩ hO

theorem sp_J0_isLatin1_aae02_s0 (d : Nat) (hd : 0 ≤ d) (σ : Mem) (hO : OKm σ) : Mt yJ0_isLatin1_aae02 cJ0_isLatin1_aae02 1 (some .boolean) d [aR (1000)] σ (QI (fun v σ' => ((1 : Int)) = v ∧ σ = σ')) := mt_J0_isLatin1_aae02_s0 hd  hO (by
  unfold wp_J0_isLatin1_aae02_s0
  exact ⟨rfl, rfl⟩)

def wp_J0_length_8abf5_s0  (σ : Mem) (Q : Int → Mem → Prop) : Prop :=
  Q (bShr 132 ((0 : Int))) σ
theorem mt_J0_length_8abf5_s0 {d : Nat} (hd : 1 ≤ d)  {σ : Mem} {Q : Int → Mem → Prop}  (hO : OKm σ) (h : wp_J0_length_8abf5_s0  σ Q) : Mt yJ0_length_8abf5 cJ0_length_8abf5 1 (some .int) d [aR (1000)] σ (QI Q) := by
  refine Mt.introF (by decide +kernel) (Nat.le_of_ble_eq_true rfl) [(0, aR (1000))] rfl ?_
  unfold wp_J0_length_8abf5_s0 at h
  refine G_aload_n 0 rfl rfl dJ0_length_8abf5_0 ?_
  refine G_sval (i := 0) (by decide) rfl sw_val dJ0_length_8abf5_1 ?_
  refine G_slen (i := 0) (v := 132) (by decide) (by decide +kernel) dJ0_length_8abf5_4 ?_
  refine G_aload_n 0 rfl rfl dJ0_length_8abf5_5 ?_
  refine G_callVs (i := 0) (as := []) (by decide) cf_J0_335 rfl (sp_J0_coder_7d493_s0 (d - 1) (by omega) _ hO ) (by omega) rfl rfl (Nat.le_of_ble_eq_true rfl) dJ0_length_8abf5_6 ?_
  rintro _ _ ⟨_, rfl, rfl, rfl⟩ o2 r1
  refine G_ishr dJ0_length_8abf5_9 ?_
  exact G_iret rfl (r32_of _) dJ0_length_8abf5_10 ⟨_, rfl, h⟩ hO

theorem sp_J0_length_8abf5_s0 (d : Nat) (hd : 1 ≤ d) (σ : Mem) (hO : OKm σ) : Mt yJ0_length_8abf5 cJ0_length_8abf5 1 (some .int) d [aR (1000)] σ (QI (fun v σ' => ((132 : Int)) = v ∧ σ = σ')) := mt_J0_length_8abf5_s0 hd  hO (by
  unfold wp_J0_length_8abf5_s0
  exact ⟨by decide +kernel, rfl⟩)

def wp_J0_coder_7d493_s1  (σ : Mem) (Q : Int → Mem → Prop) : Prop :=
  Q 0 σ
theorem mt_J0_coder_7d493_s1 {d : Nat} (hd : 0 ≤ d)  {σ : Mem} {Q : Int → Mem → Prop}  (hO : OKm σ) (h : wp_J0_coder_7d493_s1  σ Q) : Mt yJ0_coder_7d493 cJ0_coder_7d493 1 (some .byte) d [aR (1001)] σ (QI Q) := by
  refine Mt.introF (by decide +kernel) (Nat.le_of_ble_eq_true rfl) [(0, aR (1001))] rfl ?_
  unfold wp_J0_coder_7d493_s1 at h
  refine G_scmp rfl sw_cmp dJ0_coder_7d493_0 ?_
  refine G_if_eq (rL 1 rfl) dJ0_coder_7d493_3 (tgt := 13) (by decide) (fun c1 => absurd c1 (by decide)) (fun _ => ?_)
  refine G_aload_n 0 rfl rfl dJ0_coder_7d493_6 ?_
  refine G_scod (i := 1) (by decide) rfl sw_cod dJ0_coder_7d493_7 ?_
  refine G_goto (tgt := 14) dJ0_coder_7d493_10 (by decide) ?_
  exact G_wret rfl rfl (rL 0 rfl) dJ0_coder_7d493_14 ⟨_, rfl, h⟩ hO

theorem sp_J0_coder_7d493_s1 (d : Nat) (hd : 0 ≤ d) (σ : Mem) (hO : OKm σ) : Mt yJ0_coder_7d493 cJ0_coder_7d493 1 (some .byte) d [aR (1001)] σ (QI (fun v σ' => ((0 : Int)) = v ∧ σ = σ')) := mt_J0_coder_7d493_s1 hd  hO (by
  unfold wp_J0_coder_7d493_s1
  exact ⟨rfl, rfl⟩)

def wp_J0_isLatin1_aae02_s1  (σ : Mem) (Q : Int → Mem → Prop) : Prop :=
  Q 1 σ
theorem mt_J0_isLatin1_aae02_s1 {d : Nat} (hd : 0 ≤ d)  {σ : Mem} {Q : Int → Mem → Prop}  (hO : OKm σ) (h : wp_J0_isLatin1_aae02_s1  σ Q) : Mt yJ0_isLatin1_aae02 cJ0_isLatin1_aae02 1 (some .boolean) d [aR (1001)] σ (QI Q) := by
  refine Mt.introF (by decide +kernel) (Nat.le_of_ble_eq_true rfl) [(0, aR (1001))] rfl ?_
  unfold wp_J0_isLatin1_aae02_s1 at h
  refine G_scmp rfl sw_cmp dJ0_isLatin1_aae02_0 ?_
  refine G_if_eq (rL 1 rfl) dJ0_isLatin1_aae02_3 (tgt := 17) (by decide) (fun c1 => absurd c1 (by decide)) (fun _ => ?_)
  refine G_aload_n 0 rfl rfl dJ0_isLatin1_aae02_6 ?_
  refine G_scod (i := 1) (by decide) rfl sw_cod dJ0_isLatin1_aae02_7 ?_
  refine G_if_ne (rL 0 rfl) dJ0_isLatin1_aae02_10 (tgt := 17) (by decide) (fun c2 => absurd c2 (by decide)) (fun _ => ?_)
  refine G_iconst dJ0_isLatin1_aae02_13 ?_
  refine G_goto (tgt := 18) dJ0_isLatin1_aae02_14 (by decide) ?_
  exact G_zret rfl (by decide) dJ0_isLatin1_aae02_18 ⟨_, rfl, h⟩ hO

theorem sp_J0_isLatin1_aae02_s1 (d : Nat) (hd : 0 ≤ d) (σ : Mem) (hO : OKm σ) : Mt yJ0_isLatin1_aae02 cJ0_isLatin1_aae02 1 (some .boolean) d [aR (1001)] σ (QI (fun v σ' => ((1 : Int)) = v ∧ σ = σ')) := mt_J0_isLatin1_aae02_s1 hd  hO (by
  unfold wp_J0_isLatin1_aae02_s1
  exact ⟨rfl, rfl⟩)

def wp_J0_length_8abf5_s1  (σ : Mem) (Q : Int → Mem → Prop) : Prop :=
  Q (bShr 11 ((0 : Int))) σ
theorem mt_J0_length_8abf5_s1 {d : Nat} (hd : 1 ≤ d)  {σ : Mem} {Q : Int → Mem → Prop}  (hO : OKm σ) (h : wp_J0_length_8abf5_s1  σ Q) : Mt yJ0_length_8abf5 cJ0_length_8abf5 1 (some .int) d [aR (1001)] σ (QI Q) := by
  refine Mt.introF (by decide +kernel) (Nat.le_of_ble_eq_true rfl) [(0, aR (1001))] rfl ?_
  unfold wp_J0_length_8abf5_s1 at h
  refine G_aload_n 0 rfl rfl dJ0_length_8abf5_0 ?_
  refine G_sval (i := 1) (by decide) rfl sw_val dJ0_length_8abf5_1 ?_
  refine G_slen (i := 1) (v := 11) (by decide) (by decide +kernel) dJ0_length_8abf5_4 ?_
  refine G_aload_n 0 rfl rfl dJ0_length_8abf5_5 ?_
  refine G_callVs (i := 1) (as := []) (by decide) cf_J0_335 rfl (sp_J0_coder_7d493_s1 (d - 1) (by omega) _ hO ) (by omega) rfl rfl (Nat.le_of_ble_eq_true rfl) dJ0_length_8abf5_6 ?_
  rintro _ _ ⟨_, rfl, rfl, rfl⟩ o2 r1
  refine G_ishr dJ0_length_8abf5_9 ?_
  exact G_iret rfl (r32_of _) dJ0_length_8abf5_10 ⟨_, rfl, h⟩ hO

theorem sp_J0_length_8abf5_s1 (d : Nat) (hd : 1 ≤ d) (σ : Mem) (hO : OKm σ) : Mt yJ0_length_8abf5 cJ0_length_8abf5 1 (some .int) d [aR (1001)] σ (QI (fun v σ' => ((11 : Int)) = v ∧ σ = σ')) := mt_J0_length_8abf5_s1 hd  hO (by
  unfold wp_J0_length_8abf5_s1
  exact ⟨by decide +kernel, rfl⟩)

theorem sw_fmt : Cond.fieldLink "java/lang/String" 1053 "jdk/internal/util/Preconditions" "SIOOBE_FORMATTER" "Ljava/util/function/BiFunction;" ∈ tblG := tblG_at 642 (by decide +kernel) (by decide +kernel)

def wp_J3_checkIndex_8e157 (x1 : Int) (x2 : Int) (σ : Mem) (Q : Int → Mem → Prop) : Prop :=
  ((x1 < 0) →
    False) ∧
   ((0 ≤ x1) →
    ((x1 < x2) →
     Q x1 σ) ∧
    ((x2 ≤ x1) →
     False))
theorem mt_J3_checkIndex_8e157 {d : Nat} (hd : 0 ≤ d) {x1 : Int} {x2 : Int} {σ : Mem} {Q : Int → Mem → Prop} (hx1 : R32 x1) (hx2 : R32 x2) (hO : OKm σ) (h : wp_J3_checkIndex_8e157 x1 x2 σ Q) : Mt yJ3_checkIndex_8e157 cJ3_checkIndex_8e157 3 (some .int) d [aI (x1), aI (x2), aR (1020)] σ (QI Q) := by
  refine Mt.introF (by decide +kernel) (Nat.le_of_ble_eq_true rfl) [(0, aI (x1)), (1, aI (x2)), (2, aR (1020))] rfl ?_
  unfold wp_J3_checkIndex_8e157 at h
  refine G_iload_n 0 rfl rfl dJ3_checkIndex_8e157_0 ?_
  refine G_if_lt hx1 dJ3_checkIndex_8e157_1 (tgt := 9) (by decide) (fun c1 => ?_) (fun c1 => ?_)
  · have h := h.1 c1
    exact h.elim
  · have h := h.2 c1
    refine G_iload_n 0 rfl rfl dJ3_checkIndex_8e157_4 ?_
    refine G_iload_n 1 rfl rfl dJ3_checkIndex_8e157_5 ?_
    refine G_icmp_lt hx1 hx2 dJ3_checkIndex_8e157_6 (tgt := 16) (by decide) (fun c2 => ?_) (fun c2 => ?_)
    · have h := h.1 c2
      refine G_iload_n 0 rfl rfl dJ3_checkIndex_8e157_16 ?_
      exact G_iret rfl hx1 dJ3_checkIndex_8e157_17 ⟨_, rfl, h⟩ hO
    · have h := h.2 c2
      exact h.elim

theorem sp_J3_checkIndex_8e157 (d : Nat) (hd : 0 ≤ d) (σ : Mem) (hO : OKm σ) (x1 : Int) (hx1 : R32 x1) (x2 : Int) (hx2 : R32 x2) (hpre : 0 ≤ x1 ∧ x1 < x2) : Mt yJ3_checkIndex_8e157 cJ3_checkIndex_8e157 3 (some .int) d [aI (x1), aI (x2), aR (1020)] σ (QI (fun v σ' => (x1) = v ∧ σ = σ')) := mt_J3_checkIndex_8e157 hd hx1 hx2 hO (by
  unfold wp_J3_checkIndex_8e157
  exact ⟨fun h => by omega, fun h => ⟨fun _ => ⟨rfl, rfl⟩, fun h2 => by omega⟩⟩)

def wp_J3_checkIndex_8e157_n (x1 : Int) (x2 : Int) (σ : Mem) (Q : Int → Mem → Prop) : Prop :=
  ((x1 < 0) →
    False) ∧
   ((0 ≤ x1) →
    ((x1 < x2) →
     Q x1 σ) ∧
    ((x2 ≤ x1) →
     False))
theorem mt_J3_checkIndex_8e157_n {d : Nat} (hd : 0 ≤ d) {x1 : Int} {x2 : Int} {σ : Mem} {Q : Int → Mem → Prop} (hx1 : R32 x1) (hx2 : R32 x2) (hO : OKm σ) (h : wp_J3_checkIndex_8e157_n x1 x2 σ Q) : Mt yJ3_checkIndex_8e157 cJ3_checkIndex_8e157 3 (some .int) d [aI (x1), aI (x2), aN] σ (QI Q) := by
  refine Mt.introF (by decide +kernel) (Nat.le_of_ble_eq_true rfl) [(0, aI (x1)), (1, aI (x2)), (2, aN)] rfl ?_
  unfold wp_J3_checkIndex_8e157_n at h
  refine G_iload_n 0 rfl rfl dJ3_checkIndex_8e157_0 ?_
  refine G_if_lt hx1 dJ3_checkIndex_8e157_1 (tgt := 9) (by decide) (fun c1 => ?_) (fun c1 => ?_)
  · have h := h.1 c1
    exact h.elim
  · have h := h.2 c1
    refine G_iload_n 0 rfl rfl dJ3_checkIndex_8e157_4 ?_
    refine G_iload_n 1 rfl rfl dJ3_checkIndex_8e157_5 ?_
    refine G_icmp_lt hx1 hx2 dJ3_checkIndex_8e157_6 (tgt := 16) (by decide) (fun c2 => ?_) (fun c2 => ?_)
    · have h := h.1 c2
      refine G_iload_n 0 rfl rfl dJ3_checkIndex_8e157_16 ?_
      exact G_iret rfl hx1 dJ3_checkIndex_8e157_17 ⟨_, rfl, h⟩ hO
    · have h := h.2 c2
      exact h.elim

theorem sp_J3_checkIndex_8e157_n (d : Nat) (hd : 0 ≤ d) (σ : Mem) (hO : OKm σ) (x1 : Int) (hx1 : R32 x1) (x2 : Int) (hx2 : R32 x2) (hpre : 0 ≤ x1 ∧ x1 < x2) : Mt yJ3_checkIndex_8e157 cJ3_checkIndex_8e157 3 (some .int) d [aI (x1), aI (x2), aN] σ (QI (fun v σ' => (x1) = v ∧ σ = σ')) := mt_J3_checkIndex_8e157_n hd hx1 hx2 hO (by
  unfold wp_J3_checkIndex_8e157_n
  exact ⟨fun h => by omega, fun h => ⟨fun _ => ⟨rfl, rfl⟩, fun h2 => by omega⟩⟩)

def wp_J0_checkIndex_df160 (x1 : Int) (x2 : Int) (σ : Mem) (Q : Mem → Prop) : Prop :=
  ( (0 ≤ x1 ∧ x1 < x2) ∧
    Q σ) ∧
   ( (0 ≤ x1 ∧ x1 < x2) ∧
    Q σ)
theorem mt_J0_checkIndex_df160 {d : Nat} (hd : 1 ≤ d) {x1 : Int} {x2 : Int} {σ : Mem} {Q : Mem → Prop} (hx1 : R32 x1) (hx2 : R32 x2) (hO : OKm σ) (h : wp_J0_checkIndex_df160 x1 x2 σ Q) : Mt yJ0_checkIndex_df160 cJ0_checkIndex_df160 2 none d [aI (x1), aI (x2)] σ (QV Q) := by
  refine Mt.introF (by decide +kernel) (Nat.le_of_ble_eq_true rfl) [(0, aI (x1)), (1, aI (x2))] rfl ?_
  unfold wp_J0_checkIndex_df160 at h
  refine G_iload_n 0 rfl rfl dJ0_checkIndex_df160_0 ?_
  refine G_iload_n 1 rfl rfl dJ0_checkIndex_df160_1 ?_
  refine G_sfmt rfl sw_fmt dJ0_checkIndex_df160_2 ?_ ?_
  · have h := h.1
    obtain ⟨c1, h⟩ := h
    refine G_callS (as := [_, _, _]) cf_J0_1059 rfl (sp_J3_checkIndex_8e157 (d - 1) (by omega) _ hO _ hx1 _ hx2 c1) (by omega) rfl rfl (Nat.le_of_ble_eq_true rfl) dJ0_checkIndex_df160_5 ?_
    rintro _ _ ⟨_, rfl, rfl, rfl⟩ o3 r2
    refine G_pop rfl dJ0_checkIndex_df160_8 ?_
    exact G_vret rfl dJ0_checkIndex_df160_9 ⟨rfl, h⟩ hO
  · have h := h.2
    obtain ⟨c4, h⟩ := h
    refine G_callS (as := [_, _, _]) cf_J0_1059 rfl (sp_J3_checkIndex_8e157_n (d - 1) (by omega) _ hO _ hx1 _ hx2 c4) (by omega) rfl rfl (Nat.le_of_ble_eq_true rfl) dJ0_checkIndex_df160_5 ?_
    rintro _ _ ⟨_, rfl, rfl, rfl⟩ o6 r5
    refine G_pop rfl dJ0_checkIndex_df160_8 ?_
    exact G_vret rfl dJ0_checkIndex_df160_9 ⟨rfl, h⟩ hO

theorem sp_J0_checkIndex_df160 (d : Nat) (hd : 1 ≤ d) (σ : Mem) (hO : OKm σ) (x1 : Int) (hx1 : R32 x1) (x2 : Int) (hx2 : R32 x2) (hpre : 0 ≤ x1 ∧ x1 < x2) : Mt yJ0_checkIndex_df160 cJ0_checkIndex_df160 2 none d [aI (x1), aI (x2)] σ (QV (fun σ' => σ' = (σ))) := mt_J0_checkIndex_df160 hd hx1 hx2 hO (by
  unfold wp_J0_checkIndex_df160
  exact ⟨⟨hpre, rfl⟩, ⟨hpre, rfl⟩⟩)

def wp_J1_charAt_3b067_s0 (x2 : Int) (σ : Mem) (Q : Int → Mem → Prop) : Prop :=
  (0 ≤ x2 ∧ x2 < (132 : Int)) ∧
   ∀ σ4 : Mem, σ4 = (σ) →
   (0 ≤ x2 ∧ x2 < 132) ∧
   (0 ≤ (bAnd (sB 0 x2) 255) ∧ (bAnd (sB 0 x2) 255) < 65536) ∧
   (0 ≤ (bAnd (sB 0 x2) 255) ∧ (bAnd (sB 0 x2) 255) < 65536) ∧
   Q (bAnd (sB 0 x2) 255) σ4
theorem mt_J1_charAt_3b067_s0 {d : Nat} (hd : 2 ≤ d) {x2 : Int} {σ : Mem} {Q : Int → Mem → Prop} (hx2 : R32 x2) (hO : OKm σ) (h : wp_J1_charAt_3b067_s0 x2 σ Q) : Mt yJ1_charAt_3b067 cJ1_charAt_3b067 2 (some .char) d [aR (1010), aI (x2)] σ (QI Q) := by
  refine Mt.introF (by decide +kernel) (Nat.le_of_ble_eq_true rfl) [(0, aR (1010)), (1, aI (x2))] rfl ?_
  unfold wp_J1_charAt_3b067_s0 at h
  refine G_iload_n 1 rfl rfl dJ1_charAt_3b067_0 ?_
  refine G_aload_n 0 rfl rfl dJ1_charAt_3b067_1 ?_
  refine G_slen (i := 0) (v := 132) (by decide) (by decide +kernel) dJ1_charAt_3b067_2 ?_
  obtain ⟨c1, h⟩ := h
  refine G_callS (as := [_, _]) cf_J1_9 rfl (sp_J0_checkIndex_df160 (d - 1) (by omega) _ hO _ hx2 _ (rL 132 rfl) c1) (by omega) rfl rfl (Nat.le_of_ble_eq_true rfl) dJ1_charAt_3b067_3 ?_
  rintro _ σ4 ⟨rfl, e5⟩ o3 r2
  have h := h σ4 e5
  refine G_aload_n 0 rfl rfl dJ1_charAt_3b067_6 ?_
  refine G_iload_n 1 rfl rfl dJ1_charAt_3b067_7 ?_
  obtain ⟨c6, h⟩ := h
  refine G_sbyt (i := 0) (by decide) c6.1 (strL0 c6.2) (sB_v _ _) dJ1_charAt_3b067_8 ?_
  refine G_sipush (by decide) dJ1_charAt_3b067_9 ?_
  refine G_iand dJ1_charAt_3b067_12 ?_
  obtain ⟨c7, h⟩ := h
  refine G_i2c c7 dJ1_charAt_3b067_13 ?_
  obtain ⟨c8, h⟩ := h
  exact G_wret rfl (narrow_c c8) (r32_of _) dJ1_charAt_3b067_14 ⟨_, rfl, h⟩ o3

theorem sp_J1_charAt_3b067_s0 (d : Nat) (hd : 2 ≤ d) (σ : Mem) (hO : OKm σ) (x2 : Int) (hx2 : R32 x2) (hpre : 0 ≤ x2 ∧ x2 < 132) : Mt yJ1_charAt_3b067 cJ1_charAt_3b067 2 (some .char) d [aR (1010), aI (x2)] σ (QI (fun v σ' => (bAnd (sB 0 x2) 255) = v ∧ σ = σ')) := mt_J1_charAt_3b067_s0 hd hx2 hO (by
  unfold wp_J1_charAt_3b067_s0
  have h5 := bAnd_255 (sB 0 x2)
  exact ⟨by omega, fun σ4 e4 => ⟨by omega, by omega, by omega, rfl, e4.symm⟩⟩)

def wp_J0_charAt_5068e_s0 (x1 : Int) (σ : Mem) (Q : Int → Mem → Prop) : Prop :=
  ((((1 : Int)) = 0) →
    False) ∧
   ((((1 : Int)) ≠ 0) →
    (0 ≤ x1 ∧ x1 < 132) ∧
    (0 ≤ (bAnd (sB 0 x1) 255) ∧ (bAnd (sB 0 x1) 255) < 65536) ∧
    Q (bAnd (sB 0 x1) 255) σ)
theorem mt_J0_charAt_5068e_s0 {d : Nat} (hd : 3 ≤ d) {x1 : Int} {σ : Mem} {Q : Int → Mem → Prop} (hx1 : R32 x1) (hO : OKm σ) (h : wp_J0_charAt_5068e_s0 x1 σ Q) : Mt yJ0_charAt_5068e cJ0_charAt_5068e 2 (some .char) d [aR (1000), aI (x1)] σ (QI Q) := by
  refine Mt.introF (by decide +kernel) (Nat.le_of_ble_eq_true rfl) [(0, aR (1000)), (1, aI (x1))] rfl ?_
  unfold wp_J0_charAt_5068e_s0 at h
  refine G_aload_n 0 rfl rfl dJ0_charAt_5068e_0 ?_
  refine G_callVs (i := 0) (as := []) (by decide) cf_J0_492 rfl (sp_J0_isLatin1_aae02_s0 (d - 1) (by omega) _ hO ) (by omega) rfl rfl (Nat.le_of_ble_eq_true rfl) dJ0_charAt_5068e_1 ?_
  rintro _ _ ⟨_, rfl, rfl, rfl⟩ o2 r1
  refine G_if_eq (r1 _ rfl) dJ0_charAt_5068e_4 (tgt := 16) (by decide) (fun c3 => ?_) (fun c3 => ?_)
  · have h := h.1 c3
    exact h.elim
  · have h := h.2 c3
    refine G_aload_n 0 rfl rfl dJ0_charAt_5068e_7 ?_
    refine G_sval (i := 0) (by decide) rfl sw_val dJ0_charAt_5068e_8 ?_
    refine G_iload_n 1 rfl rfl dJ0_charAt_5068e_11 ?_
    obtain ⟨c4, h⟩ := h
    refine G_callS (as := [_, _]) cf_J0_495 rfl (sp_J1_charAt_3b067_s0 (d - 1) (by omega) _ hO _ hx1 c4) (by omega) rfl rfl (Nat.le_of_ble_eq_true rfl) dJ0_charAt_5068e_12 ?_
    rintro _ _ ⟨_, rfl, rfl, rfl⟩ o6 r5
    obtain ⟨c7, h⟩ := h
    exact G_wret rfl (narrow_c c7) (r5 _ rfl) dJ0_charAt_5068e_15 ⟨_, rfl, h⟩ hO

theorem sp_J0_charAt_5068e_s0 (d : Nat) (hd : 3 ≤ d) (σ : Mem) (hO : OKm σ) (x1 : Int) (hx1 : R32 x1) (hpre : 0 ≤ x1 ∧ x1 < 132) : Mt yJ0_charAt_5068e cJ0_charAt_5068e 2 (some .char) d [aR (1000), aI (x1)] σ (QI (fun v σ' => (bAnd (sB 0 x1) 255) = v ∧ σ = σ')) := mt_J0_charAt_5068e_s0 hd hx1 hO (by
  unfold wp_J0_charAt_5068e_s0
  have h5 := bAnd_255 (sB 0 x1)
  exact ⟨fun h => absurd h (by decide), fun _ => ⟨by omega, by omega, rfl, rfl⟩⟩)
