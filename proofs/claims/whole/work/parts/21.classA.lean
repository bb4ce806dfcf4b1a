set_option maxHeartbeats 4000000 in
set_option maxRecDepth 100000 in
theorem c_E_within (h : List AC) (v a b : Int32) : AM kE_within 1 [.int v, .int a, .int b] (h) (BQ (In v a b) h) := by
  refine AMet.of (by decide) (by simp [Value.category]) (Nat.le_of_ble_eq_true rfl) ?_
  refine aw_iload_n dE_within_0 rfl ?_
  refine aw_iload_n dE_within_1 rfl ?_
  refine aw_icmp_lt (tgt := 14) dE_within_2 (by decide) (fun c2 => ?_) (fun c2 => ?_)
  · refine aw_iconst (v := 0) dE_within_14 (by decide) ?_
    exact aw_zret rfl (Or.inl rfl) dE_within_15 ⟨rfl, Or.inr ⟨(by simp only [In, Int32.lt_iff_toInt_lt, Int32.le_iff_toInt_le, ← Int32.toInt_inj, z_0, z_1, z_2, z_3, z_4, z_5, z_20, z_39, z_40, z_60, z_100, z_200, z_1000, z_2000, z_10000, z_m1, z_m2, z_m1000, z_m5000, z_far] at c2 ⊢; omega), rfl⟩⟩
  · refine aw_iload_n dE_within_5 rfl ?_
    refine aw_iload_n dE_within_6 rfl ?_
    refine aw_icmp_gt (tgt := 14) dE_within_7 (by decide) (fun c7 => ?_) (fun c7 => ?_)
    · refine aw_iconst (v := 0) dE_within_14 (by decide) ?_
      exact aw_zret rfl (Or.inl rfl) dE_within_15 ⟨rfl, Or.inr ⟨(by simp only [In, Int32.lt_iff_toInt_lt, Int32.le_iff_toInt_le, ← Int32.toInt_inj, z_0, z_1, z_2, z_3, z_4, z_5, z_20, z_39, z_40, z_60, z_100, z_200, z_1000, z_2000, z_10000, z_m1, z_m2, z_m1000, z_m5000, z_far] at c2 c7 ⊢; omega), rfl⟩⟩
    · refine aw_iconst (v := 1) dE_within_10 (by decide) ?_
      refine aw_goto (tgt := 15) dE_within_11 (by decide) ?_
      exact aw_zret rfl (Or.inr rfl) dE_within_15 ⟨rfl, Or.inl ⟨(by simp only [In, Int32.lt_iff_toInt_lt, Int32.le_iff_toInt_le, ← Int32.toInt_inj, z_0, z_1, z_2, z_3, z_4, z_5, z_20, z_39, z_40, z_60, z_100, z_200, z_1000, z_2000, z_10000, z_m1, z_m2, z_m1000, z_m5000, z_far] at c2 c7 ⊢; omega), rfl⟩⟩

set_option maxHeartbeats 4000000 in
set_option maxRecDepth 100000 in
theorem c_E_isValue (h : List AC) (v : Int32) : AM kE_isValue 2 [.int v] (h) (BQ (In v (-1000) 1000) h) := by
  refine AMet.of (by decide) (by simp [Value.category]) (Nat.le_of_ble_eq_true rfl) ?_
  refine aw_iload_n dE_isValue_0 rfl ?_
  refine aw_sipush (v := (-1000)) dE_isValue_1 (by decide) ?_
  refine aw_sipush (v := 1000) dE_isValue_4 (by decide) ?_
  refine an_callSb cg_E_82 (c_E_within _ _ _ _) dE_isValue_7 rfl rfl (Nat.le_of_ble_eq_true rfl) (Nat.le_of_ble_eq_true rfl) (fun p7 => ?_) (fun p7 => ?_)
  · exact aw_zret rfl (Or.inr rfl) dE_isValue_10 ⟨rfl, Or.inl ⟨p7, rfl⟩⟩
  · exact aw_zret rfl (Or.inl rfl) dE_isValue_10 ⟨rfl, Or.inr ⟨p7, rfl⟩⟩

def RowQ (I : Nat → Int32) (A : Nat → Nat → Int32) (r : Int32) : QT := fun v h' => h' = hC I A ∧ ((∃ k : Nat, k < 4 ∧ r = nI k ∧ v = some (.ref (2 + 2 * k))) ∨ (¬ IsRow r ∧ v = some .null))
set_option maxHeartbeats 4000000 in
set_option maxRecDepth 100000 in
theorem c_E_rowOf (I : Nat → Int32) (A : Nat → Nat → Int32) (r : Int32) : AM kE_rowOf 2 [.ref 0, .int r] (hC I A) (RowQ I A r) := by
  refine AMet.of (by decide) (by simp [Value.category]) (Nat.le_of_ble_eq_true rfl) ?_
  refine aw_iload_n dE_rowOf_0 rfl ?_
  refine aw_iconst (v := 0) dE_rowOf_1 (by decide) ?_
  refine aw_iconst (v := 3) dE_rowOf_2 (by decide) ?_
  refine an_callSb cg_E_82 (c_E_within _ _ _ _) dE_rowOf_3 rfl rfl (Nat.le_of_ble_eq_true rfl) (Nat.le_of_ble_eq_true rfl) (fun p3 => ?_) (fun p3 => ?_)
  · refine aw_if_eq (tgt := 18) dE_rowOf_6 (by decide) (fun q => absurd q (by decide)) (fun _ => ?_)
    obtain ⟨k, hk, rfl⟩ := isRow_k (isRow_of p3)
    refine aw_aload_r dE_rowOf_9 rfl ?_
    refine aw_get fg_E_11 dE_rowOf_10 rfl rfl ?_
    refine aw_iload_n dE_rowOf_13 rfl ?_
    refine an_rows dE_rowOf_14 rfl hk ?_
    refine aw_goto (tgt := 19) dE_rowOf_15 (by decide) ?_
    exact an_aret_r rfl dE_rowOf_19 ⟨rfl, Or.inl ⟨k, hk, rfl, rfl⟩⟩
  · refine aw_if_eq (tgt := 18) dE_rowOf_6 (by decide) (fun _ => ?_) (fun q => absurd q (by decide))
    refine aw_null dE_rowOf_18 ?_
    exact an_aret_0 rfl dE_rowOf_19 ⟨rfl, Or.inr ⟨fun q => p3 (isRow_to q), rfl⟩⟩

set_option maxHeartbeats 4000000 in
set_option maxRecDepth 100000 in
theorem c_E_areTwoRows (h : List AC) (a b : Int32) : AM kE_areTwoRows 2 [.int a, .int b] (h) (BQ (¬ a = b ∧ IsRow a ∧ IsRow b) h) := by
  refine AMet.of (by decide) (by simp [Value.category]) (Nat.le_of_ble_eq_true rfl) ?_
  refine aw_iload_n dE_areTwoRows_0 rfl ?_
  refine aw_iload_n dE_areTwoRows_1 rfl ?_
  refine aw_icmp_eq (tgt := 27) dE_areTwoRows_2 (by decide) (fun c2 => ?_) (fun c2 => ?_)
  · refine aw_iconst (v := 0) dE_areTwoRows_27 (by decide) ?_
    exact aw_zret rfl (Or.inl rfl) dE_areTwoRows_28 ⟨rfl, Or.inr ⟨fun q => q.1 c2, rfl⟩⟩
  · refine aw_iload_n dE_areTwoRows_5 rfl ?_
    refine aw_iconst (v := 0) dE_areTwoRows_6 (by decide) ?_
    refine aw_iconst (v := 3) dE_areTwoRows_7 (by decide) ?_
    refine an_callSb cg_E_82 (c_E_within _ _ _ _) dE_areTwoRows_8 rfl rfl (Nat.le_of_ble_eq_true rfl) (Nat.le_of_ble_eq_true rfl) (fun p8 => ?_) (fun p8 => ?_)
    · refine aw_if_eq (tgt := 27) dE_areTwoRows_11 (by decide) (fun q => absurd q (by decide)) (fun _ => ?_)
      refine aw_iload_n dE_areTwoRows_14 rfl ?_
      refine aw_iconst (v := 0) dE_areTwoRows_15 (by decide) ?_
      refine aw_iconst (v := 3) dE_areTwoRows_16 (by decide) ?_
      refine an_callSb cg_E_82 (c_E_within _ _ _ _) dE_areTwoRows_17 rfl rfl (Nat.le_of_ble_eq_true rfl) (Nat.le_of_ble_eq_true rfl) (fun p17 => ?_) (fun p17 => ?_)
      · refine aw_if_eq (tgt := 27) dE_areTwoRows_20 (by decide) (fun q => absurd q (by decide)) (fun _ => ?_)
        refine aw_iconst (v := 1) dE_areTwoRows_23 (by decide) ?_
        refine aw_goto (tgt := 28) dE_areTwoRows_24 (by decide) ?_
        exact aw_zret rfl (Or.inr rfl) dE_areTwoRows_28 ⟨rfl, Or.inl ⟨⟨c2, isRow_of p8, isRow_of p17⟩, rfl⟩⟩
      · refine aw_if_eq (tgt := 27) dE_areTwoRows_20 (by decide) (fun _ => ?_) (fun q => absurd q (by decide))
        refine aw_iconst (v := 0) dE_areTwoRows_27 (by decide) ?_
        exact aw_zret rfl (Or.inl rfl) dE_areTwoRows_28 ⟨rfl, Or.inr ⟨fun q => p17 (isRow_to q.2.2), rfl⟩⟩
    · refine aw_if_eq (tgt := 27) dE_areTwoRows_11 (by decide) (fun _ => ?_) (fun q => absurd q (by decide))
      refine aw_iconst (v := 0) dE_areTwoRows_27 (by decide) ?_
      exact aw_zret rfl (Or.inl rfl) dE_areTwoRows_28 ⟨rfl, Or.inr ⟨fun q => p8 (isRow_to q.2.1), rfl⟩⟩

set_option maxHeartbeats 4000000 in
set_option maxRecDepth 100000 in
theorem c_R_hasStep (N : Nat → Nat) (V : Nat → Nat → Int32) (K : Nat → Int32) (I : Nat → Int32) (A : Nat → Nat → Int32) (hI : CInv N V K I A) {k : Nat} (hk : k < 4) (s : Int32) : AM kR_hasStep 1 [.ref (2 + 2 * k), .int s] (hC I A) (BQ (IsStp N (nI k) s) (hC I A)) := by
  refine AMet.of (by decide) (by simp [Value.category]) (Nat.le_of_ble_eq_true rfl) ?_
  refine aw_iload_n dR_hasStep_0 rfl ?_
  refine aw_if_lt (tgt := 16) dR_hasStep_1 (by decide) (fun c1 => ?_) (fun c1 => ?_)
  · refine aw_iconst (v := 0) dR_hasStep_16 (by decide) ?_
    exact aw_zret rfl (Or.inl rfl) dR_hasStep_17 ⟨rfl, Or.inr ⟨stp_f2 hI.n c1, rfl⟩⟩
  · refine aw_iload_n dR_hasStep_4 rfl ?_
    refine aw_aload_r dR_hasStep_5 rfl ?_
    refine an_getR hk fg_R_15 dR_hasStep_6 rfl ?_
    rw [(hI.1 k hk).2.1]
    refine aw_icmp_ge (tgt := 16) dR_hasStep_9 (by decide) (fun c9 => ?_) (fun c9 => ?_)
    · refine aw_iconst (v := 0) dR_hasStep_16 (by decide) ?_
      exact aw_zret rfl (Or.inl rfl) dR_hasStep_17 ⟨rfl, Or.inr ⟨stp_f3 hI.n hk c9, rfl⟩⟩
    · refine aw_iconst (v := 1) dR_hasStep_12 (by decide) ?_
      refine aw_goto (tgt := 17) dR_hasStep_13 (by decide) ?_
      exact aw_zret rfl (Or.inr rfl) dR_hasStep_17 ⟨rfl, Or.inl ⟨stp_t hk (hI.n _ hk) c1 c9, rfl⟩⟩

set_option maxHeartbeats 4000000 in
set_option maxRecDepth 100000 in
theorem c_R_hasValue (N : Nat → Nat) (V : Nat → Nat → Int32) (K : Nat → Int32) (I : Nat → Int32) (A : Nat → Nat → Int32) (hI : CInv N V K I A) {k : Nat} (hk : k < 4) (s : Int32) : AM kR_hasValue 1 [.ref (2 + 2 * k), .int s] (hC I A) (BQ (HV N V (nI k) s) (hC I A)) := by
  refine AMet.of (by decide) (by simp [Value.category]) (Nat.le_of_ble_eq_true rfl) ?_
  refine aw_iload_n dR_hasValue_0 rfl ?_
  refine aw_if_lt (tgt := 28) dR_hasValue_1 (by decide) (fun c1 => ?_) (fun c1 => ?_)
  · refine aw_iconst (v := 0) dR_hasValue_28 (by decide) ?_
    exact aw_zret rfl (Or.inl rfl) dR_hasValue_29 ⟨rfl, Or.inr ⟨hv_f (stp_f2 hI.n c1), rfl⟩⟩
  · refine aw_iload_n dR_hasValue_4 rfl ?_
    refine aw_aload_r dR_hasValue_5 rfl ?_
    refine an_getR hk fg_R_15 dR_hasValue_6 rfl ?_
    rw [(hI.1 k hk).2.1]
    refine aw_icmp_ge (tgt := 28) dR_hasValue_9 (by decide) (fun c9 => ?_) (fun c9 => ?_)
    · refine aw_iconst (v := 0) dR_hasValue_28 (by decide) ?_
      exact aw_zret rfl (Or.inl rfl) dR_hasValue_29 ⟨rfl, Or.inr ⟨hv_f (stp_f3 hI.n hk c9), rfl⟩⟩
    · have hN := hI.n k hk
      obtain ⟨i, hi, rfl⟩ := lt_of_nge (by omega) c1 c9
      refine aw_aload_r dR_hasValue_12 rfl ?_
      refine an_getR hk fg_R_9 dR_hasValue_13 rfl ?_
      refine aw_iload_n dR_hasValue_16 rfl ?_
      refine an_ldC dR_hasValue_17 (ac_val hk) rfl (by omega) (by decide) ?_
      rw [(hI.1 k hk).2.2.2.2 i (by omega)]
      refine aw_sipush (v := (-5000)) dR_hasValue_18 (by decide) ?_
      refine aw_icmp_eq (tgt := 28) dR_hasValue_21 (by decide) (fun c21 => ?_) (fun c21 => ?_)
      · refine aw_iconst (v := 0) dR_hasValue_28 (by decide) ?_
        exact aw_zret rfl (Or.inl rfl) dR_hasValue_29 ⟨rfl, Or.inr ⟨hv_f2 hI.n hk hi c21, rfl⟩⟩
      · refine aw_iconst (v := 1) dR_hasValue_24 (by decide) ?_
        refine aw_goto (tgt := 29) dR_hasValue_25 (by decide) ?_
        exact aw_zret rfl (Or.inr rfl) dR_hasValue_29 ⟨rfl, Or.inl ⟨⟨k, i, hk, hi, rfl, rfl, c21⟩, rfl⟩⟩

set_option maxHeartbeats 4000000 in
set_option maxRecDepth 100000 in
theorem c_R_hasWay (N : Nat → Nat) (V : Nat → Nat → Int32) (K : Nat → Int32) (I : Nat → Int32) (A : Nat → Nat → Int32) (hI : CInv N V K I A) {k : Nat} (hk : k < 4) (i : Nat) : AM kR_hasWay 2 [.ref (2 + 2 * k), .int (nI i)] (hC I A) (BQ (HV N V (nI k) (nI i) ∧ HV N V (nI k) (nI (i + 1))) (hC I A)) := by
  refine AMet.of (by decide) (by simp [Value.category]) (Nat.le_of_ble_eq_true rfl) ?_
  refine aw_aload_r dR_hasWay_0 rfl ?_
  refine aw_iload_n dR_hasWay_1 rfl ?_
  refine an_callVb cg_R_25 (c_R_hasValue _ _ _ _ _ hI hk _) dR_hasWay_2 rfl (hC_row _ _ hk) rfl rfl rfl (Nat.le_of_ble_eq_true rfl) (Nat.le_of_ble_eq_true rfl) (fun p2 => ?_) (fun p2 => ?_)
  · refine aw_if_eq (tgt := 22) dR_hasWay_5 (by decide) (fun q => absurd q (by decide)) (fun _ => ?_)
    refine aw_aload_r dR_hasWay_8 rfl ?_
    refine aw_iload_n dR_hasWay_9 rfl ?_
    refine aw_iconst (v := 1) dR_hasWay_10 (by decide) ?_
    refine aw_iadd dR_hasWay_11 ?_
    refine an_top (nI_1 i) ?_
    refine an_callVb cg_R_25 (c_R_hasValue _ _ _ _ _ hI hk _) dR_hasWay_12 rfl (hC_row _ _ hk) rfl rfl rfl (Nat.le_of_ble_eq_true rfl) (Nat.le_of_ble_eq_true rfl) (fun p12 => ?_) (fun p12 => ?_)
    · refine aw_if_eq (tgt := 22) dR_hasWay_15 (by decide) (fun q => absurd q (by decide)) (fun _ => ?_)
      refine aw_iconst (v := 1) dR_hasWay_18 (by decide) ?_
      refine aw_goto (tgt := 23) dR_hasWay_19 (by decide) ?_
      exact aw_zret rfl (Or.inr rfl) dR_hasWay_23 ⟨rfl, Or.inl ⟨⟨p2, p12⟩, rfl⟩⟩
    · refine aw_if_eq (tgt := 22) dR_hasWay_15 (by decide) (fun _ => ?_) (fun q => absurd q (by decide))
      refine aw_iconst (v := 0) dR_hasWay_22 (by decide) ?_
      exact aw_zret rfl (Or.inl rfl) dR_hasWay_23 ⟨rfl, Or.inr ⟨fun q => p12 q.2, rfl⟩⟩
  · refine aw_if_eq (tgt := 22) dR_hasWay_5 (by decide) (fun _ => ?_) (fun q => absurd q (by decide))
    refine aw_iconst (v := 0) dR_hasWay_22 (by decide) ?_
    exact aw_zret rfl (Or.inl rfl) dR_hasWay_23 ⟨rfl, Or.inr ⟨fun q => p2 q.1, rfl⟩⟩

set_option maxHeartbeats 4000000 in
set_option maxRecDepth 100000 in
theorem c_R_append (N : Nat → Nat) (V : Nat → Nat → Int32) (K : Nat → Int32) (I : Nat → Int32) (A : Nat → Nat → Int32) (hI : CInv N V K I A) {k : Nat} (hk : k < 4) (v : Int32) : AM kR_append 1 [.ref (2 + 2 * k), .int v] (hC I A) (CR (sp_adds N V K (nI k) v)) := by
  refine AMet.of (by decide) (by simp [Value.category]) (Nat.le_of_ble_eq_true rfl) ?_
  have hN := hI.n k hk
  refine aw_aload_r dR_append_0 rfl ?_
  refine an_getR hk fg_R_15 dR_append_1 rfl ?_
  rw [(hI.1 k hk).2.1]
  refine aw_bipush (v := 40) dR_append_4 (by decide) ?_
  refine aw_icmp_lt (tgt := 11) dR_append_6 (by decide) (fun c6 => ?_) (fun c6 => ?_)
  · have hl : N k < 40 := (nI_ltI (by omega) (by decide)).mp c6
    refine aw_aload_r dR_append_11 rfl ?_
    refine an_getR hk fg_R_9 dR_append_12 rfl ?_
    refine aw_aload_r dR_append_15 rfl ?_
    refine an_getR hk fg_R_15 dR_append_16 rfl ?_
    rw [(hI.1 k hk).2.1]
    refine aw_iload_n dR_append_19 rfl ?_
    refine an_stC dR_append_20 (ac_val hk) rfl hl (by decide) ?_
    refine aw_aload_r dR_append_21 rfl ?_
    refine aw_dup dR_append_22 rfl ?_
    refine an_getR hk fg_R_15 dR_append_23 rfl ?_
    rw [(hI.1 k hk).2.1]
    refine aw_iconst (v := 1) dR_append_26 (by decide) ?_
    refine aw_iadd dR_append_27 ?_
    refine an_top (nI_1 _) ?_
    refine an_putR (j := 0) hk fp_R_15 dR_append_28 (by decide) ?_
    refine aw_aload_r dR_append_31 rfl ?_
    refine an_getR hk fg_R_15 dR_append_32 rfl ?_
    exact aw_iret rfl dR_append_35 (by unfold sp_adds; rw [rn_n (by omega), cif_t ⟨isRow_n hk, hl⟩]; exact ⟨congrArg (fun z => some (Value.int z)) pk_us, _, _, rfl, cinv_n (cinv_v hI hk hl v) hk (by omega)⟩)
  · have hl : ¬ N k < 40 := fun q => c6 (nI_lt q (by decide))
    refine aw_iconst (v := (-1)) dR_append_9 (by decide) ?_
    exact aw_iret rfl dR_append_10 (by unfold sp_adds; rw [rn_n (by omega), cif_f (fun q => hl q.2)]; exact ⟨rfl, I, A, rfl, hI⟩)

set_option maxHeartbeats 4000000 in
set_option maxRecDepth 100000 in
theorem c_E_value (N : Nat → Nat) (V : Nat → Nat → Int32) (K : Nat → Int32) (I : Nat → Int32) (A : Nat → Nat → Int32) (hI : CInv N V K I A) (r v : Int32) : AM kE_value 3 [.ref 0, .int r, .int v] (hC I A) (CR (sp_value N V K r v)) := by
  refine AMet.of (by decide) (by simp [Value.category]) (Nat.le_of_ble_eq_true rfl) ?_
  refine aw_aload_r dE_value_0 rfl ?_
  refine aw_iload_n dE_value_1 rfl ?_
  refine an_callVx cg_E_60 (c_E_rowOf _ _ _) dE_value_2 rfl rfl rfl rfl rfl (Nat.le_of_ble_eq_true rfl) (Nat.le_of_ble_eq_true rfl) ?_
  rintro _ _ ⟨rfl, ⟨k, hk, ek, rfl⟩ | ⟨nk, rfl⟩⟩
  · refine an_astore_r dE_value_5 (by decide) ?_
    refine aw_aload_r dE_value_6 rfl ?_
    refine an_ifnull_r (tgt := 17) dE_value_7 (by decide) ?_
    refine aw_iload_n dE_value_10 rfl ?_
    refine an_callSb cg_E_64 (c_E_isValue _ _) dE_value_11 rfl rfl (Nat.le_of_ble_eq_true rfl) (Nat.le_of_ble_eq_true rfl) (fun p11 => ?_) (fun p11 => ?_)
    · refine aw_if_ne (tgt := 21) dE_value_14 (by decide) (fun _ => ?_) (fun q => absurd q (by decide))
      subst ek
      refine aw_aload_r dE_value_21 rfl ?_
      refine aw_iload_n dE_value_22 rfl ?_
      refine an_callVx cg_E_68 (c_R_append _ _ _ _ _ hI hk _) dE_value_23 rfl (hC_row _ _ hk) rfl rfl rfl (Nat.le_of_ble_eq_true rfl) (Nat.le_of_ble_eq_true rfl) ?_
      rintro _ _ ⟨rfl, I1, A1, rfl, hI1⟩
      exact aw_iret rfl dE_value_26 (by unfold sp_value; rw [cif_t p11]; exact ⟨rfl, I1, A1, rfl, hI1⟩)
    · refine aw_if_ne (tgt := 21) dE_value_14 (by decide) (fun q => absurd q (by decide)) (fun _ => ?_)
      refine aw_iconst (v := (-1)) dE_value_17 (by decide) ?_
      refine aw_goto (tgt := 26) dE_value_18 (by decide) ?_
      exact aw_iret rfl dE_value_26 (by unfold sp_value; rw [cif_f p11]; exact ⟨rfl, I, A, rfl, hI⟩)
  · refine an_astore_0 dE_value_5 (by decide) ?_
    refine an_aload_0 dE_value_6 rfl ?_
    refine an_ifnull_0 (tgt := 17) dE_value_7 (by decide) ?_
    refine aw_iconst (v := (-1)) dE_value_17 (by decide) ?_
    refine aw_goto (tgt := 26) dE_value_18 (by decide) ?_
    exact aw_iret rfl dE_value_26 (by rw [sp_value_nr nk]; exact ⟨rfl, I, A, rfl, hI⟩)

set_option maxHeartbeats 4000000 in
set_option maxRecDepth 100000 in
theorem c_E_gap (N : Nat → Nat) (V : Nat → Nat → Int32) (K : Nat → Int32) (I : Nat → Int32) (A : Nat → Nat → Int32) (hI : CInv N V K I A) (r : Int32) : AM kE_gap 3 [.ref 0, .int r] (hC I A) (CR (sp_gap N V K r)) := by
  refine AMet.of (by decide) (by simp [Value.category]) (Nat.le_of_ble_eq_true rfl) ?_
  refine aw_aload_r dE_gap_0 rfl ?_
  refine aw_iload_n dE_gap_1 rfl ?_
  refine an_callVx cg_E_60 (c_E_rowOf _ _ _) dE_gap_2 rfl rfl rfl rfl rfl (Nat.le_of_ble_eq_true rfl) (Nat.le_of_ble_eq_true rfl) ?_
  rintro _ _ ⟨rfl, ⟨k, hk, ek, rfl⟩ | ⟨nk, rfl⟩⟩
  · refine an_astore_r dE_gap_5 (by decide) ?_
    refine aw_aload_r dE_gap_6 rfl ?_
    refine an_ifnonnull_r (tgt := 14) dE_gap_7 (by decide) ?_
    subst ek
    refine aw_aload_r dE_gap_14 rfl ?_
    refine aw_sipush (v := (-5000)) dE_gap_15 (by decide) ?_
    refine an_callVx cg_E_68 (c_R_append _ _ _ _ _ hI hk _) dE_gap_18 rfl (hC_row _ _ hk) rfl rfl rfl (Nat.le_of_ble_eq_true rfl) (Nat.le_of_ble_eq_true rfl) ?_
    rintro _ _ ⟨rfl, I1, A1, rfl, hI1⟩
    exact aw_iret rfl dE_gap_21 ⟨rfl, I1, A1, rfl, hI1⟩
  · refine an_astore_0 dE_gap_5 (by decide) ?_
    refine an_aload_0 dE_gap_6 rfl ?_
    refine an_ifnonnull_0 (tgt := 14) dE_gap_7 (by decide) ?_
    refine aw_iconst (v := (-1)) dE_gap_10 (by decide) ?_
    refine aw_goto (tgt := 21) dE_gap_11 (by decide) ?_
    exact aw_iret rfl dE_gap_21 (by unfold sp_gap sp_adds; rw [cif_f (fun z => nk z.1)]; exact ⟨rfl, I, A, rfl, hI⟩)

theorem stp_row {N : Nat → Nat} {r s : Int32} (h : IsStp N r s) : IsRow r := by
  obtain ⟨k, i, hk, hi, rfl, rfl⟩ := h
  exact isRow_n hk
theorem hv_row {N : Nat → Nat} {V : Nat → Nat → Int32} {r s : Int32} (h : HV N V r s) : IsRow r := by
  obtain ⟨k, i, hk, hi, rfl, rfl, _⟩ := h
  exact isRow_n hk
theorem stp_i {N : Nat → Nat} {k : Nat} {s : Int32} (hN : ∀ k, k < 4 → N k ≤ 40) (hk : k < 4) (h : IsStp N (nI k) s) : ∃ i, i < N k ∧ s = nI i := by
  obtain ⟨k2, i, hk2, hi, e, rfl⟩ := h
  have := nI_inj (by omega) (by omega) e
  subst this
  exact ⟨i, hi, rfl⟩
theorem hv_i {N : Nat → Nat} {V : Nat → Nat → Int32} {k : Nat} {s : Int32} (hN : ∀ k, k < 4 → N k ≤ 40) (hk : k < 4) (h : HV N V (nI k) s) : ∃ i, i < N k ∧ s = nI i ∧ ¬ V k i = -5000 := by
  obtain ⟨k2, i, hk2, hi, e, rfl, hv⟩ := h
  have := nI_inj (by omega) (by omega) e
  subst this
  exact ⟨i, hi, rfl, hv⟩
set_option maxHeartbeats 4000000 in
set_option maxRecDepth 100000 in
theorem c_E_put (N : Nat → Nat) (V : Nat → Nat → Int32) (K : Nat → Int32) (I : Nat → Int32) (A : Nat → Nat → Int32) (hI : CInv N V K I A) (r s v : Int32) : AM kE_put 3 [.ref 0, .int r, .int s, .int v] (hC I A) (CR (sp_put N V K r s v)) := by
  refine AMet.of (by decide) (by simp [Value.category]) (Nat.le_of_ble_eq_true rfl) ?_
  refine aw_aload_r dE_put_0 rfl ?_
  refine aw_iload_n dE_put_1 rfl ?_
  refine an_callVx cg_E_60 (c_E_rowOf _ _ _) dE_put_2 rfl rfl rfl rfl rfl (Nat.le_of_ble_eq_true rfl) (Nat.le_of_ble_eq_true rfl) ?_
  rintro _ _ ⟨rfl, ⟨k, hk, ek, rfl⟩ | ⟨nk, rfl⟩⟩
  · refine an_astore_m dE_put_5 (by decide) ?_
    refine aw_aload dE_put_7 rfl ?_
    refine an_ifnull_r (tgt := 28) dE_put_9 (by decide) ?_
    subst ek
    refine aw_aload dE_put_12 rfl ?_
    refine aw_iload_n dE_put_14 rfl ?_
    refine an_callVb cg_E_72 (c_R_hasStep _ _ _ _ _ hI hk _) dE_put_15 rfl (hC_row _ _ hk) rfl rfl rfl (Nat.le_of_ble_eq_true rfl) (Nat.le_of_ble_eq_true rfl) (fun p15 => ?_) (fun p15 => ?_)
    · refine aw_if_eq (tgt := 28) dE_put_18 (by decide) (fun q => absurd q (by decide)) (fun _ => ?_)
      refine aw_iload_n dE_put_21 rfl ?_
      refine an_callSb cg_E_64 (c_E_isValue _ _) dE_put_22 rfl rfl (Nat.le_of_ble_eq_true rfl) (Nat.le_of_ble_eq_true rfl) (fun p22 => ?_) (fun p22 => ?_)
      · refine aw_if_ne (tgt := 30) dE_put_25 (by decide) (fun _ => ?_) (fun q => absurd q (by decide))
        have hN := hI.n k hk
        obtain ⟨i, hi, rfl⟩ := stp_i hI.n hk p15
        refine aw_aload dE_put_30 rfl ?_
        refine an_getR hk fg_E_75 dE_put_32 rfl ?_
        refine aw_iload_n dE_put_35 rfl ?_
        refine aw_iload_n dE_put_36 rfl ?_
        refine an_stC dE_put_37 (ac_val hk) rfl (by omega) (by decide) ?_
        refine aw_iconst (v := 1) dE_put_38 (by decide) ?_
        exact aw_zret rfl (Or.inr rfl) dE_put_39 (by unfold sp_put; rw [cif_t ⟨p15, p22⟩, rn_n (by omega), rn_n (by omega)]; exact ⟨rfl, _, _, rfl, cinv_v hI hk (by omega) v⟩)
      · refine aw_if_ne (tgt := 30) dE_put_25 (by decide) (fun q => absurd q (by decide)) (fun _ => ?_)
        refine aw_iconst (v := 0) dE_put_28 (by decide) ?_
        exact aw_zret rfl (Or.inl rfl) dE_put_29 (by unfold sp_put; rw [cif_f (fun q => p22 q.2)]; exact ⟨rfl, I, A, rfl, hI⟩)
    · refine aw_if_eq (tgt := 28) dE_put_18 (by decide) (fun _ => ?_) (fun q => absurd q (by decide))
      refine aw_iconst (v := 0) dE_put_28 (by decide) ?_
      exact aw_zret rfl (Or.inl rfl) dE_put_29 (by unfold sp_put; rw [cif_f (fun q => p15 q.1)]; exact ⟨rfl, I, A, rfl, hI⟩)
  · refine an_astore_m0 dE_put_5 (by decide) ?_
    refine an_aload_m0 dE_put_7 rfl ?_
    refine an_ifnull_0 (tgt := 28) dE_put_9 (by decide) ?_
    refine aw_iconst (v := 0) dE_put_28 (by decide) ?_
    exact aw_zret rfl (Or.inl rfl) dE_put_29 (by unfold sp_put; rw [cif_f (fun q => nk (stp_row q.1))]; exact ⟨rfl, I, A, rfl, hI⟩)

set_option maxHeartbeats 4000000 in
set_option maxRecDepth 100000 in
theorem c_E_clear (N : Nat → Nat) (V : Nat → Nat → Int32) (K : Nat → Int32) (I : Nat → Int32) (A : Nat → Nat → Int32) (hI : CInv N V K I A) (r : Int32) : AM kE_clear 3 [.ref 0, .int r] (hC I A) (CR (sp_clear N V K r)) := by
  refine AMet.of (by decide) (by simp [Value.category]) (Nat.le_of_ble_eq_true rfl) ?_
  refine aw_aload_r dE_clear_0 rfl ?_
  refine aw_iload_n dE_clear_1 rfl ?_
  refine an_callVx cg_E_60 (c_E_rowOf _ _ _) dE_clear_2 rfl rfl rfl rfl rfl (Nat.le_of_ble_eq_true rfl) (Nat.le_of_ble_eq_true rfl) ?_
  rintro _ _ ⟨rfl, ⟨k, hk, ek, rfl⟩ | ⟨nk, rfl⟩⟩
  · refine an_astore_r dE_clear_5 (by decide) ?_
    refine aw_aload_r dE_clear_6 rfl ?_
    refine an_ifnonnull_r (tgt := 12) dE_clear_7 (by decide) ?_
    subst ek
    refine aw_aload_r dE_clear_12 rfl ?_
    refine an_getR hk fg_E_79 dE_clear_13 rfl ?_
    rw [(hI.1 k hk).2.1]
    refine aw_istore_n dE_clear_16 (by decide) ?_
    refine aw_aload_r dE_clear_17 rfl ?_
    refine aw_iconst (v := 0) dE_clear_18 (by decide) ?_
    refine an_putR (j := 0) hk fp_E_79 dE_clear_19 (by decide) ?_
    refine aw_aload_r dE_clear_22 rfl ?_
    refine aw_get fg_E_54 dE_clear_23 rfl rfl ?_
    show AN _ _ _ _ _ (.int (upd I (201 + 200 * k + 0) 0 9) :: _) _
    rw [pk_un (by omega), hI.2.2.2.2.2.1]
    refine aw_iload_n dE_clear_26 rfl ?_
    refine aw_icmp_ne (tgt := 35) dE_clear_27 (by decide) (fun c27 => ?_) (fun c27 => ?_)
    · refine aw_iload_n dE_clear_35 rfl ?_
      exact aw_iret rfl dE_clear_36 (by unfold sp_clear; rw [cif_t (isRow_n hk), rn_n (by omega), if_neg c27]; exact ⟨rfl, _, _, rfl, cinv_n hI hk (by omega)⟩)
    · refine aw_aload_r dE_clear_30 rfl ?_
      refine aw_iconst (v := (-1)) dE_clear_31 (by decide) ?_
      refine an_putE fp_E_54 dE_clear_32 (by decide) ?_
      refine aw_iload_n dE_clear_35 rfl ?_
      exact aw_iret rfl dE_clear_36 (by unfold sp_clear; rw [cif_t (isRow_n hk), rn_n (by omega), if_pos c27]; exact ⟨rfl, _, _, rfl, cinv_12 (cinv_n hI hk (by omega)) (-1)⟩)
  · refine an_astore_0 dE_clear_5 (by decide) ?_
    refine an_aload_0 dE_clear_6 rfl ?_
    refine an_ifnonnull_0 (tgt := 12) dE_clear_7 (by decide) ?_
    refine aw_iconst (v := (-1)) dE_clear_10 (by decide) ?_
    exact aw_iret rfl dE_clear_11 (by unfold sp_clear; rw [cif_f nk]; exact ⟨rfl, I, A, rfl, hI⟩)

set_option maxHeartbeats 4000000 in
set_option maxRecDepth 100000 in
theorem c_E_miss (N : Nat → Nat) (V : Nat → Nat → Int32) (K : Nat → Int32) (I : Nat → Int32) (A : Nat → Nat → Int32) (hI : CInv N V K I A) (r v : Int32) : AM kE_miss 3 [.ref 0, .int r, .int v] (hC I A) (CR (sp_miss N V K r v)) := by
  refine AMet.of (by decide) (by simp [Value.category]) (Nat.le_of_ble_eq_true rfl) ?_
  refine aw_aload_r dE_miss_0 rfl ?_
  refine aw_iload_n dE_miss_1 rfl ?_
  refine an_callVx cg_E_60 (c_E_rowOf _ _ _) dE_miss_2 rfl rfl rfl rfl rfl (Nat.le_of_ble_eq_true rfl) (Nat.le_of_ble_eq_true rfl) ?_
  rintro _ _ ⟨rfl, ⟨k, hk, ek, rfl⟩ | ⟨nk, rfl⟩⟩
  · refine an_astore_r dE_miss_5 (by decide) ?_
    refine aw_aload_r dE_miss_6 rfl ?_
    refine an_ifnull_r (tgt := 21) dE_miss_7 (by decide) ?_
    subst ek
    refine aw_iload_n dE_miss_10 rfl ?_
    refine aw_iconst (v := 0) dE_miss_11 (by decide) ?_
    refine aw_sipush (v := 200) dE_miss_12 (by decide) ?_
    refine an_callSb cg_E_82 (c_E_within _ _ _ _) dE_miss_15 rfl rfl (Nat.le_of_ble_eq_true rfl) (Nat.le_of_ble_eq_true rfl) (fun p15 => ?_) (fun p15 => ?_)
    · refine aw_if_ne (tgt := 23) dE_miss_18 (by decide) (fun _ => ?_) (fun q => absurd q (by decide))
      refine aw_aload_r dE_miss_23 rfl ?_
      refine an_getR hk fg_E_86 dE_miss_24 rfl ?_
      rw [(hI.1 k hk).2.2.1]
      refine aw_istore dE_miss_27 (by decide) ?_
      refine aw_aload_r dE_miss_29 rfl ?_
      refine aw_iload_n dE_miss_30 rfl ?_
      refine an_putR (j := 1) hk fp_E_86 dE_miss_31 (by decide) ?_
      refine aw_iload dE_miss_34 rfl ?_
      exact aw_iret rfl dE_miss_36 (by unfold sp_miss; rw [cif_t ⟨isRow_n hk, p15⟩, rn_n (by omega)]; exact ⟨rfl, _, _, rfl, cinv_miss hI hk v⟩)
    · refine aw_if_ne (tgt := 23) dE_miss_18 (by decide) (fun q => absurd q (by decide)) (fun _ => ?_)
      refine aw_iconst (v := (-1)) dE_miss_21 (by decide) ?_
      exact aw_iret rfl dE_miss_22 (by unfold sp_miss; rw [cif_f (fun q => p15 q.2)]; exact ⟨rfl, I, A, rfl, hI⟩)
  · refine an_astore_0 dE_miss_5 (by decide) ?_
    refine an_aload_0 dE_miss_6 rfl ?_
    refine an_ifnull_0 (tgt := 21) dE_miss_7 (by decide) ?_
    refine aw_iconst (v := (-1)) dE_miss_21 (by decide) ?_
    exact aw_iret rfl dE_miss_22 (by unfold sp_miss; rw [cif_f (fun q => nk q.1)]; exact ⟨rfl, I, A, rfl, hI⟩)

set_option maxHeartbeats 4000000 in
set_option maxRecDepth 100000 in
theorem c_E_worth (N : Nat → Nat) (V : Nat → Nat → Int32) (K : Nat → Int32) (I : Nat → Int32) (A : Nat → Nat → Int32) (hI : CInv N V K I A) (r v : Int32) : AM kE_worth 3 [.ref 0, .int r, .int v] (hC I A) (CR (sp_worth N V K r v)) := by
  refine AMet.of (by decide) (by simp [Value.category]) (Nat.le_of_ble_eq_true rfl) ?_
  refine aw_aload_r dE_worth_0 rfl ?_
  refine aw_iload_n dE_worth_1 rfl ?_
  refine an_callVx cg_E_60 (c_E_rowOf _ _ _) dE_worth_2 rfl rfl rfl rfl rfl (Nat.le_of_ble_eq_true rfl) (Nat.le_of_ble_eq_true rfl) ?_
  rintro _ _ ⟨rfl, ⟨k, hk, ek, rfl⟩ | ⟨nk, rfl⟩⟩
  · refine an_astore_r dE_worth_5 (by decide) ?_
    refine aw_aload_r dE_worth_6 rfl ?_
    refine an_ifnull_r (tgt := 21) dE_worth_7 (by decide) ?_
    subst ek
    refine aw_iload_n dE_worth_10 rfl ?_
    refine aw_iconst (v := 0) dE_worth_11 (by decide) ?_
    refine aw_sipush (v := 1000) dE_worth_12 (by decide) ?_
    refine an_callSb cg_E_82 (c_E_within _ _ _ _) dE_worth_15 rfl rfl (Nat.le_of_ble_eq_true rfl) (Nat.le_of_ble_eq_true rfl) (fun p15 => ?_) (fun p15 => ?_)
    · refine aw_if_ne (tgt := 23) dE_worth_18 (by decide) (fun _ => ?_) (fun q => absurd q (by decide))
      refine aw_aload_r dE_worth_23 rfl ?_
      refine an_getR hk fg_E_145 dE_worth_24 rfl ?_
      rw [(hI.1 k hk).2.2.2.1]
      refine aw_istore dE_worth_27 (by decide) ?_
      refine aw_aload_r dE_worth_29 rfl ?_
      refine aw_iload_n dE_worth_30 rfl ?_
      refine an_putR (j := 2) hk fp_E_145 dE_worth_31 (by decide) ?_
      refine aw_iload dE_worth_34 rfl ?_
      exact aw_iret rfl dE_worth_36 (by unfold sp_worth; rw [cif_t ⟨isRow_n hk, p15⟩, rn_n (by omega)]; exact ⟨rfl, _, _, rfl, cinv_worth hI hk v⟩)
    · refine aw_if_ne (tgt := 23) dE_worth_18 (by decide) (fun q => absurd q (by decide)) (fun _ => ?_)
      refine aw_iconst (v := (-1)) dE_worth_21 (by decide) ?_
      exact aw_iret rfl dE_worth_22 (by unfold sp_worth; rw [cif_f (fun q => p15 q.2)]; exact ⟨rfl, I, A, rfl, hI⟩)
  · refine an_astore_0 dE_worth_5 (by decide) ?_
    refine an_aload_0 dE_worth_6 rfl ?_
    refine an_ifnull_0 (tgt := 21) dE_worth_7 (by decide) ?_
    refine aw_iconst (v := (-1)) dE_worth_21 (by decide) ?_
    exact aw_iret rfl dE_worth_22 (by unfold sp_worth; rw [cif_f (fun q => nk q.1)]; exact ⟨rfl, I, A, rfl, hI⟩)

set_option maxHeartbeats 4000000 in
set_option maxRecDepth 100000 in
theorem c_E_part (N : Nat → Nat) (V : Nat → Nat → Int32) (K : Nat → Int32) (I : Nat → Int32) (A : Nat → Nat → Int32) (hI : CInv N V K I A) (v : Int32) : AM kE_part 2 [.ref 0, .int v] (hC I A) (CR (sp_part N V K v)) := by
  refine AMet.of (by decide) (by simp [Value.category]) (Nat.le_of_ble_eq_true rfl) ?_
  refine aw_iload_n dE_part_0 rfl ?_
  refine aw_iconst (v := 0) dE_part_1 (by decide) ?_
  refine aw_sipush (v := 10000) dE_part_2 (by decide) ?_
  refine an_callSb cg_E_82 (c_E_within _ _ _ _) dE_part_5 rfl rfl (Nat.le_of_ble_eq_true rfl) (Nat.le_of_ble_eq_true rfl) (fun p5 => ?_) (fun p5 => ?_)
  · refine aw_if_ne (tgt := 13) dE_part_8 (by decide) (fun _ => ?_) (fun q => absurd q (by decide))
    refine aw_aload_r dE_part_13 rfl ?_
    refine aw_get fg_E_41 dE_part_14 rfl rfl ?_
    show AN _ _ _ _ _ (.int (I 5) :: _) _
    rw [hI.2.1]
    refine aw_istore_n dE_part_17 (by decide) ?_
    refine aw_aload_r dE_part_18 rfl ?_
    refine aw_iload_n dE_part_19 rfl ?_
    refine an_putE fp_E_41 dE_part_20 (by decide) ?_
    refine aw_iload_n dE_part_23 rfl ?_
    exact aw_iret rfl dE_part_24 (by unfold sp_part; rw [cif_t p5]; exact ⟨rfl, _, _, rfl, cinv_8 hI v⟩)
  · refine aw_if_ne (tgt := 13) dE_part_8 (by decide) (fun q => absurd q (by decide)) (fun _ => ?_)
    refine aw_iconst (v := (-1)) dE_part_11 (by decide) ?_
    exact aw_iret rfl dE_part_12 (by unfold sp_part; rw [cif_f p5]; exact ⟨rfl, I, A, rfl, hI⟩)

set_option maxHeartbeats 4000000 in
set_option maxRecDepth 100000 in
theorem c_E_at (N : Nat → Nat) (V : Nat → Nat → Int32) (K : Nat → Int32) (I : Nat → Int32) (A : Nat → Nat → Int32) (hI : CInv N V K I A) (r s : Int32) : AM kE_at 3 [.ref 0, .int r, .int s] (hC I A) (CR (sp_at N V K r s)) := by
  refine AMet.of (by decide) (by simp [Value.category]) (Nat.le_of_ble_eq_true rfl) ?_
  refine aw_aload_r dE_at_0 rfl ?_
  refine aw_iload_n dE_at_1 rfl ?_
  refine an_callVx cg_E_60 (c_E_rowOf _ _ _) dE_at_2 rfl rfl rfl rfl rfl (Nat.le_of_ble_eq_true rfl) (Nat.le_of_ble_eq_true rfl) ?_
  rintro _ _ ⟨rfl, ⟨k, hk, ek, rfl⟩ | ⟨nk, rfl⟩⟩
  · refine an_astore_r dE_at_5 (by decide) ?_
    refine aw_aload_r dE_at_6 rfl ?_
    refine an_ifnull_r (tgt := 18) dE_at_7 (by decide) ?_
    subst ek
    refine aw_aload_r dE_at_10 rfl ?_
    refine aw_iload_n dE_at_11 rfl ?_
    refine an_callVb cg_E_72 (c_R_hasStep _ _ _ _ _ hI hk _) dE_at_12 rfl (hC_row _ _ hk) rfl rfl rfl (Nat.le_of_ble_eq_true rfl) (Nat.le_of_ble_eq_true rfl) (fun p12 => ?_) (fun p12 => ?_)
    · refine aw_if_ne (tgt := 24) dE_at_15 (by decide) (fun _ => ?_) (fun q => absurd q (by decide))
      have hN := hI.n k hk
      obtain ⟨i, hi, rfl⟩ := stp_i hI.n hk p12
      refine aw_aload_r dE_at_24 rfl ?_
      refine an_getR hk fg_E_75 dE_at_25 rfl ?_
      refine aw_iload_n dE_at_28 rfl ?_
      refine an_ldC dE_at_29 (ac_val hk) rfl (by omega) (by decide) ?_
      rw [(hI.1 k hk).2.2.2.2 i (by omega)]
      exact aw_iret rfl dE_at_30 (by unfold sp_at; rw [cif_t p12, rn_n (by omega), rn_n (by omega)]; exact ⟨rfl, I, A, rfl, hI⟩)
    · refine aw_if_ne (tgt := 24) dE_at_15 (by decide) (fun q => absurd q (by decide)) (fun _ => ?_)
      refine aw_sipush (v := (-6000)) dE_at_18 (by decide) ?_
      refine aw_goto (tgt := 30) dE_at_21 (by decide) ?_
      exact aw_iret rfl dE_at_30 (by unfold sp_at; rw [cif_f p12]; exact ⟨rfl, I, A, rfl, hI⟩)
  · refine an_astore_0 dE_at_5 (by decide) ?_
    refine an_aload_0 dE_at_6 rfl ?_
    refine an_ifnull_0 (tgt := 18) dE_at_7 (by decide) ?_
    refine aw_sipush (v := (-6000)) dE_at_18 (by decide) ?_
    refine aw_goto (tgt := 30) dE_at_21 (by decide) ?_
    exact aw_iret rfl dE_at_30 (by unfold sp_at; rw [cif_f (fun q => nk (stp_row q))]; exact ⟨rfl, I, A, rfl, hI⟩)

set_option maxHeartbeats 4000000 in
set_option maxRecDepth 100000 in
theorem c_E_ear (N : Nat → Nat) (V : Nat → Nat → Int32) (K : Nat → Int32) (I : Nat → Int32) (A : Nat → Nat → Int32) (hI : CInv N V K I A) (h l : Int32) : AM kE_ear 2 [.ref 0, .int h, .int l] (hC I A) (CR (sp_ear N V K h l)) := by
  refine AMet.of (by decide) (by simp [Value.category]) (Nat.le_of_ble_eq_true rfl) ?_
  refine aw_iload_n dE_ear_0 rfl ?_
  refine aw_iconst (v := 0) dE_ear_1 (by decide) ?_
  refine aw_bipush (v := 60) dE_ear_2 (by decide) ?_
  refine an_callSb cg_E_82 (c_E_within _ _ _ _) dE_ear_4 rfl rfl (Nat.le_of_ble_eq_true rfl) (Nat.le_of_ble_eq_true rfl) (fun p4 => ?_) (fun p4 => ?_)
  · refine aw_if_eq (tgt := 20) dE_ear_7 (by decide) (fun q => absurd q (by decide)) (fun _ => ?_)
    refine aw_iload_n dE_ear_10 rfl ?_
    refine aw_iconst (v := 0) dE_ear_11 (by decide) ?_
    refine aw_bipush (v := 100) dE_ear_12 (by decide) ?_
    refine an_callSb cg_E_82 (c_E_within _ _ _ _) dE_ear_14 rfl rfl (Nat.le_of_ble_eq_true rfl) (Nat.le_of_ble_eq_true rfl) (fun p14 => ?_) (fun p14 => ?_)
    · refine aw_if_ne (tgt := 22) dE_ear_17 (by decide) (fun _ => ?_) (fun q => absurd q (by decide))
      refine aw_aload_r dE_ear_22 rfl ?_
      refine aw_iload_n dE_ear_23 rfl ?_
      refine an_putE fp_E_48 dE_ear_24 (by decide) ?_
      refine aw_aload_r dE_ear_27 rfl ?_
      refine aw_iload_n dE_ear_28 rfl ?_
      refine an_putE fp_E_51 dE_ear_29 (by decide) ?_
      refine aw_iconst (v := 1) dE_ear_32 (by decide) ?_
      exact aw_zret rfl (Or.inr rfl) dE_ear_33 (by unfold sp_ear; rw [cif_t ⟨p4, p14⟩]; exact ⟨rfl, _, _, rfl, cinv_11 (cinv_10 hI h) l⟩)
    · refine aw_if_ne (tgt := 22) dE_ear_17 (by decide) (fun q => absurd q (by decide)) (fun _ => ?_)
      refine aw_iconst (v := 0) dE_ear_20 (by decide) ?_
      exact aw_zret rfl (Or.inl rfl) dE_ear_21 (by unfold sp_ear; rw [cif_f (fun q => p14 q.2)]; exact ⟨rfl, I, A, rfl, hI⟩)
  · refine aw_if_eq (tgt := 20) dE_ear_7 (by decide) (fun _ => ?_) (fun q => absurd q (by decide))
    refine aw_iconst (v := 0) dE_ear_20 (by decide) ?_
    exact aw_zret rfl (Or.inl rfl) dE_ear_21 (by unfold sp_ear; rw [cif_f (fun q => p4 q.1)]; exact ⟨rfl, I, A, rfl, hI⟩)

set_option maxHeartbeats 4000000 in
set_option maxRecDepth 100000 in
theorem c_E_walk (N : Nat → Nat) (V : Nat → Nat → Int32) (K : Nat → Int32) (I : Nat → Int32) (A : Nat → Nat → Int32) (hI : CInv N V K I A) (r s : Int32) : AM kE_walk 3 [.ref 0, .int r, .int s] (hC I A) (CR (sp_walk N V K r s)) := by
  refine AMet.of (by decide) (by simp [Value.category]) (Nat.le_of_ble_eq_true rfl) ?_
  refine aw_aload_r dE_walk_0 rfl ?_
  refine aw_iload_n dE_walk_1 rfl ?_
  refine an_callVx cg_E_60 (c_E_rowOf _ _ _) dE_walk_2 rfl rfl rfl rfl rfl (Nat.le_of_ble_eq_true rfl) (Nat.le_of_ble_eq_true rfl) ?_
  rintro _ _ ⟨rfl, ⟨k, hk, ek, rfl⟩ | ⟨nk, rfl⟩⟩
  · refine an_astore_r dE_walk_5 (by decide) ?_
    refine aw_aload_r dE_walk_6 rfl ?_
    refine an_ifnull_r (tgt := 18) dE_walk_7 (by decide) ?_
    subst ek
    refine aw_aload_r dE_walk_10 rfl ?_
    refine aw_iload_n dE_walk_11 rfl ?_
    refine an_callVb cg_E_72 (c_R_hasStep _ _ _ _ _ hI hk _) dE_walk_12 rfl (hC_row _ _ hk) rfl rfl rfl (Nat.le_of_ble_eq_true rfl) (Nat.le_of_ble_eq_true rfl) (fun p12 => ?_) (fun p12 => ?_)
    · refine aw_if_ne (tgt := 20) dE_walk_15 (by decide) (fun _ => ?_) (fun q => absurd q (by decide))
      refine aw_aload_r dE_walk_20 rfl ?_
      refine aw_iload_n dE_walk_21 rfl ?_
      refine an_putE fp_E_54 dE_walk_22 (by decide) ?_
      refine aw_aload_r dE_walk_25 rfl ?_
      refine aw_iload_n dE_walk_26 rfl ?_
      refine an_putE fp_E_57 dE_walk_27 (by decide) ?_
      refine aw_iconst (v := 1) dE_walk_30 (by decide) ?_
      exact aw_zret rfl (Or.inr rfl) dE_walk_31 (by unfold sp_walk; rw [cif_t p12]; exact ⟨rfl, _, _, rfl, cinv_13 (cinv_12 hI _) s⟩)
    · refine aw_if_ne (tgt := 20) dE_walk_15 (by decide) (fun q => absurd q (by decide)) (fun _ => ?_)
      refine aw_iconst (v := 0) dE_walk_18 (by decide) ?_
      exact aw_zret rfl (Or.inl rfl) dE_walk_19 (by unfold sp_walk; rw [cif_f p12]; exact ⟨rfl, I, A, rfl, hI⟩)
  · refine an_astore_0 dE_walk_5 (by decide) ?_
    refine an_aload_0 dE_walk_6 rfl ?_
    refine an_ifnull_0 (tgt := 18) dE_walk_7 (by decide) ?_
    refine aw_iconst (v := 0) dE_walk_18 (by decide) ?_
    exact aw_zret rfl (Or.inl rfl) dE_walk_19 (by unfold sp_walk; rw [cif_f (fun q => nk (stp_row q))]; exact ⟨rfl, I, A, rfl, hI⟩)

set_option maxHeartbeats 4000000 in
set_option maxRecDepth 100000 in
theorem c_E_where (N : Nat → Nat) (V : Nat → Nat → Int32) (K : Nat → Int32) (I : Nat → Int32) (A : Nat → Nat → Int32) (hI : CInv N V K I A) (w : Int32) : AM kE_where 1 [.ref 0, .int w] (hC I A) (CR (sp_where N V K w)) := by
  refine AMet.of (by decide) (by simp [Value.category]) (Nat.le_of_ble_eq_true rfl) ?_
  refine aw_aload_r dE_where_0 rfl ?_
  refine aw_get fg_E_54 dE_where_1 rfl rfl ?_
  show AN _ _ _ _ _ (.int (I 9) :: _) _
  rw [hI.2.2.2.2.2.1]
  refine aw_iconst (v := (-1)) dE_where_4 (by decide) ?_
  refine aw_icmp_ne (tgt := 10) dE_where_5 (by decide) (fun c5 => ?_) (fun c5 => ?_)
  · refine aw_iload_n dE_where_10 rfl ?_
    rcases sw2 w with rfl | rfl | ⟨s0, s1⟩
    · refine an_lookup (off := 25) (tgt := 36) dE_where_11 (by decide) rfl (by decide) ?_
      refine aw_aload_r dE_where_36 rfl ?_
      refine aw_get fg_E_54 dE_where_37 rfl rfl ?_
      show AN _ _ _ _ _ (.int (I 9) :: _) _
      rw [hI.2.2.2.2.2.1]
      exact aw_iret rfl dE_where_40 (by unfold sp_where; rw [if_neg c5, if_pos rfl]; exact ⟨rfl, I, A, rfl, hI⟩)
    · refine an_lookup (off := 30) (tgt := 41) dE_where_11 (by decide) rfl (by decide) ?_
      refine aw_aload_r dE_where_41 rfl ?_
      refine aw_get fg_E_57 dE_where_42 rfl rfl ?_
      show AN _ _ _ _ _ (.int (I 10) :: _) _
      rw [hI.2.2.2.2.2.2]
      exact aw_iret rfl dE_where_45 (by unfold sp_where; rw [if_neg c5, if_neg (by decide), if_pos rfl]; exact ⟨rfl, I, A, rfl, hI⟩)
    · refine an_lookup (off := 35) (tgt := 46) dE_where_11 (by decide) ((lv_osw s0 rfl).trans (lv_osw s1 rfl)) (by decide) ?_
      refine aw_iconst (v := (-1)) dE_where_46 (by decide) ?_
      exact aw_iret rfl dE_where_47 (by unfold sp_where; rw [if_neg c5, if_neg s0, if_neg s1]; exact ⟨rfl, I, A, rfl, hI⟩)
  · refine aw_iconst (v := (-1)) dE_where_8 (by decide) ?_
    exact aw_iret rfl dE_where_9 (by unfold sp_where; rw [if_pos c5]; exact ⟨rfl, I, A, rfl, hI⟩)

theorem row_ne {k : Nat} (hk : k < 4) : ¬ nI k = -1 := by
  intro q
  have := congrArg Int32.toInt q
  rw [nI_toInt (by omega), z_m1] at this
  omega
set_option maxHeartbeats 4000000 in
set_option maxRecDepth 100000 in
theorem c_E_go (N : Nat → Nat) (V : Nat → Nat → Int32) (K : Nat → Int32) (I : Nat → Int32) (A : Nat → Nat → Int32) (hI : CInv N V K I A) (hP : PInv N V K) (on : Int32) : AM kE_go 3 [.ref 0, .int on] (hC I A) (CR (sp_go N V K on)) := by
  refine AMet.of (by decide) (by simp [Value.category]) (Nat.le_of_ble_eq_true rfl) ?_
  refine aw_aload_r dE_go_0 rfl ?_
  refine aw_aload_r dE_go_1 rfl ?_
  refine aw_get fg_E_54 dE_go_2 rfl rfl ?_
  show AN _ _ _ _ _ (.int (I 9) :: _) _
  rw [hI.2.2.2.2.2.1]
  refine an_callVx cg_E_60 (c_E_rowOf _ _ _) dE_go_5 rfl rfl rfl rfl rfl (Nat.le_of_ble_eq_true rfl) (Nat.le_of_ble_eq_true rfl) ?_
  rintro _ _ ⟨rfl, ⟨k, hk, ek, rfl⟩ | ⟨nk, rfl⟩⟩
  · refine an_astore_r dE_go_8 (by decide) ?_
    refine aw_iload_n dE_go_9 rfl ?_
    refine aw_if_eq (tgt := 22) dE_go_10 (by decide) (fun c10 => ?_) (fun c10 => ?_)
    · refine aw_aload_r dE_go_22 rfl ?_
      refine aw_get fg_E_57 dE_go_23 rfl rfl ?_
      show AN _ _ _ _ _ (.int (I 10) :: _) _
      rw [hI.2.2.2.2.2.2]
      refine aw_iconst (v := 1) dE_go_26 (by decide) ?_
      refine aw_isub dE_go_27 ?_
      refine an_top (show K 13 - 1 = (if on = 0 then K 13 - 1 else K 13 + 1) by rw [if_pos c10]) ?_
      refine aw_istore_n dE_go_28 (by decide) ?_
      refine aw_aload_r dE_go_29 rfl ?_
      refine an_ifnull_r (tgt := 41) dE_go_30 (by decide) ?_
      refine aw_aload_r dE_go_33 rfl ?_
      refine aw_iload_n dE_go_34 rfl ?_
      refine an_callVb cg_E_72 (c_R_hasStep _ _ _ _ _ hI hk _) dE_go_35 rfl (hC_row _ _ hk) rfl rfl rfl (Nat.le_of_ble_eq_true rfl) (Nat.le_of_ble_eq_true rfl) (fun p35 => ?_) (fun p35 => ?_)
      · refine aw_if_ne (tgt := 43) dE_go_38 (by decide) (fun _ => ?_) (fun q => absurd q (by decide))
        refine aw_aload_r dE_go_43 rfl ?_
        refine aw_iload_n dE_go_44 rfl ?_
        refine an_putE fp_E_57 dE_go_45 (by decide) ?_
        refine aw_iload_n dE_go_48 rfl ?_
        exact aw_iret rfl dE_go_49 (by unfold sp_go; rw [cif_t ⟨by rw [ek]; exact row_ne hk, by rw [ek]; exact p35⟩]; exact ⟨rfl, _, _, rfl, cinv_13 hI _⟩)
      · refine aw_if_ne (tgt := 43) dE_go_38 (by decide) (fun q => absurd q (by decide)) (fun _ => ?_)
        refine aw_iconst (v := (-1)) dE_go_41 (by decide) ?_
        exact aw_iret rfl dE_go_42 (by unfold sp_go; rw [cif_f (fun q => p35 (by rw [← ek]; exact q.2))]; exact ⟨rfl, I, A, rfl, hI⟩)
    · refine aw_aload_r dE_go_13 rfl ?_
      refine aw_get fg_E_57 dE_go_14 rfl rfl ?_
      show AN _ _ _ _ _ (.int (I 10) :: _) _
      rw [hI.2.2.2.2.2.2]
      refine aw_iconst (v := 1) dE_go_17 (by decide) ?_
      refine aw_iadd dE_go_18 ?_
      refine an_top (show K 13 + 1 = (if on = 0 then K 13 - 1 else K 13 + 1) by rw [if_neg c10]) ?_
      refine aw_goto (tgt := 28) dE_go_19 (by decide) ?_
      refine aw_istore_n dE_go_28 (by decide) ?_
      refine aw_aload_r dE_go_29 rfl ?_
      refine an_ifnull_r (tgt := 41) dE_go_30 (by decide) ?_
      refine aw_aload_r dE_go_33 rfl ?_
      refine aw_iload_n dE_go_34 rfl ?_
      refine an_callVb cg_E_72 (c_R_hasStep _ _ _ _ _ hI hk _) dE_go_35 rfl (hC_row _ _ hk) rfl rfl rfl (Nat.le_of_ble_eq_true rfl) (Nat.le_of_ble_eq_true rfl) (fun p35 => ?_) (fun p35 => ?_)
      · refine aw_if_ne (tgt := 43) dE_go_38 (by decide) (fun _ => ?_) (fun q => absurd q (by decide))
        refine aw_aload_r dE_go_43 rfl ?_
        refine aw_iload_n dE_go_44 rfl ?_
        refine an_putE fp_E_57 dE_go_45 (by decide) ?_
        refine aw_iload_n dE_go_48 rfl ?_
        exact aw_iret rfl dE_go_49 (by unfold sp_go; rw [cif_t ⟨by rw [ek]; exact row_ne hk, by rw [ek]; exact p35⟩]; exact ⟨rfl, _, _, rfl, cinv_13 hI _⟩)
      · refine aw_if_ne (tgt := 43) dE_go_38 (by decide) (fun q => absurd q (by decide)) (fun _ => ?_)
        refine aw_iconst (v := (-1)) dE_go_41 (by decide) ?_
        exact aw_iret rfl dE_go_42 (by unfold sp_go; rw [cif_f (fun q => p35 (by rw [← ek]; exact q.2))]; exact ⟨rfl, I, A, rfl, hI⟩)
  · refine an_astore_0 dE_go_8 (by decide) ?_
    refine aw_iload_n dE_go_9 rfl ?_
    refine aw_if_eq (tgt := 22) dE_go_10 (by decide) (fun c10 => ?_) (fun c10 => ?_)
    · refine aw_aload_r dE_go_22 rfl ?_
      refine aw_get fg_E_57 dE_go_23 rfl rfl ?_
      show AN _ _ _ _ _ (.int (I 10) :: _) _
      rw [hI.2.2.2.2.2.2]
      refine aw_iconst (v := 1) dE_go_26 (by decide) ?_
      refine aw_isub dE_go_27 ?_
      refine an_top (show K 13 - 1 = (if on = 0 then K 13 - 1 else K 13 + 1) by rw [if_pos c10]) ?_
      refine aw_istore_n dE_go_28 (by decide) ?_
      refine an_aload_0 dE_go_29 rfl ?_
      refine an_ifnull_0 (tgt := 41) dE_go_30 (by decide) ?_
      refine aw_iconst (v := (-1)) dE_go_41 (by decide) ?_
      exact aw_iret rfl dE_go_42 (by unfold sp_go; rw [cif_f (fun q => nk (stp_row q.2))]; exact ⟨rfl, I, A, rfl, hI⟩)
    · refine aw_aload_r dE_go_13 rfl ?_
      refine aw_get fg_E_57 dE_go_14 rfl rfl ?_
      show AN _ _ _ _ _ (.int (I 10) :: _) _
      rw [hI.2.2.2.2.2.2]
      refine aw_iconst (v := 1) dE_go_17 (by decide) ?_
      refine aw_iadd dE_go_18 ?_
      refine an_top (show K 13 + 1 = (if on = 0 then K 13 - 1 else K 13 + 1) by rw [if_neg c10]) ?_
      refine aw_goto (tgt := 28) dE_go_19 (by decide) ?_
      refine aw_istore_n dE_go_28 (by decide) ?_
      refine an_aload_0 dE_go_29 rfl ?_
      refine an_ifnull_0 (tgt := 41) dE_go_30 (by decide) ?_
      refine aw_iconst (v := (-1)) dE_go_41 (by decide) ?_
      exact aw_iret rfl dE_go_42 (by unfold sp_go; rw [cif_f (fun q => nk (stp_row q.2))]; exact ⟨rfl, I, A, rfl, hI⟩)

set_option maxHeartbeats 4000000 in
set_option maxRecDepth 100000 in
theorem c_E_compareSurely (N : Nat → Nat) (V : Nat → Nat → Int32) (K : Nat → Int32) (I : Nat → Int32) (A : Nat → Nat → Int32) (hI : CInv N V K I A) (hP : PInv N V K) {k k2 : Nat} (hk : k < 4) (hk2 : k2 < 4) (s : Int32) : AM kE_compareSurely 2 [.ref (2 + 2 * k), .ref (2 + 2 * k2), .int s] (hC I A) (RQ (sureR N V K k k2 s) (hC I A)) := by
  refine AMet.of (by decide) (by simp [Value.category]) (Nat.le_of_ble_eq_true rfl) ?_
  refine aw_aload_r dE_compareSurely_0 rfl ?_
  refine aw_iload_n dE_compareSurely_1 rfl ?_
  refine an_callVb cg_E_154 (c_R_hasValue _ _ _ _ _ hI hk _) dE_compareSurely_2 rfl (hC_row _ _ hk) rfl rfl rfl (Nat.le_of_ble_eq_true rfl) (Nat.le_of_ble_eq_true rfl) (fun p2 => ?_) (fun p2 => ?_)
  · refine aw_if_eq (tgt := 16) dE_compareSurely_5 (by decide) (fun q => absurd q (by decide)) (fun _ => ?_)
    refine aw_aload_r dE_compareSurely_8 rfl ?_
    refine aw_iload_n dE_compareSurely_9 rfl ?_
    refine an_callVb cg_E_154 (c_R_hasValue _ _ _ _ _ hI hk2 _) dE_compareSurely_10 rfl (hC_row _ _ hk2) rfl rfl rfl (Nat.le_of_ble_eq_true rfl) (Nat.le_of_ble_eq_true rfl) (fun p10 => ?_) (fun p10 => ?_)
    · refine aw_if_ne (tgt := 19) dE_compareSurely_13 (by decide) (fun _ => ?_) (fun q => absurd q (by decide))
      have hN := hI.n k hk
      have hN2 := hI.n k2 hk2
      obtain ⟨i, hi, rfl, hv⟩ := hv_i hI.n hk p2
      obtain ⟨i2, hi2, e2, hv2⟩ := hv_i hI.n hk2 p10
      have e3 := nI_inj (by omega) (by omega) e2
      subst e3
      refine aw_aload_r dE_compareSurely_19 rfl ?_
      refine an_getR hk fg_E_75 dE_compareSurely_20 rfl ?_
      refine aw_iload_n dE_compareSurely_23 rfl ?_
      refine an_ldC dE_compareSurely_24 (ac_val hk) rfl (by omega) (by decide) ?_
      rw [(hI.1 k hk).2.2.2.2 i (by omega)]
      refine aw_aload_r dE_compareSurely_25 rfl ?_
      refine an_getR hk2 fg_E_75 dE_compareSurely_26 rfl ?_
      refine aw_iload_n dE_compareSurely_29 rfl ?_
      refine an_ldC dE_compareSurely_30 (ac_val hk2) rfl (by omega) (by decide) ?_
      rw [(hI.1 k2 hk2).2.2.2.2 i (by omega)]
      refine aw_isub dE_compareSurely_31 ?_
      refine aw_istore_n dE_compareSurely_32 (by decide) ?_
      refine aw_aload_r dE_compareSurely_33 rfl ?_
      refine an_getR hk fg_E_86 dE_compareSurely_34 rfl ?_
      rw [(hI.1 k hk).2.2.1]
      refine aw_aload_r dE_compareSurely_37 rfl ?_
      refine an_getR hk2 fg_E_86 dE_compareSurely_38 rfl ?_
      rw [(hI.1 k2 hk2).2.2.1]
      refine aw_iadd dE_compareSurely_41 ?_
      refine aw_istore dE_compareSurely_42 (by decide) ?_
      refine aw_iload_n dE_compareSurely_44 rfl ?_
      refine aw_iload dE_compareSurely_45 rfl ?_
      refine aw_icmp_le (tgt := 52) dE_compareSurely_47 (by decide) (fun c47 => ?_) (fun c47 => ?_)
      · refine aw_iload_n dE_compareSurely_52 rfl ?_
        refine aw_iload dE_compareSurely_53 rfl ?_
        refine aw_ineg dE_compareSurely_55 ?_
        refine aw_icmp_ge (tgt := 63) dE_compareSurely_56 (by decide) (fun c56 => ?_) (fun c56 => ?_)
        · refine aw_iconst (v := 0) dE_compareSurely_63 (by decide) ?_
          exact aw_iret rfl dE_compareSurely_64 (by have hb := sure_neg (hP.val hk hi hv) (hP.val hk2 hi2 hv2) (hP.miss hk) (hP.miss hk2); unfold sureR sureV; rw [cif_t ⟨p2, p10⟩, rn_n (by omega)]; refine ⟨rfl, ?_⟩; rw [hb] at c56; simp only [c47, c56, if_true, if_false, ite_true, ite_false])
        · refine aw_iconst (v := (-1)) dE_compareSurely_59 (by decide) ?_
          refine aw_goto (tgt := 64) dE_compareSurely_60 (by decide) ?_
          exact aw_iret rfl dE_compareSurely_64 (by have hb := sure_neg (hP.val hk hi hv) (hP.val hk2 hi2 hv2) (hP.miss hk) (hP.miss hk2); unfold sureR sureV; rw [cif_t ⟨p2, p10⟩, rn_n (by omega)]; refine ⟨rfl, ?_⟩; rw [hb] at c56; simp only [c47, c56, if_true, if_false, ite_true, ite_false])
      · refine aw_iconst (v := 1) dE_compareSurely_50 (by decide) ?_
        exact aw_iret rfl dE_compareSurely_51 (by have hb := sure_neg (hP.val hk hi hv) (hP.val hk2 hi2 hv2) (hP.miss hk) (hP.miss hk2); unfold sureR sureV; rw [cif_t ⟨p2, p10⟩, rn_n (by omega)]; refine ⟨rfl, ?_⟩; simp only [c47, if_true, if_false, ite_true, ite_false])
    · refine aw_if_ne (tgt := 19) dE_compareSurely_13 (by decide) (fun q => absurd q (by decide)) (fun _ => ?_)
      refine aw_bipush (v := (-2)) dE_compareSurely_16 (by decide) ?_
      exact aw_iret rfl dE_compareSurely_18 (by unfold sureR; rw [cif_f (fun q => p10 q.2)]; exact ⟨rfl, rfl⟩)
  · refine aw_if_eq (tgt := 16) dE_compareSurely_5 (by decide) (fun _ => ?_) (fun q => absurd q (by decide))
    refine aw_bipush (v := (-2)) dE_compareSurely_16 (by decide) ?_
    exact aw_iret rfl dE_compareSurely_18 (by unfold sureR; rw [cif_f (fun q => p2 q.1)]; exact ⟨rfl, rfl⟩)
