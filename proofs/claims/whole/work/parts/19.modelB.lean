set_option maxHeartbeats 4000000 in
set_option maxRecDepth 100000 in
theorem c_T_adds (N : Nat → Nat) (V : Nat → Nat → Int32) (K : Nat → Int32) (J : Nat → Int32) (B : Nat → Nat → Int32) (hI : TInv N V K J B) (r v : Int32) : AM kT_adds 2 [.ref 0, .int r, .int v] (hT J B) (TR (sp_adds N V K r v)) := by
  refine AMet.of (by decide) (by simp [Value.category]) (Nat.le_of_ble_eq_true rfl) ?_
  refine aw_iload_n dT_adds_0 rfl ?_
  refine an_callSb cg_T_72 (c_T_isRow _ _) dT_adds_1 rfl rfl (Nat.le_of_ble_eq_true rfl) (Nat.le_of_ble_eq_true rfl) (fun p1 => ?_) (fun p1 => ?_)
  · refine aw_if_eq (tgt := 18) dT_adds_4 (by decide) (fun q => absurd q (by decide)) (fun _ => ?_)
    obtain ⟨k, hk, rfl⟩ := isRow_k p1
    have hN := hI.n k hk
    refine aw_aload_r dT_adds_7 rfl ?_
    refine aw_get fg_T_7 dT_adds_8 rfl rfl ?_
    refine aw_iload_n dT_adds_11 rfl ?_
    refine an_ldT dT_adds_12 at_1 rfl hk (by decide) ?_
    rw [(hI.1 k hk).2.1]
    refine aw_bipush (v := 40) dT_adds_13 (by decide) ?_
    refine aw_icmp_ne (tgt := 20) dT_adds_15 (by decide) (fun c15 => ?_) (fun c15 => ?_)
    · have hl : N k < 40 := Nat.lt_of_le_of_ne hN (fun q => c15 (by rw [q]; decide))
      refine aw_aload_r dT_adds_20 rfl ?_
      refine aw_get fg_T_13 dT_adds_21 rfl rfl ?_
      refine aw_bipush (v := 40) dT_adds_24 (by decide) ?_
      refine aw_iload_n dT_adds_26 rfl ?_
      refine aw_imul dT_adds_27 ?_
      refine aw_aload_r dT_adds_28 rfl ?_
      refine aw_get fg_T_7 dT_adds_29 rfl rfl ?_
      refine aw_iload_n dT_adds_32 rfl ?_
      refine an_ldT dT_adds_33 at_1 rfl hk (by decide) ?_
      rw [(hI.1 k hk).2.1]
      refine aw_iadd dT_adds_34 ?_
      refine aw_iload_n dT_adds_35 rfl ?_
      refine an_stT dT_adds_36 at_2 ix40 (by omega) (by decide) ?_
      refine aw_aload_r dT_adds_37 rfl ?_
      refine aw_get fg_T_7 dT_adds_38 rfl rfl ?_
      refine aw_iload_n dT_adds_41 rfl ?_
      refine aw_dup2 dT_adds_42 rfl rfl ?_
      refine an_ldT dT_adds_43 at_1 rfl hk (by decide) ?_
      rw [show va_up B 2 (upd (B 2) (40 * k + N k) v) 1 k = nI (N k) from (hI.1 k hk).2.1]
      refine aw_iconst (v := 1) dT_adds_44 (by decide) ?_
      refine aw_iadd dT_adds_45 ?_
      refine an_top (nI_1 _) ?_
      refine an_stT dT_adds_46 at_1 rfl hk (by decide) ?_
      refine aw_aload_r dT_adds_47 rfl ?_
      refine aw_get fg_T_7 dT_adds_48 rfl rfl ?_
      refine aw_iload_n dT_adds_51 rfl ?_
      refine an_ldT dT_adds_52 at_1 rfl hk (by decide) ?_
      exact aw_iret rfl dT_adds_53 (by unfold sp_adds; rw [rn_n (by omega), cif_t ⟨isRow_n hk, hl⟩]; exact ⟨congrArg (fun z => some (Value.int z)) pk_us, _, _, rfl, tinv_n (tinv_v hI hk hl v) hk (by omega)⟩)
    · refine aw_iconst (v := (-1)) dT_adds_18 (by decide) ?_
      exact aw_iret rfl dT_adds_19 (by unfold sp_adds; rw [cif_f (fun q => by rw [rn_n (by omega)] at q; have h1 := c15 ; have h2 : nI (N k) = nI 40 := h1; have := nI_inj (by omega) (by omega) h2; omega)]; exact ⟨rfl, J, B, rfl, hI⟩)
  · refine aw_if_eq (tgt := 18) dT_adds_4 (by decide) (fun _ => ?_) (fun q => absurd q (by decide))
    refine aw_iconst (v := (-1)) dT_adds_18 (by decide) ?_
    exact aw_iret rfl dT_adds_19 (by unfold sp_adds; rw [cif_f (fun q => p1 q.1)]; exact ⟨rfl, J, B, rfl, hI⟩)

set_option maxHeartbeats 4000000 in
set_option maxRecDepth 100000 in
theorem c_T_value (N : Nat → Nat) (V : Nat → Nat → Int32) (K : Nat → Int32) (J : Nat → Int32) (B : Nat → Nat → Int32) (hI : TInv N V K J B) (r v : Int32) : AM kT_value 3 [.ref 0, .int r, .int v] (hT J B) (TR (sp_value N V K r v)) := by
  refine AMet.of (by decide) (by simp [Value.category]) (Nat.le_of_ble_eq_true rfl) ?_
  refine aw_iload_n dT_value_0 rfl ?_
  refine aw_sipush (v := (-1000)) dT_value_1 (by decide) ?_
  refine aw_sipush (v := 1000) dT_value_4 (by decide) ?_
  refine an_callSb cg_T_80 (c_T_isIn _ _ _ _) dT_value_7 rfl rfl (Nat.le_of_ble_eq_true rfl) (Nat.le_of_ble_eq_true rfl) (fun p7 => ?_) (fun p7 => ?_)
  · refine aw_if_eq (tgt := 22) dT_value_10 (by decide) (fun q => absurd q (by decide)) (fun _ => ?_)
    refine aw_aload_r dT_value_13 rfl ?_
    refine aw_iload_n dT_value_14 rfl ?_
    refine aw_iload_n dT_value_15 rfl ?_
    refine an_callVx cg_T_84 (c_T_adds _ _ _ _ _ hI _ _) dT_value_16 rfl rfl rfl rfl rfl (Nat.le_of_ble_eq_true rfl) (Nat.le_of_ble_eq_true rfl) ?_
    rintro _ _ ⟨rfl, J1, B1, rfl, hI1⟩
    refine aw_goto (tgt := 23) dT_value_19 (by decide) ?_
    exact aw_iret rfl dT_value_23 (by unfold sp_value; rw [cif_t p7]; exact ⟨rfl, J1, B1, rfl, hI1⟩)
  · refine aw_if_eq (tgt := 22) dT_value_10 (by decide) (fun _ => ?_) (fun q => absurd q (by decide))
    refine aw_iconst (v := (-1)) dT_value_22 (by decide) ?_
    exact aw_iret rfl dT_value_23 (by unfold sp_value; rw [cif_f p7]; exact ⟨rfl, J, B, rfl, hI⟩)

set_option maxHeartbeats 4000000 in
set_option maxRecDepth 100000 in
theorem c_T_gap (N : Nat → Nat) (V : Nat → Nat → Int32) (K : Nat → Int32) (J : Nat → Int32) (B : Nat → Nat → Int32) (hI : TInv N V K J B) (r : Int32) : AM kT_gap 3 [.ref 0, .int r] (hT J B) (TR (sp_gap N V K r)) := by
  refine AMet.of (by decide) (by simp [Value.category]) (Nat.le_of_ble_eq_true rfl) ?_
  refine aw_aload_r dT_gap_0 rfl ?_
  refine aw_iload_n dT_gap_1 rfl ?_
  refine aw_sipush (v := (-5000)) dT_gap_2 (by decide) ?_
  refine an_callVx cg_T_84 (c_T_adds _ _ _ _ _ hI _ _) dT_gap_5 rfl rfl rfl rfl rfl (Nat.le_of_ble_eq_true rfl) (Nat.le_of_ble_eq_true rfl) ?_
  rintro _ _ ⟨rfl, J1, B1, rfl, hI1⟩
  exact aw_iret rfl dT_gap_8 ⟨rfl, J1, B1, rfl, hI1⟩

set_option maxHeartbeats 4000000 in
set_option maxRecDepth 100000 in
theorem c_T_put (N : Nat → Nat) (V : Nat → Nat → Int32) (K : Nat → Int32) (J : Nat → Int32) (B : Nat → Nat → Int32) (hI : TInv N V K J B) (r s v : Int32) : AM kT_put 3 [.ref 0, .int r, .int s, .int v] (hT J B) (TR (sp_put N V K r s v)) := by
  refine AMet.of (by decide) (by simp [Value.category]) (Nat.le_of_ble_eq_true rfl) ?_
  refine aw_aload_r dT_put_0 rfl ?_
  refine aw_iload_n dT_put_1 rfl ?_
  refine aw_iload_n dT_put_2 rfl ?_
  refine an_callVb cg_T_76 (c_T_isStep _ _ _ _ _ hI _ _) dT_put_3 rfl rfl rfl rfl rfl (Nat.le_of_ble_eq_true rfl) (Nat.le_of_ble_eq_true rfl) (fun p3 => ?_) (fun p3 => ?_)
  · refine aw_if_eq (tgt := 22) dT_put_6 (by decide) (fun q => absurd q (by decide)) (fun _ => ?_)
    refine aw_iload_n dT_put_9 rfl ?_
    refine aw_sipush (v := (-1000)) dT_put_10 (by decide) ?_
    refine aw_sipush (v := 1000) dT_put_13 (by decide) ?_
    refine an_callSb cg_T_80 (c_T_isIn _ _ _ _) dT_put_16 rfl rfl (Nat.le_of_ble_eq_true rfl) (Nat.le_of_ble_eq_true rfl) (fun p16 => ?_) (fun p16 => ?_)
    · refine aw_if_ne (tgt := 24) dT_put_19 (by decide) (fun _ => ?_) (fun q => absurd q (by decide))
      obtain ⟨k, i, hk, hi, rfl, rfl⟩ := id p3
      have hN := hI.n k hk
      refine aw_aload_r dT_put_24 rfl ?_
      refine aw_get fg_T_13 dT_put_25 rfl rfl ?_
      refine aw_bipush (v := 40) dT_put_28 (by decide) ?_
      refine aw_iload_n dT_put_30 rfl ?_
      refine aw_imul dT_put_31 ?_
      refine aw_iload_n dT_put_32 rfl ?_
      refine aw_iadd dT_put_33 ?_
      refine aw_iload_n dT_put_34 rfl ?_
      refine an_stT dT_put_35 at_2 ix40 (by omega) (by decide) ?_
      refine aw_iconst (v := 1) dT_put_36 (by decide) ?_
      exact aw_zret rfl (Or.inr rfl) dT_put_37 (by unfold sp_put; rw [cif_t ⟨p3, p16⟩, rn_n (by omega), rn_n (by omega)]; exact ⟨rfl, _, _, rfl, tinv_v hI hk (by omega) v⟩)
    · refine aw_if_ne (tgt := 24) dT_put_19 (by decide) (fun q => absurd q (by decide)) (fun _ => ?_)
      refine aw_iconst (v := 0) dT_put_22 (by decide) ?_
      exact aw_zret rfl (Or.inl rfl) dT_put_23 (by unfold sp_put; rw [cif_f (fun q => p16 q.2)]; exact ⟨rfl, J, B, rfl, hI⟩)
  · refine aw_if_eq (tgt := 22) dT_put_6 (by decide) (fun _ => ?_) (fun q => absurd q (by decide))
    refine aw_iconst (v := 0) dT_put_22 (by decide) ?_
    exact aw_zret rfl (Or.inl rfl) dT_put_23 (by unfold sp_put; rw [cif_f (fun q => p3 q.1)]; exact ⟨rfl, J, B, rfl, hI⟩)

set_option maxHeartbeats 4000000 in
set_option maxRecDepth 100000 in
theorem c_T_clear (N : Nat → Nat) (V : Nat → Nat → Int32) (K : Nat → Int32) (J : Nat → Int32) (B : Nat → Nat → Int32) (hI : TInv N V K J B) (r : Int32) : AM kT_clear 2 [.ref 0, .int r] (hT J B) (TR (sp_clear N V K r)) := by
  refine AMet.of (by decide) (by simp [Value.category]) (Nat.le_of_ble_eq_true rfl) ?_
  refine aw_iload_n dT_clear_0 rfl ?_
  refine an_callSb cg_T_72 (c_T_isRow _ _) dT_clear_1 rfl rfl (Nat.le_of_ble_eq_true rfl) (Nat.le_of_ble_eq_true rfl) (fun p1 => ?_) (fun p1 => ?_)
  · refine aw_if_ne (tgt := 9) dT_clear_4 (by decide) (fun _ => ?_) (fun q => absurd q (by decide))
    obtain ⟨k, hk, rfl⟩ := isRow_k p1
    have hN := hI.n k hk
    refine aw_aload_r dT_clear_9 rfl ?_
    refine aw_get fg_T_7 dT_clear_10 rfl rfl ?_
    refine aw_iload_n dT_clear_13 rfl ?_
    refine an_ldT dT_clear_14 at_1 rfl hk (by decide) ?_
    rw [(hI.1 k hk).2.1]
    refine aw_istore_n dT_clear_15 (by decide) ?_
    refine aw_aload_r dT_clear_16 rfl ?_
    refine aw_get fg_T_7 dT_clear_17 rfl rfl ?_
    refine aw_iload_n dT_clear_20 rfl ?_
    refine aw_iconst (v := 0) dT_clear_21 (by decide) ?_
    refine an_stT dT_clear_22 at_1 rfl hk (by decide) ?_
    refine aw_aload_r dT_clear_23 rfl ?_
    refine aw_get fg_T_26 dT_clear_24 rfl rfl ?_
    show AN _ _ _ _ _ (.int (J 5) :: _) _
    rw [hI.2.2.2.2.2.1]
    refine aw_iload_n dT_clear_27 rfl ?_
    refine aw_icmp_ne (tgt := 36) dT_clear_28 (by decide) (fun c28 => ?_) (fun c28 => ?_)
    · refine aw_iload_n dT_clear_36 rfl ?_
      exact aw_iret rfl dT_clear_37 (by unfold sp_clear; rw [cif_t p1, rn_n (by omega), if_neg c28]; exact ⟨rfl, _, _, rfl, tinv_n hI hk (by omega)⟩)
    · refine aw_aload_r dT_clear_31 rfl ?_
      refine aw_iconst (v := (-1)) dT_clear_32 (by decide) ?_
      refine an_putT fp_T_26 dT_clear_33 (by decide) ?_
      refine aw_iload_n dT_clear_36 rfl ?_
      exact aw_iret rfl dT_clear_37 (by unfold sp_clear; rw [cif_t p1, rn_n (by omega), if_pos c28]; exact ⟨rfl, _, _, rfl, tinv_12 (tinv_n hI hk (by omega)) (-1)⟩)
  · refine aw_if_ne (tgt := 9) dT_clear_4 (by decide) (fun q => absurd q (by decide)) (fun _ => ?_)
    refine aw_iconst (v := (-1)) dT_clear_7 (by decide) ?_
    exact aw_iret rfl dT_clear_8 (by unfold sp_clear; rw [cif_f p1]; exact ⟨rfl, J, B, rfl, hI⟩)

set_option maxHeartbeats 4000000 in
set_option maxRecDepth 100000 in
theorem c_T_miss (N : Nat → Nat) (V : Nat → Nat → Int32) (K : Nat → Int32) (J : Nat → Int32) (B : Nat → Nat → Int32) (hI : TInv N V K J B) (r v : Int32) : AM kT_miss 2 [.ref 0, .int r, .int v] (hT J B) (TR (sp_miss N V K r v)) := by
  refine AMet.of (by decide) (by simp [Value.category]) (Nat.le_of_ble_eq_true rfl) ?_
  refine aw_iload_n dT_miss_0 rfl ?_
  refine an_callSb cg_T_72 (c_T_isRow _ _) dT_miss_1 rfl rfl (Nat.le_of_ble_eq_true rfl) (Nat.le_of_ble_eq_true rfl) (fun p1 => ?_) (fun p1 => ?_)
  · refine aw_if_eq (tgt := 18) dT_miss_4 (by decide) (fun q => absurd q (by decide)) (fun _ => ?_)
    refine aw_iload_n dT_miss_7 rfl ?_
    refine aw_iconst (v := 0) dT_miss_8 (by decide) ?_
    refine aw_sipush (v := 200) dT_miss_9 (by decide) ?_
    refine an_callSb cg_T_80 (c_T_isIn _ _ _ _) dT_miss_12 rfl rfl (Nat.le_of_ble_eq_true rfl) (Nat.le_of_ble_eq_true rfl) (fun p12 => ?_) (fun p12 => ?_)
    · refine aw_if_ne (tgt := 20) dT_miss_15 (by decide) (fun _ => ?_) (fun q => absurd q (by decide))
      obtain ⟨k, hk, rfl⟩ := isRow_k p1
      refine aw_aload_r dT_miss_20 rfl ?_
      refine aw_get fg_T_16 dT_miss_21 rfl rfl ?_
      refine aw_iload_n dT_miss_24 rfl ?_
      refine an_ldT dT_miss_25 at_3 rfl hk (by decide) ?_
      rw [(hI.1 k hk).2.2.1]
      refine aw_istore_n dT_miss_26 (by decide) ?_
      refine aw_aload_r dT_miss_27 rfl ?_
      refine aw_get fg_T_16 dT_miss_28 rfl rfl ?_
      refine aw_iload_n dT_miss_31 rfl ?_
      refine aw_iload_n dT_miss_32 rfl ?_
      refine an_stT dT_miss_33 at_3 rfl hk (by decide) ?_
      refine aw_iload_n dT_miss_34 rfl ?_
      exact aw_iret rfl dT_miss_35 (by unfold sp_miss; rw [cif_t ⟨p1, p12⟩, rn_n (by omega)]; exact ⟨rfl, _, _, rfl, tinv_miss hI hk v⟩)
    · refine aw_if_ne (tgt := 20) dT_miss_15 (by decide) (fun q => absurd q (by decide)) (fun _ => ?_)
      refine aw_iconst (v := (-1)) dT_miss_18 (by decide) ?_
      exact aw_iret rfl dT_miss_19 (by unfold sp_miss; rw [cif_f (fun q => p12 q.2)]; exact ⟨rfl, J, B, rfl, hI⟩)
  · refine aw_if_eq (tgt := 18) dT_miss_4 (by decide) (fun _ => ?_) (fun q => absurd q (by decide))
    refine aw_iconst (v := (-1)) dT_miss_18 (by decide) ?_
    exact aw_iret rfl dT_miss_19 (by unfold sp_miss; rw [cif_f (fun q => p1 q.1)]; exact ⟨rfl, J, B, rfl, hI⟩)

set_option maxHeartbeats 4000000 in
set_option maxRecDepth 100000 in
theorem c_T_worth (N : Nat → Nat) (V : Nat → Nat → Int32) (K : Nat → Int32) (J : Nat → Int32) (B : Nat → Nat → Int32) (hI : TInv N V K J B) (r v : Int32) : AM kT_worth 2 [.ref 0, .int r, .int v] (hT J B) (TR (sp_worth N V K r v)) := by
  refine AMet.of (by decide) (by simp [Value.category]) (Nat.le_of_ble_eq_true rfl) ?_
  refine aw_iload_n dT_worth_0 rfl ?_
  refine an_callSb cg_T_72 (c_T_isRow _ _) dT_worth_1 rfl rfl (Nat.le_of_ble_eq_true rfl) (Nat.le_of_ble_eq_true rfl) (fun p1 => ?_) (fun p1 => ?_)
  · refine aw_if_eq (tgt := 18) dT_worth_4 (by decide) (fun q => absurd q (by decide)) (fun _ => ?_)
    refine aw_iload_n dT_worth_7 rfl ?_
    refine aw_iconst (v := 0) dT_worth_8 (by decide) ?_
    refine aw_sipush (v := 1000) dT_worth_9 (by decide) ?_
    refine an_callSb cg_T_80 (c_T_isIn _ _ _ _) dT_worth_12 rfl rfl (Nat.le_of_ble_eq_true rfl) (Nat.le_of_ble_eq_true rfl) (fun p12 => ?_) (fun p12 => ?_)
    · refine aw_if_ne (tgt := 20) dT_worth_15 (by decide) (fun _ => ?_) (fun q => absurd q (by decide))
      obtain ⟨k, hk, rfl⟩ := isRow_k p1
      refine aw_aload_r dT_worth_20 rfl ?_
      refine aw_get fg_T_19 dT_worth_21 rfl rfl ?_
      refine aw_iload_n dT_worth_24 rfl ?_
      refine an_ldT dT_worth_25 at_4 rfl hk (by decide) ?_
      rw [(hI.1 k hk).2.2.2.1]
      refine aw_istore_n dT_worth_26 (by decide) ?_
      refine aw_aload_r dT_worth_27 rfl ?_
      refine aw_get fg_T_19 dT_worth_28 rfl rfl ?_
      refine aw_iload_n dT_worth_31 rfl ?_
      refine aw_iload_n dT_worth_32 rfl ?_
      refine an_stT dT_worth_33 at_4 rfl hk (by decide) ?_
      refine aw_iload_n dT_worth_34 rfl ?_
      exact aw_iret rfl dT_worth_35 (by unfold sp_worth; rw [cif_t ⟨p1, p12⟩, rn_n (by omega)]; exact ⟨rfl, _, _, rfl, tinv_worth hI hk v⟩)
    · refine aw_if_ne (tgt := 20) dT_worth_15 (by decide) (fun q => absurd q (by decide)) (fun _ => ?_)
      refine aw_iconst (v := (-1)) dT_worth_18 (by decide) ?_
      exact aw_iret rfl dT_worth_19 (by unfold sp_worth; rw [cif_f (fun q => p12 q.2)]; exact ⟨rfl, J, B, rfl, hI⟩)
  · refine aw_if_eq (tgt := 18) dT_worth_4 (by decide) (fun _ => ?_) (fun q => absurd q (by decide))
    refine aw_iconst (v := (-1)) dT_worth_18 (by decide) ?_
    exact aw_iret rfl dT_worth_19 (by unfold sp_worth; rw [cif_f (fun q => p1 q.1)]; exact ⟨rfl, J, B, rfl, hI⟩)

set_option maxHeartbeats 4000000 in
set_option maxRecDepth 100000 in
theorem c_T_part (N : Nat → Nat) (V : Nat → Nat → Int32) (K : Nat → Int32) (J : Nat → Int32) (B : Nat → Nat → Int32) (hI : TInv N V K J B) (v : Int32) : AM kT_part 2 [.ref 0, .int v] (hT J B) (TR (sp_part N V K v)) := by
  refine AMet.of (by decide) (by simp [Value.category]) (Nat.le_of_ble_eq_true rfl) ?_
  refine aw_iload_n dT_part_0 rfl ?_
  refine aw_iconst (v := 0) dT_part_1 (by decide) ?_
  refine aw_sipush (v := 10000) dT_part_2 (by decide) ?_
  refine an_callSb cg_T_80 (c_T_isIn _ _ _ _) dT_part_5 rfl rfl (Nat.le_of_ble_eq_true rfl) (Nat.le_of_ble_eq_true rfl) (fun p5 => ?_) (fun p5 => ?_)
  · refine aw_if_ne (tgt := 13) dT_part_8 (by decide) (fun _ => ?_) (fun q => absurd q (by decide))
    refine aw_aload_r dT_part_13 rfl ?_
    refine aw_get fg_T_22 dT_part_14 rfl rfl ?_
    show AN _ _ _ _ _ (.int (J 4) :: _) _
    rw [hI.2.1]
    refine aw_istore_n dT_part_17 (by decide) ?_
    refine aw_aload_r dT_part_18 rfl ?_
    refine aw_iload_n dT_part_19 rfl ?_
    refine an_putT fp_T_22 dT_part_20 (by decide) ?_
    refine aw_iload_n dT_part_23 rfl ?_
    exact aw_iret rfl dT_part_24 (by unfold sp_part; rw [cif_t p5]; exact ⟨rfl, _, _, rfl, tinv_8 hI v⟩)
  · refine aw_if_ne (tgt := 13) dT_part_8 (by decide) (fun q => absurd q (by decide)) (fun _ => ?_)
    refine aw_iconst (v := (-1)) dT_part_11 (by decide) ?_
    exact aw_iret rfl dT_part_12 (by unfold sp_part; rw [cif_f p5]; exact ⟨rfl, J, B, rfl, hI⟩)

set_option maxHeartbeats 4000000 in
set_option maxRecDepth 100000 in
theorem c_T_at (N : Nat → Nat) (V : Nat → Nat → Int32) (K : Nat → Int32) (J : Nat → Int32) (B : Nat → Nat → Int32) (hI : TInv N V K J B) (r s : Int32) : AM kT_at 3 [.ref 0, .int r, .int s] (hT J B) (TR (sp_at N V K r s)) := by
  refine AMet.of (by decide) (by simp [Value.category]) (Nat.le_of_ble_eq_true rfl) ?_
  refine aw_aload_r dT_at_0 rfl ?_
  refine aw_iload_n dT_at_1 rfl ?_
  refine aw_iload_n dT_at_2 rfl ?_
  refine an_callVb cg_T_76 (c_T_isStep _ _ _ _ _ hI _ _) dT_at_3 rfl rfl rfl rfl rfl (Nat.le_of_ble_eq_true rfl) (Nat.le_of_ble_eq_true rfl) (fun p3 => ?_) (fun p3 => ?_)
  · refine aw_if_eq (tgt := 18) dT_at_6 (by decide) (fun q => absurd q (by decide)) (fun _ => ?_)
    obtain ⟨k, i, hk, hi, rfl, rfl⟩ := id p3
    have hN := hI.n k hk
    refine aw_aload_r dT_at_9 rfl ?_
    refine aw_iload_n dT_at_10 rfl ?_
    refine aw_iload_n dT_at_11 rfl ?_
    refine an_callVr cg_T_88 (c_T_valueAt _ _ _ _ _ hI hk (by omega)) dT_at_12 rfl rfl rfl rfl rfl (Nat.le_of_ble_eq_true rfl) (Nat.le_of_ble_eq_true rfl) ?_
    refine aw_goto (tgt := 21) dT_at_15 (by decide) ?_
    exact aw_iret rfl dT_at_21 (by unfold sp_at; rw [cif_t p3, rn_n (by omega), rn_n (by omega)]; exact ⟨rfl, J, B, rfl, hI⟩)
  · refine aw_if_eq (tgt := 18) dT_at_6 (by decide) (fun _ => ?_) (fun q => absurd q (by decide))
    refine aw_sipush (v := (-6000)) dT_at_18 (by decide) ?_
    exact aw_iret rfl dT_at_21 (by unfold sp_at; rw [cif_f p3]; exact ⟨rfl, J, B, rfl, hI⟩)

set_option maxHeartbeats 4000000 in
set_option maxRecDepth 100000 in
theorem c_T_ear (N : Nat → Nat) (V : Nat → Nat → Int32) (K : Nat → Int32) (J : Nat → Int32) (B : Nat → Nat → Int32) (hI : TInv N V K J B) (h l : Int32) : AM kT_ear 2 [.ref 0, .int h, .int l] (hT J B) (TR (sp_ear N V K h l)) := by
  refine AMet.of (by decide) (by simp [Value.category]) (Nat.le_of_ble_eq_true rfl) ?_
  refine aw_iload_n dT_ear_0 rfl ?_
  refine aw_iconst (v := 0) dT_ear_1 (by decide) ?_
  refine aw_bipush (v := 60) dT_ear_2 (by decide) ?_
  refine an_callSb cg_T_80 (c_T_isIn _ _ _ _) dT_ear_4 rfl rfl (Nat.le_of_ble_eq_true rfl) (Nat.le_of_ble_eq_true rfl) (fun p4 => ?_) (fun p4 => ?_)
  · refine aw_if_eq (tgt := 20) dT_ear_7 (by decide) (fun q => absurd q (by decide)) (fun _ => ?_)
    refine aw_iload_n dT_ear_10 rfl ?_
    refine aw_iconst (v := 0) dT_ear_11 (by decide) ?_
    refine aw_bipush (v := 100) dT_ear_12 (by decide) ?_
    refine an_callSb cg_T_80 (c_T_isIn _ _ _ _) dT_ear_14 rfl rfl (Nat.le_of_ble_eq_true rfl) (Nat.le_of_ble_eq_true rfl) (fun p14 => ?_) (fun p14 => ?_)
    · refine aw_if_ne (tgt := 22) dT_ear_17 (by decide) (fun _ => ?_) (fun q => absurd q (by decide))
      refine aw_aload_r dT_ear_22 rfl ?_
      refine aw_iload_n dT_ear_23 rfl ?_
      refine an_putT fp_T_50 dT_ear_24 (by decide) ?_
      refine aw_aload_r dT_ear_27 rfl ?_
      refine aw_iload_n dT_ear_28 rfl ?_
      refine an_putT fp_T_53 dT_ear_29 (by decide) ?_
      refine aw_iconst (v := 1) dT_ear_32 (by decide) ?_
      exact aw_zret rfl (Or.inr rfl) dT_ear_33 (by unfold sp_ear; rw [cif_t ⟨p4, p14⟩]; exact ⟨rfl, _, _, rfl, tinv_11 (tinv_10 hI h) l⟩)
    · refine aw_if_ne (tgt := 22) dT_ear_17 (by decide) (fun q => absurd q (by decide)) (fun _ => ?_)
      refine aw_iconst (v := 0) dT_ear_20 (by decide) ?_
      exact aw_zret rfl (Or.inl rfl) dT_ear_21 (by unfold sp_ear; rw [cif_f (fun q => p14 q.2)]; exact ⟨rfl, J, B, rfl, hI⟩)
  · refine aw_if_eq (tgt := 20) dT_ear_7 (by decide) (fun _ => ?_) (fun q => absurd q (by decide))
    refine aw_iconst (v := 0) dT_ear_20 (by decide) ?_
    exact aw_zret rfl (Or.inl rfl) dT_ear_21 (by unfold sp_ear; rw [cif_f (fun q => p4 q.1)]; exact ⟨rfl, J, B, rfl, hI⟩)

set_option maxHeartbeats 4000000 in
set_option maxRecDepth 100000 in
theorem c_T_walk (N : Nat → Nat) (V : Nat → Nat → Int32) (K : Nat → Int32) (J : Nat → Int32) (B : Nat → Nat → Int32) (hI : TInv N V K J B) (r s : Int32) : AM kT_walk 3 [.ref 0, .int r, .int s] (hT J B) (TR (sp_walk N V K r s)) := by
  refine AMet.of (by decide) (by simp [Value.category]) (Nat.le_of_ble_eq_true rfl) ?_
  refine aw_aload_r dT_walk_0 rfl ?_
  refine aw_iload_n dT_walk_1 rfl ?_
  refine aw_iload_n dT_walk_2 rfl ?_
  refine an_callVb cg_T_76 (c_T_isStep _ _ _ _ _ hI _ _) dT_walk_3 rfl rfl rfl rfl rfl (Nat.le_of_ble_eq_true rfl) (Nat.le_of_ble_eq_true rfl) (fun p3 => ?_) (fun p3 => ?_)
  · refine aw_if_ne (tgt := 11) dT_walk_6 (by decide) (fun _ => ?_) (fun q => absurd q (by decide))
    refine aw_aload_r dT_walk_11 rfl ?_
    refine aw_iload_n dT_walk_12 rfl ?_
    refine an_putT fp_T_26 dT_walk_13 (by decide) ?_
    refine aw_aload_r dT_walk_16 rfl ?_
    refine aw_iload_n dT_walk_17 rfl ?_
    refine an_putT fp_T_163 dT_walk_18 (by decide) ?_
    refine aw_iconst (v := 1) dT_walk_21 (by decide) ?_
    exact aw_zret rfl (Or.inr rfl) dT_walk_22 (by unfold sp_walk; rw [cif_t p3]; exact ⟨rfl, _, _, rfl, tinv_13 (tinv_12 hI r) s⟩)
  · refine aw_if_ne (tgt := 11) dT_walk_6 (by decide) (fun q => absurd q (by decide)) (fun _ => ?_)
    refine aw_iconst (v := 0) dT_walk_9 (by decide) ?_
    exact aw_zret rfl (Or.inl rfl) dT_walk_10 (by unfold sp_walk; rw [cif_f p3]; exact ⟨rfl, J, B, rfl, hI⟩)

set_option maxHeartbeats 4000000 in
set_option maxRecDepth 100000 in
theorem c_T_where (N : Nat → Nat) (V : Nat → Nat → Int32) (K : Nat → Int32) (J : Nat → Int32) (B : Nat → Nat → Int32) (hI : TInv N V K J B) (w : Int32) : AM kT_where 1 [.ref 0, .int w] (hT J B) (TR (sp_where N V K w)) := by
  refine AMet.of (by decide) (by simp [Value.category]) (Nat.le_of_ble_eq_true rfl) ?_
  refine aw_aload_r dT_where_0 rfl ?_
  refine aw_get fg_T_26 dT_where_1 rfl rfl ?_
  show AN _ _ _ _ _ (.int (J 5) :: _) _
  rw [hI.2.2.2.2.2.1]
  refine aw_iconst (v := (-1)) dT_where_4 (by decide) ?_
  refine aw_icmp_ne (tgt := 12) dT_where_5 (by decide) (fun c5 => ?_) (fun c5 => ?_)
  · refine aw_iload_n dT_where_12 rfl ?_
    refine aw_if_ne (tgt := 23) dT_where_13 (by decide) (fun c13 => ?_) (fun c13 => ?_)
    · refine aw_iload_n dT_where_23 rfl ?_
      refine aw_iconst (v := 1) dT_where_24 (by decide) ?_
      refine aw_icmp_ne (tgt := 35) dT_where_25 (by decide) (fun c25 => ?_) (fun c25 => ?_)
      · refine aw_iconst (v := (-1)) dT_where_35 (by decide) ?_
        exact aw_iret rfl dT_where_36 ⟨by show _ = some (Value.int (if _ then _ else _)); simp [c5, c13, c25], J, B, rfl, hI⟩
      · refine aw_aload_r dT_where_28 rfl ?_
        refine aw_get fg_T_163 dT_where_29 rfl rfl ?_
        show AN _ _ _ _ _ (.int (J 6) :: _) _
        rw [hI.2.2.2.2.2.2]
        refine aw_goto (tgt := 36) dT_where_32 (by decide) ?_
        exact aw_iret rfl dT_where_36 ⟨by show _ = some (Value.int (if _ then _ else _)); simp [c5, c13, c25], J, B, rfl, hI⟩
    · refine aw_aload_r dT_where_16 rfl ?_
      refine aw_get fg_T_26 dT_where_17 rfl rfl ?_
      show AN _ _ _ _ _ (.int (J 5) :: _) _
      rw [hI.2.2.2.2.2.1]
      refine aw_goto (tgt := 36) dT_where_20 (by decide) ?_
      exact aw_iret rfl dT_where_36 ⟨by show _ = some (Value.int (if _ then _ else _)); simp [c5, c13], J, B, rfl, hI⟩
  · refine aw_iconst (v := (-1)) dT_where_8 (by decide) ?_
    refine aw_goto (tgt := 36) dT_where_9 (by decide) ?_
    exact aw_iret rfl dT_where_36 ⟨by show _ = some (Value.int (if _ then _ else _)); simp [c5], J, B, rfl, hI⟩

set_option maxHeartbeats 4000000 in
set_option maxRecDepth 100000 in
theorem c_T_go (N : Nat → Nat) (V : Nat → Nat → Int32) (K : Nat → Int32) (J : Nat → Int32) (B : Nat → Nat → Int32) (hI : TInv N V K J B) (on : Int32) : AM kT_go 3 [.ref 0, .int on] (hT J B) (TR (sp_go N V K on)) := by
  refine AMet.of (by decide) (by simp [Value.category]) (Nat.le_of_ble_eq_true rfl) ?_
  refine aw_aload_r dT_go_0 rfl ?_
  refine aw_get fg_T_163 dT_go_1 rfl rfl ?_
  show AN _ _ _ _ _ (.int (J 6) :: _) _
  rw [hI.2.2.2.2.2.2]
  refine aw_iload_n dT_go_4 rfl ?_
  refine aw_if_eq (tgt := 12) dT_go_5 (by decide) (fun c5 => ?_) (fun c5 => ?_)
  · refine aw_iconst (v := (-1)) dT_go_12 (by decide) ?_
    refine aw_iadd dT_go_13 ?_
    refine an_top (show K 13 + (-1) = (if on = 0 then K 13 - 1 else K 13 + 1) by rw [if_pos c5]; exact (Int32.sub_eq_add_neg _ _).symm) ?_
    refine aw_istore_n dT_go_14 (by decide) ?_
    refine aw_aload_r dT_go_15 rfl ?_
    refine aw_get fg_T_26 dT_go_16 rfl rfl ?_
    show AN _ _ _ _ _ (.int (J 5) :: _) _
    rw [hI.2.2.2.2.2.1]
    refine aw_iconst (v := (-1)) dT_go_19 (by decide) ?_
    refine aw_icmp_eq (tgt := 35) dT_go_20 (by decide) (fun c20 => ?_) (fun c20 => ?_)
    · refine aw_iconst (v := (-1)) dT_go_35 (by decide) ?_
      exact aw_iret rfl dT_go_36 (by unfold sp_go; rw [cif_f (fun q => q.1 c20)]; exact ⟨rfl, J, B, rfl, hI⟩)
    · refine aw_aload_r dT_go_23 rfl ?_
      refine aw_aload_r dT_go_24 rfl ?_
      refine aw_get fg_T_26 dT_go_25 rfl rfl ?_
      show AN _ _ _ _ _ (.int (J 5) :: _) _
      rw [hI.2.2.2.2.2.1]
      refine aw_iload_n dT_go_28 rfl ?_
      refine an_callVb cg_T_76 (c_T_isStep _ _ _ _ _ hI _ _) dT_go_29 rfl rfl rfl rfl rfl (Nat.le_of_ble_eq_true rfl) (Nat.le_of_ble_eq_true rfl) (fun p29 => ?_) (fun p29 => ?_)
      · refine aw_if_ne (tgt := 37) dT_go_32 (by decide) (fun _ => ?_) (fun q => absurd q (by decide))
        refine aw_aload_r dT_go_37 rfl ?_
        refine aw_iload_n dT_go_38 rfl ?_
        refine an_putT fp_T_163 dT_go_39 (by decide) ?_
        refine aw_iload_n dT_go_42 rfl ?_
        exact aw_iret rfl dT_go_43 (by unfold sp_go; rw [cif_t ⟨c20, p29⟩]; exact ⟨rfl, _, _, rfl, tinv_13 hI _⟩)
      · refine aw_if_ne (tgt := 37) dT_go_32 (by decide) (fun q => absurd q (by decide)) (fun _ => ?_)
        refine aw_iconst (v := (-1)) dT_go_35 (by decide) ?_
        exact aw_iret rfl dT_go_36 (by unfold sp_go; rw [cif_f (fun q => p29 q.2)]; exact ⟨rfl, J, B, rfl, hI⟩)
  · refine aw_iconst (v := 1) dT_go_8 (by decide) ?_
    refine aw_goto (tgt := 13) dT_go_9 (by decide) ?_
    refine aw_iadd dT_go_13 ?_
    refine an_top (show K 13 + 1 = (if on = 0 then K 13 - 1 else K 13 + 1) by rw [if_neg c5]) ?_
    refine aw_istore_n dT_go_14 (by decide) ?_
    refine aw_aload_r dT_go_15 rfl ?_
    refine aw_get fg_T_26 dT_go_16 rfl rfl ?_
    show AN _ _ _ _ _ (.int (J 5) :: _) _
    rw [hI.2.2.2.2.2.1]
    refine aw_iconst (v := (-1)) dT_go_19 (by decide) ?_
    refine aw_icmp_eq (tgt := 35) dT_go_20 (by decide) (fun c20 => ?_) (fun c20 => ?_)
    · refine aw_iconst (v := (-1)) dT_go_35 (by decide) ?_
      exact aw_iret rfl dT_go_36 (by unfold sp_go; rw [cif_f (fun q => q.1 c20)]; exact ⟨rfl, J, B, rfl, hI⟩)
    · refine aw_aload_r dT_go_23 rfl ?_
      refine aw_aload_r dT_go_24 rfl ?_
      refine aw_get fg_T_26 dT_go_25 rfl rfl ?_
      show AN _ _ _ _ _ (.int (J 5) :: _) _
      rw [hI.2.2.2.2.2.1]
      refine aw_iload_n dT_go_28 rfl ?_
      refine an_callVb cg_T_76 (c_T_isStep _ _ _ _ _ hI _ _) dT_go_29 rfl rfl rfl rfl rfl (Nat.le_of_ble_eq_true rfl) (Nat.le_of_ble_eq_true rfl) (fun p29 => ?_) (fun p29 => ?_)
      · refine aw_if_ne (tgt := 37) dT_go_32 (by decide) (fun _ => ?_) (fun q => absurd q (by decide))
        refine aw_aload_r dT_go_37 rfl ?_
        refine aw_iload_n dT_go_38 rfl ?_
        refine an_putT fp_T_163 dT_go_39 (by decide) ?_
        refine aw_iload_n dT_go_42 rfl ?_
        exact aw_iret rfl dT_go_43 (by unfold sp_go; rw [cif_t ⟨c20, p29⟩]; exact ⟨rfl, _, _, rfl, tinv_13 hI _⟩)
      · refine aw_if_ne (tgt := 37) dT_go_32 (by decide) (fun q => absurd q (by decide)) (fun _ => ?_)
        refine aw_iconst (v := (-1)) dT_go_35 (by decide) ?_
        exact aw_iret rfl dT_go_36 (by unfold sp_go; rw [cif_f (fun q => p29 q.2)]; exact ⟨rfl, J, B, rfl, hI⟩)

set_option maxHeartbeats 4000000 in
set_option maxRecDepth 100000 in
theorem c_T_sure (N : Nat → Nat) (V : Nat → Nat → Int32) (K : Nat → Int32) (J : Nat → Int32) (B : Nat → Nat → Int32) (hI : TInv N V K J B) (a b s : Int32) : AM kT_sure 4 [.ref 0, .int a, .int b, .int s] (hT J B) (RQ (sureE N V K a b s) (hT J B)) := by
  refine AMet.of (by decide) (by simp [Value.category]) (Nat.le_of_ble_eq_true rfl) ?_
  refine aw_iload_n dT_sure_0 rfl ?_
  refine an_callSb cg_T_72 (c_T_isRow _ _) dT_sure_1 rfl rfl (Nat.le_of_ble_eq_true rfl) (Nat.le_of_ble_eq_true rfl) (fun p1 => ?_) (fun p1 => ?_)
  · refine aw_if_eq (tgt := 37) dT_sure_4 (by decide) (fun q => absurd q (by decide)) (fun _ => ?_)
    refine aw_iload_n dT_sure_7 rfl ?_
    refine an_callSb cg_T_72 (c_T_isRow _ _) dT_sure_8 rfl rfl (Nat.le_of_ble_eq_true rfl) (Nat.le_of_ble_eq_true rfl) (fun p8 => ?_) (fun p8 => ?_)
    · refine aw_if_eq (tgt := 37) dT_sure_11 (by decide) (fun q => absurd q (by decide)) (fun _ => ?_)
      refine aw_iload_n dT_sure_14 rfl ?_
      refine aw_iload_n dT_sure_15 rfl ?_
      refine aw_icmp_eq (tgt := 37) dT_sure_16 (by decide) (fun c16 => ?_) (fun c16 => ?_)
      · refine aw_bipush (v := (-2)) dT_sure_37 (by decide) ?_
        exact aw_iret rfl dT_sure_39 (by unfold sureE; rw [cif_f (fun q => q.2.2.1 c16)]; exact ⟨rfl, rfl⟩)
      · refine aw_aload_r dT_sure_19 rfl ?_
        refine aw_iload_n dT_sure_20 rfl ?_
        refine aw_iload_n dT_sure_21 rfl ?_
        refine an_callVb cg_T_91 (c_T_hasValue _ _ _ _ _ hI _ _) dT_sure_22 rfl rfl rfl rfl rfl (Nat.le_of_ble_eq_true rfl) (Nat.le_of_ble_eq_true rfl) (fun p22 => ?_) (fun p22 => ?_)
        · refine aw_if_eq (tgt := 37) dT_sure_25 (by decide) (fun q => absurd q (by decide)) (fun _ => ?_)
          refine aw_aload_r dT_sure_28 rfl ?_
          refine aw_iload_n dT_sure_29 rfl ?_
          refine aw_iload_n dT_sure_30 rfl ?_
          refine an_callVb cg_T_91 (c_T_hasValue _ _ _ _ _ hI _ _) dT_sure_31 rfl rfl rfl rfl rfl (Nat.le_of_ble_eq_true rfl) (Nat.le_of_ble_eq_true rfl) (fun p31 => ?_) (fun p31 => ?_)
          · refine aw_if_ne (tgt := 40) dT_sure_34 (by decide) (fun _ => ?_) (fun q => absurd q (by decide))
            obtain ⟨k, i, hk, hi, rfl, rfl, hv⟩ := id p22
            obtain ⟨k2, i2, hk2, hi2, rfl, e2, hv2⟩ := id p31
            have hN := hI.n k hk
            have hN2 := hI.n k2 hk2
            have e3 := nI_inj (by omega) (by omega) e2
            subst e3
            refine aw_aload_r dT_sure_40 rfl ?_
            refine aw_iload_n dT_sure_41 rfl ?_
            refine aw_iload_n dT_sure_42 rfl ?_
            refine an_callVr cg_T_88 (c_T_valueAt _ _ _ _ _ hI hk (by omega)) dT_sure_43 rfl rfl rfl rfl rfl (Nat.le_of_ble_eq_true rfl) (Nat.le_of_ble_eq_true rfl) ?_
            refine aw_aload_r dT_sure_46 rfl ?_
            refine aw_iload_n dT_sure_47 rfl ?_
            refine aw_iload_n dT_sure_48 rfl ?_
            refine an_callVr cg_T_88 (c_T_valueAt _ _ _ _ _ hI hk2 (by omega)) dT_sure_49 rfl rfl rfl rfl rfl (Nat.le_of_ble_eq_true rfl) (Nat.le_of_ble_eq_true rfl) ?_
            refine aw_isub dT_sure_52 ?_
            refine aw_istore dT_sure_53 (by decide) ?_
            refine aw_aload_r dT_sure_55 rfl ?_
            refine aw_get fg_T_16 dT_sure_56 rfl rfl ?_
            refine aw_iload_n dT_sure_59 rfl ?_
            refine an_ldT dT_sure_60 at_3 rfl hk (by decide) ?_
            rw [(hI.1 k hk).2.2.1]
            refine aw_aload_r dT_sure_61 rfl ?_
            refine aw_get fg_T_16 dT_sure_62 rfl rfl ?_
            refine aw_iload_n dT_sure_65 rfl ?_
            refine an_ldT dT_sure_66 at_3 rfl hk2 (by decide) ?_
            rw [(hI.1 k2 hk2).2.2.1]
            refine aw_iadd dT_sure_67 ?_
            refine aw_istore dT_sure_68 (by decide) ?_
            refine aw_iload dT_sure_70 rfl ?_
            refine aw_iload dT_sure_72 rfl ?_
            refine aw_icmp_le (tgt := 81) dT_sure_74 (by decide) (fun c74 => ?_) (fun c74 => ?_)
            · refine aw_iload dT_sure_81 rfl ?_
              refine aw_ineg dT_sure_83 ?_
              refine aw_iload dT_sure_84 rfl ?_
              refine aw_icmp_le (tgt := 93) dT_sure_86 (by decide) (fun c86 => ?_) (fun c86 => ?_)
              · refine aw_iconst (v := 0) dT_sure_93 (by decide) ?_
                exact aw_iret rfl dT_sure_94 (by unfold sureE sureV; rw [cif_t ⟨p1, p8, c16, p22, p31⟩, rn_n (by omega), rn_n (by omega), rn_n (by omega)]; refine ⟨rfl, ?_⟩; simp only [c74, c86, if_true, if_false, ite_true, ite_false])
              · refine aw_iconst (v := (-1)) dT_sure_89 (by decide) ?_
                refine aw_goto (tgt := 94) dT_sure_90 (by decide) ?_
                exact aw_iret rfl dT_sure_94 (by unfold sureE sureV; rw [cif_t ⟨p1, p8, c16, p22, p31⟩, rn_n (by omega), rn_n (by omega), rn_n (by omega)]; refine ⟨rfl, ?_⟩; simp only [c74, c86, if_true, if_false, ite_true, ite_false])
            · refine aw_iconst (v := 1) dT_sure_77 (by decide) ?_
              refine aw_goto (tgt := 94) dT_sure_78 (by decide) ?_
              exact aw_iret rfl dT_sure_94 (by unfold sureE sureV; rw [cif_t ⟨p1, p8, c16, p22, p31⟩, rn_n (by omega), rn_n (by omega), rn_n (by omega)]; refine ⟨rfl, ?_⟩; simp only [c74, if_true, if_false, ite_true, ite_false])
          · refine aw_if_ne (tgt := 40) dT_sure_34 (by decide) (fun q => absurd q (by decide)) (fun _ => ?_)
            refine aw_bipush (v := (-2)) dT_sure_37 (by decide) ?_
            exact aw_iret rfl dT_sure_39 (by unfold sureE; rw [cif_f (fun q => p31 q.2.2.2.2)]; exact ⟨rfl, rfl⟩)
        · refine aw_if_eq (tgt := 37) dT_sure_25 (by decide) (fun _ => ?_) (fun q => absurd q (by decide))
          refine aw_bipush (v := (-2)) dT_sure_37 (by decide) ?_
          exact aw_iret rfl dT_sure_39 (by unfold sureE; rw [cif_f (fun q => p22 q.2.2.2.1)]; exact ⟨rfl, rfl⟩)
    · refine aw_if_eq (tgt := 37) dT_sure_11 (by decide) (fun _ => ?_) (fun q => absurd q (by decide))
      refine aw_bipush (v := (-2)) dT_sure_37 (by decide) ?_
      exact aw_iret rfl dT_sure_39 (by unfold sureE; rw [cif_f (fun q => p8 q.2.1)]; exact ⟨rfl, rfl⟩)
  · refine aw_if_eq (tgt := 37) dT_sure_4 (by decide) (fun _ => ?_) (fun q => absurd q (by decide))
    refine aw_bipush (v := (-2)) dT_sure_37 (by decide) ?_
    exact aw_iret rfl dT_sure_39 (by unfold sureE; rw [cif_f (fun q => p1 q.1)]; exact ⟨rfl, rfl⟩)
