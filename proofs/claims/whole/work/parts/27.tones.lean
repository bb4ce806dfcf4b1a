set_option maxHeartbeats 4000000 in
set_option maxRecDepth 100000 in
theorem c_E_scale (N : Nat → Nat) (V : Nat → Nat → Int32) (K : Nat → Int32) (I : Nat → Int32) (A : Nat → Nat → Int32) (hI : CInv N V K I A) (hP : PInv N V K) (d ap : Int32) : AM kE_scale 4 [.ref 0, .int d, .int ap] (hC I A) (CR (sp_scale N V K d ap)) := by
  refine AMet.of (by decide) (by simp [Value.category]) (Nat.le_of_ble_eq_true rfl) ?_
  refine aw_iload_n dE_scale_0 rfl ?_
  refine aw_iconst (v := 1) dE_scale_1 (by decide) ?_
  refine aw_sipush (v := 2000) dE_scale_2 (by decide) ?_
  refine an_callSb cg_E_82 (c_E_within _ _ _ _) dE_scale_5 rfl rfl (Nat.le_of_ble_eq_true rfl) (Nat.le_of_ble_eq_true rfl) (fun p5 => ?_) (fun p5 => ?_)
  · refine aw_if_eq (tgt := 21) dE_scale_8 (by decide) (fun q => absurd q (by decide)) (fun _ => ?_)
    refine aw_iload_n dE_scale_11 rfl ?_
    refine aw_iconst (v := 1) dE_scale_12 (by decide) ?_
    refine aw_bipush (v := 20) dE_scale_13 (by decide) ?_
    refine an_callSb cg_E_82 (c_E_within _ _ _ _) dE_scale_15 rfl rfl (Nat.le_of_ble_eq_true rfl) (Nat.le_of_ble_eq_true rfl) (fun p15 => ?_) (fun p15 => ?_)
    · refine aw_if_ne (tgt := 23) dE_scale_18 (by decide) (fun _ => ?_) (fun q => absurd q (by decide))
      refine aw_iload_n dE_scale_23 rfl ?_
      refine aw_iload_n dE_scale_24 rfl ?_
      refine aw_idiv dE_scale_25 (sc_nz p15) ?_
      refine aw_istore_n dE_scale_26 (by decide) ?_
      refine aw_aload_r dE_scale_27 rfl ?_
      refine an_callVr cg_E_134 (c_E_lowestValue _ _ _ _ _ hI) dE_scale_28 rfl rfl rfl rfl rfl (Nat.le_of_ble_eq_true rfl) (Nat.le_of_ble_eq_true rfl) ?_
      refine aw_istore dE_scale_31 (by decide) ?_
      refine aw_aload_r dE_scale_33 rfl ?_
      refine an_callVr cg_E_138 (c_E_highestValue _ _ _ _ _ hI) dE_scale_34 rfl rfl rfl rfl rfl (Nat.le_of_ble_eq_true rfl) (Nat.le_of_ble_eq_true rfl) ?_
      refine aw_istore dE_scale_37 (by decide) ?_
      refine aw_iload dE_scale_39 rfl ?_
      refine aw_iload dE_scale_41 rfl ?_
      refine aw_icmp_gt (tgt := 65) dE_scale_43 (by decide) (fun c43 => ?_) (fun c43 => ?_)
      · refine aw_bipush (v := (-2)) dE_scale_65 (by decide) ?_
        exact aw_iret rfl dE_scale_67 (by unfold sp_scale; rw [cif_t ⟨p5, p15⟩, cif_f (fun q => any_iff.mp q.1 c43)]; exact ⟨rfl, I, A, rfl, hI⟩)
      · refine aw_iload_n dE_scale_46 rfl ?_
        refine aw_iconst (v := 1) dE_scale_47 (by decide) ?_
        refine aw_icmp_lt (tgt := 65) dE_scale_48 (by decide) (fun c48 => ?_) (fun c48 => ?_)
        · refine aw_bipush (v := (-2)) dE_scale_65 (by decide) ?_
          exact aw_iret rfl dE_scale_67 (by unfold sp_scale; rw [cif_t ⟨p5, p15⟩, cif_f (fun q => q.2.1 ((sc_lt p5 p15).mp c48))]; exact ⟨rfl, I, A, rfl, hI⟩)
        · refine aw_iload dE_scale_51 rfl ?_
          refine aw_iload dE_scale_53 rfl ?_
          refine aw_isub dE_scale_55 ?_
          refine aw_iload_n dE_scale_56 rfl ?_
          refine aw_idiv dE_scale_57 (fun q => c48 ((sc_lt p5 p15).mpr q)) ?_
          refine aw_iconst (v := 1) dE_scale_58 (by decide) ?_
          refine aw_iadd dE_scale_59 ?_
          refine aw_bipush (v := 60) dE_scale_60 (by decide) ?_
          refine aw_icmp_le (tgt := 68) dE_scale_62 (by decide) (fun c62 => ?_) (fun c62 => ?_)
          · refine aw_aload_r dE_scale_68 rfl ?_
            refine aw_iload_n dE_scale_69 rfl ?_
            refine an_putE fp_E_45 dE_scale_70 (by decide) ?_
            refine aw_iload_n dE_scale_73 rfl ?_
            exact aw_iret rfl dE_scale_74 (by unfold sp_scale; rw [cif_t ⟨p5, p15⟩, cif_t ⟨any_iff.mpr c43, fun q => c48 ((sc_lt p5 p15).mpr q), c62⟩]; exact ⟨rfl, _, _, rfl, cinv_9 hI _⟩)
          · refine aw_bipush (v := (-2)) dE_scale_65 (by decide) ?_
            exact aw_iret rfl dE_scale_67 (by unfold sp_scale; rw [cif_t ⟨p5, p15⟩, cif_f (fun q => c62 q.2.2)]; exact ⟨rfl, I, A, rfl, hI⟩)
    · refine aw_if_ne (tgt := 23) dE_scale_18 (by decide) (fun q => absurd q (by decide)) (fun _ => ?_)
      refine aw_iconst (v := (-1)) dE_scale_21 (by decide) ?_
      exact aw_iret rfl dE_scale_22 (by unfold sp_scale; rw [cif_f (fun q => p15 q.2)]; exact ⟨rfl, I, A, rfl, hI⟩)
  · refine aw_if_eq (tgt := 21) dE_scale_8 (by decide) (fun _ => ?_) (fun q => absurd q (by decide))
    refine aw_iconst (v := (-1)) dE_scale_21 (by decide) ?_
    exact aw_iret rfl dE_scale_22 (by unfold sp_scale; rw [cif_f (fun q => p5 q.1)]; exact ⟨rfl, I, A, rfl, hI⟩)

set_option maxHeartbeats 4000000 in
set_option maxRecDepth 100000 in
theorem c_E_heightAbove (N : Nat → Nat) (V : Nat → Nat → Int32) (K : Nat → Int32) (I : Nat → Int32) (A : Nat → Nat → Int32) (hI : CInv N V K I A) (hP : PInv N V K) {k : Nat} (hk : k < 4) (s : Int32) : AM kE_heightAbove 2 [.ref 0, .int (lowA N V 4), .ref (2 + 2 * k), .int s] (hC I A) (RQ (hgtE N V K (nI k) s) (hC I A)) := by
  refine AMet.of (by decide) (by simp [Value.category]) (Nat.le_of_ble_eq_true rfl) ?_
  refine aw_aload_r dE_heightAbove_0 rfl ?_
  refine aw_get fg_E_45 dE_heightAbove_1 rfl rfl ?_
  show AN _ _ _ _ _ (.int (I 6) :: _) _
  rw [hI.2.2.1]
  refine aw_iconst (v := 1) dE_heightAbove_4 (by decide) ?_
  refine aw_icmp_lt (tgt := 16) dE_heightAbove_5 (by decide) (fun c5 => ?_) (fun c5 => ?_)
  · refine aw_iconst (v := (-1)) dE_heightAbove_16 (by decide) ?_
    refine aw_goto (tgt := 33) dE_heightAbove_17 (by decide) ?_
    exact aw_iret rfl dE_heightAbove_33 (by unfold hgtE; rw [cif_f (fun q => q.1 ((k9_lt hP).mp c5))]; exact ⟨rfl, rfl⟩)
  · refine aw_aload_r dE_heightAbove_8 rfl ?_
    refine aw_iload_n dE_heightAbove_9 rfl ?_
    refine an_callVb cg_E_154 (c_R_hasValue _ _ _ _ _ hI hk _) dE_heightAbove_10 rfl (hC_row _ _ hk) rfl rfl rfl (Nat.le_of_ble_eq_true rfl) (Nat.le_of_ble_eq_true rfl) (fun p10 => ?_) (fun p10 => ?_)
    · refine aw_if_ne (tgt := 20) dE_heightAbove_13 (by decide) (fun _ => ?_) (fun q => absurd q (by decide))
      have hN := hI.n k hk
      obtain ⟨i, hi, rfl, hv⟩ := hv_i hI.n hk p10
      refine aw_aload_r dE_heightAbove_20 rfl ?_
      refine an_getR hk fg_E_75 dE_heightAbove_21 rfl ?_
      refine aw_iload_n dE_heightAbove_24 rfl ?_
      refine an_ldC dE_heightAbove_25 (ac_val hk) rfl (by omega) (by decide) ?_
      rw [(hI.1 k hk).2.2.2.2 i (by omega)]
      refine aw_iload_n dE_heightAbove_26 rfl ?_
      refine aw_isub dE_heightAbove_27 ?_
      refine aw_aload_r dE_heightAbove_28 rfl ?_
      refine aw_get fg_E_45 dE_heightAbove_29 rfl rfl ?_
      show AN _ _ _ _ _ (.int (I 6) :: _) _
      rw [hI.2.2.1]
      refine aw_idiv dE_heightAbove_32 (fun q => c5 ((k9_lt hP).mpr q)) ?_
      exact aw_iret rfl dE_heightAbove_33 (by unfold hgtE; rw [cif_t ⟨fun q => c5 ((k9_lt hP).mpr q), p10⟩, rn_n (by omega), rn_n (by omega)]; exact ⟨rfl, rfl⟩)
    · refine aw_if_ne (tgt := 20) dE_heightAbove_13 (by decide) (fun q => absurd q (by decide)) (fun _ => ?_)
      refine aw_iconst (v := (-1)) dE_heightAbove_16 (by decide) ?_
      refine aw_goto (tgt := 33) dE_heightAbove_17 (by decide) ?_
      exact aw_iret rfl dE_heightAbove_33 (by unfold hgtE; rw [cif_f (fun q => p10 q.2)]; exact ⟨rfl, rfl⟩)

set_option maxHeartbeats 4000000 in
set_option maxRecDepth 100000 in
theorem c_E_height (N : Nat → Nat) (V : Nat → Nat → Int32) (K : Nat → Int32) (I : Nat → Int32) (A : Nat → Nat → Int32) (hI : CInv N V K I A) (hP : PInv N V K) (r s : Int32) : AM kE_height 4 [.ref 0, .int r, .int s] (hC I A) (CR (sp_height N V K r s)) := by
  refine AMet.of (by decide) (by simp [Value.category]) (Nat.le_of_ble_eq_true rfl) ?_
  refine aw_aload_r dE_height_0 rfl ?_
  refine aw_iload_n dE_height_1 rfl ?_
  refine an_callVx cg_E_60 (c_E_rowOf _ _ _) dE_height_2 rfl rfl rfl rfl rfl (Nat.le_of_ble_eq_true rfl) (Nat.le_of_ble_eq_true rfl) ?_
  rintro _ _ ⟨rfl, ⟨k, hk, ek, rfl⟩ | ⟨nk, rfl⟩⟩
  · refine an_astore_r dE_height_5 (by decide) ?_
    refine aw_aload_r dE_height_6 rfl ?_
    refine an_ifnonnull_r (tgt := 14) dE_height_7 (by decide) ?_
    subst ek
    refine aw_aload_r dE_height_14 rfl ?_
    refine aw_aload_r dE_height_15 rfl ?_
    refine an_callVr cg_E_134 (c_E_lowestValue _ _ _ _ _ hI) dE_height_16 rfl rfl rfl rfl rfl (Nat.le_of_ble_eq_true rfl) (Nat.le_of_ble_eq_true rfl) ?_
    refine aw_aload_r dE_height_19 rfl ?_
    refine aw_iload_n dE_height_20 rfl ?_
    refine an_callVr cg_E_141 (c_E_heightAbove _ _ _ _ _ hI hP hk _) dE_height_21 rfl rfl rfl rfl rfl (Nat.le_of_ble_eq_true rfl) (Nat.le_of_ble_eq_true rfl) ?_
    exact aw_iret rfl dE_height_24 ⟨rfl, I, A, rfl, hI⟩
  · refine an_astore_0 dE_height_5 (by decide) ?_
    refine an_aload_0 dE_height_6 rfl ?_
    refine an_ifnonnull_0 (tgt := 14) dE_height_7 (by decide) ?_
    refine aw_iconst (v := (-1)) dE_height_10 (by decide) ?_
    refine aw_goto (tgt := 24) dE_height_11 (by decide) ?_
    exact aw_iret rfl dE_height_24 (by unfold sp_height hgtE; rw [cif_f (fun q => nk (hv_row q.2))]; exact ⟨rfl, I, A, rfl, hI⟩)

set_option maxHeartbeats 4000000 in
set_option maxRecDepth 100000 in
theorem c_T_scale (N : Nat → Nat) (V : Nat → Nat → Int32) (K : Nat → Int32) (J : Nat → Int32) (B : Nat → Nat → Int32) (hI : TInv N V K J B) (hP : PInv N V K) (d ap : Int32) : AM kT_scale 5 [.ref 0, .int d, .int ap] (hT J B) (TR (sp_scale N V K d ap)) := by
  refine AMet.of (by decide) (by simp [Value.category]) (Nat.le_of_ble_eq_true rfl) ?_
  refine aw_iload_n dT_scale_0 rfl ?_
  refine aw_iconst (v := 1) dT_scale_1 (by decide) ?_
  refine aw_sipush (v := 2000) dT_scale_2 (by decide) ?_
  refine an_callSb cg_T_80 (c_T_isIn _ _ _ _) dT_scale_5 rfl rfl (Nat.le_of_ble_eq_true rfl) (Nat.le_of_ble_eq_true rfl) (fun p5 => ?_) (fun p5 => ?_)
  · refine aw_if_eq (tgt := 21) dT_scale_8 (by decide) (fun q => absurd q (by decide)) (fun _ => ?_)
    refine aw_iload_n dT_scale_11 rfl ?_
    refine aw_iconst (v := 1) dT_scale_12 (by decide) ?_
    refine aw_bipush (v := 20) dT_scale_13 (by decide) ?_
    refine an_callSb cg_T_80 (c_T_isIn _ _ _ _) dT_scale_15 rfl rfl (Nat.le_of_ble_eq_true rfl) (Nat.le_of_ble_eq_true rfl) (fun p15 => ?_) (fun p15 => ?_)
    · refine aw_if_ne (tgt := 23) dT_scale_18 (by decide) (fun _ => ?_) (fun q => absurd q (by decide))
      refine aw_iload_n dT_scale_23 rfl ?_
      refine aw_iload_n dT_scale_24 rfl ?_
      refine aw_idiv dT_scale_25 (sc_nz p15) ?_
      refine aw_istore_n dT_scale_26 (by decide) ?_
      refine aw_aload_r dT_scale_27 rfl ?_
      refine an_callVx cg_T_141 (c_T_ends N V K J B hI hP) dT_scale_28 rfl rfl rfl rfl rfl (Nat.le_of_ble_eq_true rfl) (Nat.le_of_ble_eq_true rfl) ?_
      rintro _ _ ⟨J1, rfl, hS, ⟨rfl, hA, e21, e22⟩ | ⟨rfl, hA⟩⟩ <;> have h1 := tinv_sl hI hS
      · refine aw_if_eq (tgt := 56) dT_scale_31 (by decide) (fun q => absurd q (by decide)) (fun _ => ?_)
        refine aw_iload_n dT_scale_34 rfl ?_
        refine aw_if_eq (tgt := 56) dT_scale_35 (by decide) (fun c35 => ?_) (fun c35 => ?_)
        · refine aw_bipush (v := (-2)) dT_scale_56 (by decide) ?_
          exact aw_iret rfl dT_scale_58 (by unfold sp_scale; rw [cif_t ⟨p5, p15⟩, cif_f (fun q => q.2.1 c35)]; exact ⟨rfl, J1, B, rfl, h1⟩)
        · refine aw_aload_r dT_scale_38 rfl ?_
          refine aw_get fg_T_138 dT_scale_39 rfl rfl ?_
          rw [e22]
          refine aw_aload_r dT_scale_42 rfl ?_
          refine aw_get fg_T_135 dT_scale_43 rfl rfl ?_
          rw [e21]
          refine aw_isub dT_scale_46 ?_
          refine aw_iload_n dT_scale_47 rfl ?_
          refine aw_idiv dT_scale_48 c35 ?_
          refine aw_iconst (v := 1) dT_scale_49 (by decide) ?_
          refine aw_iadd dT_scale_50 ?_
          refine aw_bipush (v := 60) dT_scale_51 (by decide) ?_
          refine aw_icmp_le (tgt := 59) dT_scale_53 (by decide) (fun c53 => ?_) (fun c53 => ?_)
          · refine aw_aload_r dT_scale_59 rfl ?_
            refine aw_iload_n dT_scale_60 rfl ?_
            refine an_putT fp_T_145 dT_scale_61 (by decide) ?_
            refine aw_iload_n dT_scale_64 rfl ?_
            exact aw_iret rfl dT_scale_65 (by unfold sp_scale; rw [cif_t ⟨p5, p15⟩, cif_t ⟨hA, c35, c53⟩]; exact ⟨rfl, _, _, rfl, tinv_9 h1 _⟩)
          · refine aw_bipush (v := (-2)) dT_scale_56 (by decide) ?_
            exact aw_iret rfl dT_scale_58 (by unfold sp_scale; rw [cif_t ⟨p5, p15⟩, cif_f (fun q => c53 q.2.2)]; exact ⟨rfl, J1, B, rfl, h1⟩)
      · refine aw_if_eq (tgt := 56) dT_scale_31 (by decide) (fun _ => ?_) (fun q => absurd q (by decide))
        refine aw_bipush (v := (-2)) dT_scale_56 (by decide) ?_
        exact aw_iret rfl dT_scale_58 (by unfold sp_scale; rw [cif_t ⟨p5, p15⟩, cif_f (fun q => hA q.1)]; exact ⟨rfl, J1, B, rfl, h1⟩)
    · refine aw_if_ne (tgt := 23) dT_scale_18 (by decide) (fun q => absurd q (by decide)) (fun _ => ?_)
      refine aw_iconst (v := (-1)) dT_scale_21 (by decide) ?_
      exact aw_iret rfl dT_scale_22 (by unfold sp_scale; rw [cif_f (fun q => p15 q.2)]; exact ⟨rfl, J, B, rfl, hI⟩)
  · refine aw_if_eq (tgt := 21) dT_scale_8 (by decide) (fun _ => ?_) (fun q => absurd q (by decide))
    refine aw_iconst (v := (-1)) dT_scale_21 (by decide) ?_
    exact aw_iret rfl dT_scale_22 (by unfold sp_scale; rw [cif_f (fun q => p5 q.1)]; exact ⟨rfl, J, B, rfl, hI⟩)

set_option maxHeartbeats 4000000 in
set_option maxRecDepth 100000 in
theorem c_T_height (N : Nat → Nat) (V : Nat → Nat → Int32) (K : Nat → Int32) (J : Nat → Int32) (B : Nat → Nat → Int32) (hI : TInv N V K J B) (hP : PInv N V K) (r s : Int32) : AM kT_height 5 [.ref 0, .int r, .int s] (hT J B) (HQ (hgtE N V K r s) J B) := by
  refine AMet.of (by decide) (by simp [Value.category]) (Nat.le_of_ble_eq_true rfl) ?_
  refine aw_aload_r dT_height_0 rfl ?_
  refine aw_get fg_T_145 dT_height_1 rfl rfl ?_
  show AN _ _ _ _ _ (.int (J 18) :: _) _
  rw [hI.2.2.1]
  refine aw_if_eq (tgt := 16) dT_height_4 (by decide) (fun c4 => ?_) (fun c4 => ?_)
  · refine aw_iconst (v := (-1)) dT_height_16 (by decide) ?_
    exact aw_iret rfl dT_height_17 (by unfold hgtE; rw [cif_f (fun q => q.1 c4)]; exact ⟨rfl, J, rfl, SameL.rf⟩)
  · refine aw_aload_r dT_height_7 rfl ?_
    refine aw_iload_n dT_height_8 rfl ?_
    refine aw_iload_n dT_height_9 rfl ?_
    refine an_callVb cg_T_91 (c_T_hasValue _ _ _ _ _ hI _ _) dT_height_10 rfl rfl rfl rfl rfl (Nat.le_of_ble_eq_true rfl) (Nat.le_of_ble_eq_true rfl) (fun p10 => ?_) (fun p10 => ?_)
    · refine aw_if_ne (tgt := 18) dT_height_13 (by decide) (fun _ => ?_) (fun q => absurd q (by decide))
      obtain ⟨k, i, hk, hi, rfl, rfl, hv⟩ := id p10
      have hN := hI.n k hk
      refine aw_aload_r dT_height_18 rfl ?_
      refine an_callVx cg_T_141 (c_T_ends N V K J B hI hP) dT_height_19 rfl rfl rfl rfl rfl (Nat.le_of_ble_eq_true rfl) (Nat.le_of_ble_eq_true rfl) ?_
      rintro _ _ ⟨J1, rfl, hS, ⟨rfl, hA, e21, e22⟩ | ⟨rfl, hA⟩⟩ 
      rotate_left
      · exact absurd (any_hv p10) hA
      have h1 := tinv_sl hI hS
      refine aw_pop dT_height_22 rfl ?_
      refine aw_aload_r dT_height_23 rfl ?_
      refine aw_iload_n dT_height_24 rfl ?_
      refine aw_iload_n dT_height_25 rfl ?_
      refine an_callVr cg_T_88 (c_T_valueAt _ _ _ _ _ h1 hk (by omega)) dT_height_26 rfl rfl rfl rfl rfl (Nat.le_of_ble_eq_true rfl) (Nat.le_of_ble_eq_true rfl) ?_
      refine aw_aload_r dT_height_29 rfl ?_
      refine aw_get fg_T_135 dT_height_30 rfl rfl ?_
      show AN _ _ _ _ _ (.int (J1 21) :: _) _
      rw [e21]
      refine aw_isub dT_height_33 ?_
      refine aw_aload_r dT_height_34 rfl ?_
      refine aw_get fg_T_145 dT_height_35 rfl rfl ?_
      show AN _ _ _ _ _ (.int (J1 18) :: _) _
      rw [h1.2.2.1]
      refine aw_idiv dT_height_38 c4 ?_
      exact aw_iret rfl dT_height_39 (by unfold hgtE; rw [cif_t ⟨c4, p10⟩, rn_n (by omega), rn_n (by omega)]; exact ⟨rfl, J1, rfl, hS⟩)
    · refine aw_if_ne (tgt := 18) dT_height_13 (by decide) (fun q => absurd q (by decide)) (fun _ => ?_)
      refine aw_iconst (v := (-1)) dT_height_16 (by decide) ?_
      exact aw_iret rfl dT_height_17 (by unfold hgtE; rw [cif_f (fun q => p10 q.2)]; exact ⟨rfl, J, rfl, SameL.rf⟩)
