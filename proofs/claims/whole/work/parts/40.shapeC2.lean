set_option maxHeartbeats 4000000 in
set_option maxRecDepth 100000 in
theorem c_S_noteWay (I : Nat → Int32) (A : Nat → Nat → Int32) {b kd i c : Nat} (hc : I 1005 = nI c) (hc40 : c < 40) (hi : i < 40) (hb : b < 1000) (hkd : kd < 1000) (hcp : ¬ kd = 0 → kd = b → 1 ≤ c) : AM kS_noteWay 1 [.ref 10, .int (nI i), .int (nI kd), .int (nI b)] (hC I A) (NWQ I A b kd i c) := by
  refine AMet.of (by decide) (by simp [Value.category]) (Nat.le_of_ble_eq_true rfl) ?_
  show AN _ _ _ 0 [some _, some _, some _, some _] [] _
  refine aw_aload_r dS_noteWay_0 rfl ?_
  refine aw_get fg_S_9 dS_noteWay_1 rfl rfl ?_
  refine aw_iload_n dS_noteWay_4 rfl ?_
  refine aw_iload_n dS_noteWay_5 rfl ?_
  refine an_stC dS_noteWay_6 ac_11 rfl hi (by decide) ?_
  refine aw_iload_n dS_noteWay_7 rfl ?_
  refine aw_if_ne (tgt := 12) dS_noteWay_8 (by decide) (fun c8 => ?_) (fun c8 => ?_)
  · have z0 : ¬ kd = 0 := fun e => c8 (by rw [e]; rfl)
    refine aw_iload_n dS_noteWay_12 rfl ?_
    refine aw_iload_n dS_noteWay_13 rfl ?_
    refine aw_icmp_eq (tgt := 37) dS_noteWay_14 (by decide) (fun c14 => ?_) (fun c14 => ?_)
    · have q0 : kd = b := nI_inj (by omega) (by omega) c14
      refine aw_aload_r dS_noteWay_37 rfl ?_
      refine aw_get fg_S_18 dS_noteWay_38 rfl rfl ?_
      refine aw_aload_r dS_noteWay_41 rfl ?_
      refine aw_get fg_S_29 dS_noteWay_42 rfl rfl ?_
      refine an_top (y := nI c) hc ?_
      refine aw_iconst (v := 1) dS_noteWay_45 (by decide) ?_
      refine aw_isub dS_noteWay_46 ?_
      refine an_top (nI_pm (hcp z0 q0)) ?_
      refine aw_iload_n dS_noteWay_47 rfl ?_
      refine aw_iconst (v := 1) dS_noteWay_48 (by decide) ?_
      refine aw_iadd dS_noteWay_49 ?_
      refine an_top (nI_1 i) ?_
      refine an_stC dS_noteWay_50 ac_13 rfl (by omega) (by decide) ?_
      exact aw_vret rfl dS_noteWay_51 ⟨rfl, Or.inr (Or.inl ⟨z0, q0, rfl⟩)⟩
    · refine aw_aload_r dS_noteWay_17 rfl ?_
      refine aw_get fg_S_15 dS_noteWay_18 rfl rfl ?_
      refine aw_aload_r dS_noteWay_21 rfl ?_
      refine aw_get fg_S_29 dS_noteWay_22 rfl rfl ?_
      refine aw_iload_n dS_noteWay_25 rfl ?_
      refine an_stC dS_noteWay_26 ac_12 hc hc40 (by decide) ?_
      refine aw_aload_r dS_noteWay_27 rfl ?_
      refine aw_dup dS_noteWay_28 rfl ?_
      refine aw_get fg_S_29 dS_noteWay_29 rfl rfl ?_
      refine an_top (y := nI c) hc ?_
      refine aw_iconst (v := 1) dS_noteWay_32 (by decide) ?_
      refine aw_iadd dS_noteWay_33 ?_
      refine an_top (nI_1 c) ?_
      refine an_putS fp_S_29 dS_noteWay_34 (by decide) ?_
      have q0 : ¬ kd = b := fun e => c14 (by rw [e])
      refine aw_aload_r dS_noteWay_37 rfl ?_
      refine aw_get fg_S_18 dS_noteWay_38 rfl rfl ?_
      refine aw_aload_r dS_noteWay_41 rfl ?_
      refine aw_get fg_S_29 dS_noteWay_42 rfl rfl ?_
      refine an_top (y := nI (c + 1)) rfl ?_
      refine aw_iconst (v := 1) dS_noteWay_45 (by decide) ?_
      refine aw_isub dS_noteWay_46 ?_
      refine an_top (nI_pred c) ?_
      refine aw_iload_n dS_noteWay_47 rfl ?_
      refine aw_iconst (v := 1) dS_noteWay_48 (by decide) ?_
      refine aw_iadd dS_noteWay_49 ?_
      refine an_top (nI_1 i) ?_
      refine an_stC dS_noteWay_50 ac_13 rfl (by omega) (by decide) ?_
      exact aw_vret rfl dS_noteWay_51 ⟨rfl, Or.inr (Or.inr ⟨z0, q0, rfl⟩)⟩
  · exact aw_vret rfl dS_noteWay_11 ⟨rfl, Or.inl ⟨nI_inj (b := 0) (by omega) (by decide) c8, rfl⟩⟩

set_option maxHeartbeats 4000000 in
set_option maxRecDepth 100000 in
theorem l_S_chooseKinds (N : Nat → Nat) (V : Nat → Nat → Int32) (K : Nat → Int32) (I : Nat → Int32) (A : Nat → Nat → Int32) (hI : CInv N V K I A) (hP : PInv N V K) {k : Nat} (hk : k < 4) : ∀ (n i : Nat) (I1 : Nat → Int32) (A1 : Nat → Nat → Int32), i + n = 40 → CInv N V K I1 A1 → I1 1005 = nI (spc (V k) (N k) (K 8) i) → I1 1007 = (toS (V k) (N k) (K 8) i) → (∀ j, j < i → A1 11 j = nI (kq (V k) (N k) (K 8) j)) → AG (A1 12) (spf (V k) (N k) (K 8) i) (spc (V k) (N k) (K 8) i) → AG (A1 13) (spl (V k) (N k) (K 8) i) (spc (V k) (N k) (K 8) i) → tblC A1 (V k) (N k) (K 8) 0 → A1 27 = A 27 → AN kS_chooseKinds 4 (CKQ N V K k A) 15 [some (.ref 10), some (.ref (2 + 2 * k)), some (.int (K 8)), some (.int (nI (bef (V k) (N k) (K 8) i))), some (.int (nI i)), none] [] (hC I1 A1) := by
  intro n
  induction n with
  | zero =>
    intro i I1 A1 hin h1 h5c h7 h11 h12 h13 hD h27
    have hi : i = 40 := by omega
    subst hi
    refine aw_iload dS_chooseKinds_15 rfl ?_
    refine aw_bipush (v := 40) dS_chooseKinds_17 (by decide) ?_
    refine aw_icmp_ge (tgt := 91) dS_chooseKinds_19 (by decide) (fun c19 => ?_) (fun c19 => absurd (by decide) c19)
    exact aw_vret rfl dS_chooseKinds_91 ⟨rfl, I1, A1, rfl, ⟨h1, h5c, h7, h11, h12, h13⟩, h27⟩
  | succ n ih =>
    intro i I1 A1 hin h1 h5c h7 h11 h12 h13 hD h27
    have hi40 : i < 40 := by omega
    have hcl := spc_le (v := V k) (n := N k) (p := K 8) i
    refine aw_iload dS_chooseKinds_15 rfl ?_
    refine aw_bipush (v := 40) dS_chooseKinds_17 (by decide) ?_
    refine aw_icmp_ge (tgt := 91) dS_chooseKinds_19 (by decide) (fun c19 => absurd c19 (nI_ge (b := 40) (by omega) (by omega))) (fun c19 => ?_)
    refine aw_aload_r dS_chooseKinds_22 rfl ?_
    refine aw_iload dS_chooseKinds_23 rfl ?_
    refine an_callVb cg_S_50 (c_R_hasWay N V K _ _ h1 hk i) dS_chooseKinds_25 rfl (hC_row _ _ hk) rfl rfl rfl (Nat.le_of_ble_eq_true rfl) (Nat.le_of_ble_eq_true rfl) (fun p25 => ?_) (fun p25 => ?_)
    · refine aw_if_eq (tgt := 42) dS_chooseKinds_28 (by decide) (fun q => absurd q (by decide)) (fun _ => ?_)
      have w := (wy_hv hI.n hk (by omega)).mp p25
      have hkr := kq_range (p := K 8) w
      have hk0 : ¬ (kq (V k) (N k) (K 8) i) = 0 := by omega
      refine aw_aload_r dS_chooseKinds_31 rfl ?_
      refine aw_iload_n dS_chooseKinds_32 rfl ?_
      refine aw_iload dS_chooseKinds_33 rfl ?_
      refine aw_iload_n dS_chooseKinds_35 rfl ?_
      refine an_callVr cg_S_63 (c_S_bestKind I1 A1 (b := (bef (V k) (N k) (K 8) i)) (i := i) (K 8) bef_lt hi40) dS_chooseKinds_36 rfl rfl rfl rfl rfl (Nat.le_of_ble_eq_true rfl) (Nat.le_of_ble_eq_true rfl) ?_
      refine an_top (y := nI (kq (V k) (N k) (K 8) i)) (by rw [kq_eq, if_pos w, bk_congr (fun q a b => hD i (by omega) w q a b)]) ?_
      refine aw_goto (tgt := 43) dS_chooseKinds_39 (by decide) ?_
      refine si6_5 dS_chooseKinds_43 (by decide) ?_
      refine aw_iload_n dS_chooseKinds_45 rfl ?_
      refine aw_if_ne (tgt := 73) dS_chooseKinds_46 (by decide) (fun c46 => ?_) (fun c46 => ?_)
      · refine aw_aload_r dS_chooseKinds_73 rfl ?_
        refine aw_iload dS_chooseKinds_74 rfl ?_
        refine aw_iload dS_chooseKinds_76 rfl ?_
        refine aw_iload_n dS_chooseKinds_78 rfl ?_
        refine an_callVx cg_S_80 (c_S_noteWay _ _ (b := (bef (V k) (N k) (K 8) i)) (kd := (kq (V k) (N k) (K 8) i)) (i := i) (c := (spc (V k) (N k) (K 8) i)) h5c (by omega) hi40 bef_lt (by omega) (fun z e => spc_pos i (by rw [← e]; exact z))) dS_chooseKinds_79 rfl rfl rfl rfl rfl (Nat.le_of_ble_eq_true rfl) (Nat.le_of_ble_eq_true rfl) ?_
        rintro _ _ ⟨rfl, ⟨z0, rfl⟩ | ⟨z0, q0, rfl⟩ | ⟨z0, q0, rfl⟩⟩
        · exact absurd z0 hk0
        · refine aw_iload dS_chooseKinds_82 rfl ?_
          refine si6_3 dS_chooseKinds_84 (by decide) ?_
          refine ic6_4 dS_chooseKinds_85 (nI_1 i) (by decide) ?_
          refine aw_goto (tgt := 15) dS_chooseKinds_88 (by decide) ?_
          exact an_weak (ih (i + 1) _ _ (by omega) (cinv_a (cinv_a h1 (by decide) _) (by decide) _) (by rw [spc_on hk0 q0]; exact h5c) (by rw [toS_same (fun z => c46 (by rw [z.1]; rfl))]; exact h7) (kin1 h11) (by rw [spf_on hk0 q0, spc_on hk0 q0]; exact h12) (by rw [spl_on hk0 q0, spc_on hk0 q0]; exact h13.put _ _) (tblC_11 (by decide) (tblC_11 (by decide) hD)) h27) ⟨rfl, rfl, rfl, rfl, rfl, trivial⟩
        · refine aw_iload dS_chooseKinds_82 rfl ?_
          refine si6_3 dS_chooseKinds_84 (by decide) ?_
          refine ic6_4 dS_chooseKinds_85 (nI_1 i) (by decide) ?_
          refine aw_goto (tgt := 15) dS_chooseKinds_88 (by decide) ?_
          exact an_weak (ih (i + 1) _ _ (by omega) (cinv_s (cinv_a (cinv_a (cinv_a h1 (by decide) _) (by decide) _) (by decide) _) (by decide) _) (by rw [spc_new hk0 q0]; rfl) (by rw [toS_same (fun z => c46 (by rw [z.1]; rfl))]; exact h7) (kin1 h11) (by rw [spf_new hk0 q0, spc_new hk0 q0]; exact h12.snoc _) (by rw [spl_new hk0 q0, spc_new hk0 q0]; exact h13.snoc _) (tblC_11 (by decide) (tblC_11 (by decide) (tblC_11 (by decide) hD))) h27) ⟨rfl, rfl, rfl, rfl, rfl, trivial⟩
      · refine aw_iload dS_chooseKinds_49 rfl ?_
        refine aw_if_eq (tgt := 73) dS_chooseKinds_51 (by decide) (fun c51 => absurd (nI_inj (b := 0) (by omega) (by decide) c51) hk0) (fun c51 => ?_)
        have hb0 : (bef (V k) (N k) (K 8) i) = 0 := nI_inj (b := 0) (by have := bef_lt (v := V k) (n := N k) (p := K 8) (i := i); omega) (by decide) c46
        refine aw_aload_r dS_chooseKinds_54 rfl ?_
        refine aw_dup dS_chooseKinds_55 rfl ?_
        refine aw_get fg_S_36 dS_chooseKinds_56 rfl rfl ?_
        refine an_top (y := (toS (V k) (N k) (K 8) i)) h7 ?_
        refine aw_aload_r dS_chooseKinds_59 rfl ?_
        refine aw_iconst (v := 0) dS_chooseKinds_60 (by decide) ?_
        refine aw_iload dS_chooseKinds_61 rfl ?_
        refine aw_iload dS_chooseKinds_63 rfl ?_
        refine aw_iload_n dS_chooseKinds_65 rfl ?_
        refine an_callVr cg_S_67 (c_S_costBehind _ _ (b := 0) (i := i) (q := (kq (V k) (N k) (K 8) i)) (K 8) (by decide) hi40 (by omega)) dS_chooseKinds_66 rfl rfl rfl rfl rfl (Nat.le_of_ble_eq_true rfl) (Nat.le_of_ble_eq_true rfl) ?_
        refine an_top (cb_congr (fun q a b => hD i (by omega) w q a b) hkr.1 hkr.2) ?_
        refine aw_iadd dS_chooseKinds_69 ?_
        refine an_putS fp_S_36 dS_chooseKinds_70 (by decide) ?_
        refine aw_aload_r dS_chooseKinds_73 rfl ?_
        refine aw_iload dS_chooseKinds_74 rfl ?_
        refine aw_iload dS_chooseKinds_76 rfl ?_
        refine aw_iload_n dS_chooseKinds_78 rfl ?_
        refine an_callVx cg_S_80 (c_S_noteWay _ _ (b := (bef (V k) (N k) (K 8) i)) (kd := (kq (V k) (N k) (K 8) i)) (i := i) (c := (spc (V k) (N k) (K 8) i)) h5c (by omega) hi40 bef_lt (by omega) (fun z e => spc_pos i (by rw [← e]; exact z))) dS_chooseKinds_79 rfl rfl rfl rfl rfl (Nat.le_of_ble_eq_true rfl) (Nat.le_of_ble_eq_true rfl) ?_
        rintro _ _ ⟨rfl, ⟨z0, rfl⟩ | ⟨z0, q0, rfl⟩ | ⟨z0, q0, rfl⟩⟩
        · exact absurd z0 hk0
        · refine aw_iload dS_chooseKinds_82 rfl ?_
          refine si6_3 dS_chooseKinds_84 (by decide) ?_
          refine ic6_4 dS_chooseKinds_85 (nI_1 i) (by decide) ?_
          refine aw_goto (tgt := 15) dS_chooseKinds_88 (by decide) ?_
          exact an_weak (ih (i + 1) _ _ (by omega) (cinv_a (cinv_a (cinv_s h1 (by decide) _) (by decide) _) (by decide) _) (by rw [spc_on hk0 q0]; exact h5c) (by rw [toS_new hb0 hk0]; rfl) (kin1 h11) (by rw [spf_on hk0 q0, spc_on hk0 q0]; exact h12) (by rw [spl_on hk0 q0, spc_on hk0 q0]; exact h13.put _ _) (tblC_11 (by decide) (tblC_11 (by decide) hD)) h27) ⟨rfl, rfl, rfl, rfl, rfl, trivial⟩
        · refine aw_iload dS_chooseKinds_82 rfl ?_
          refine si6_3 dS_chooseKinds_84 (by decide) ?_
          refine ic6_4 dS_chooseKinds_85 (nI_1 i) (by decide) ?_
          refine aw_goto (tgt := 15) dS_chooseKinds_88 (by decide) ?_
          exact an_weak (ih (i + 1) _ _ (by omega) (cinv_s (cinv_a (cinv_a (cinv_a (cinv_s h1 (by decide) _) (by decide) _) (by decide) _) (by decide) _) (by decide) _) (by rw [spc_new hk0 q0]; rfl) (by rw [toS_new hb0 hk0]; rfl) (kin1 h11) (by rw [spf_new hk0 q0, spc_new hk0 q0]; exact h12.snoc _) (by rw [spl_new hk0 q0, spc_new hk0 q0]; exact h13.snoc _) (tblC_11 (by decide) (tblC_11 (by decide) (tblC_11 (by decide) hD))) h27) ⟨rfl, rfl, rfl, rfl, rfl, trivial⟩
    · refine aw_if_eq (tgt := 42) dS_chooseKinds_28 (by decide) (fun _ => ?_) (fun q => absurd q (by decide))
      have hz : (kq (V k) (N k) (K 8) i) = 0 := kq_no (fun q => p25 ((wy_hv hI.n hk (by omega)).mpr q))
      refine aw_iconst (v := 0) dS_chooseKinds_42 (by decide) ?_
      refine si6_5 dS_chooseKinds_43 (by decide) ?_
      refine aw_iload_n dS_chooseKinds_45 rfl ?_
      refine aw_if_ne (tgt := 73) dS_chooseKinds_46 (by decide) (fun c46 => ?_) (fun c46 => ?_)
      · refine aw_aload_r dS_chooseKinds_73 rfl ?_
        refine aw_iload dS_chooseKinds_74 rfl ?_
        refine aw_iload dS_chooseKinds_76 rfl ?_
        refine aw_iload_n dS_chooseKinds_78 rfl ?_
        refine an_callVx cg_S_80 (c_S_noteWay _ _ (b := (bef (V k) (N k) (K 8) i)) (kd := 0) (i := i) (c := (spc (V k) (N k) (K 8) i)) h5c (by omega) hi40 bef_lt (by decide) (fun z => absurd rfl z)) dS_chooseKinds_79 rfl rfl rfl rfl rfl (Nat.le_of_ble_eq_true rfl) (Nat.le_of_ble_eq_true rfl) ?_
        rintro _ _ ⟨rfl, ⟨z0, rfl⟩ | ⟨z0, q0, rfl⟩ | ⟨z0, q0, rfl⟩⟩
        · refine aw_iload dS_chooseKinds_82 rfl ?_
          refine si6_3 dS_chooseKinds_84 (by decide) ?_
          refine ic6_4 dS_chooseKinds_85 (nI_1 i) (by decide) ?_
          refine aw_goto (tgt := 15) dS_chooseKinds_88 (by decide) ?_
          exact an_weak (ih (i + 1) _ _ (by omega) (cinv_a h1 (by decide) _) (by rw [spc_no hz]; exact h5c) (by rw [toS_same (fun z => z.2 hz)]; exact h7) (by rw [← hz]; exact kin1 h11) (by rw [spf_no hz, spc_no hz]; exact h12) (by rw [spl_no hz, spc_no hz]; exact h13) (tblC_11 (by decide) hD) h27) ⟨rfl, rfl, rfl, by rw [show (bef (V k) (N k) (K 8) (i + 1)) = 0 from hz]; rfl, rfl, trivial⟩
        · exact absurd rfl z0
        · exact absurd rfl z0
      · refine aw_iload dS_chooseKinds_49 rfl ?_
        refine aw_if_eq (tgt := 73) dS_chooseKinds_51 (by decide) (fun _ => ?_) (fun q => absurd q (by decide))
        refine aw_aload_r dS_chooseKinds_73 rfl ?_
        refine aw_iload dS_chooseKinds_74 rfl ?_
        refine aw_iload dS_chooseKinds_76 rfl ?_
        refine aw_iload_n dS_chooseKinds_78 rfl ?_
        refine an_callVx cg_S_80 (c_S_noteWay _ _ (b := (bef (V k) (N k) (K 8) i)) (kd := 0) (i := i) (c := (spc (V k) (N k) (K 8) i)) h5c (by omega) hi40 bef_lt (by decide) (fun z => absurd rfl z)) dS_chooseKinds_79 rfl rfl rfl rfl rfl (Nat.le_of_ble_eq_true rfl) (Nat.le_of_ble_eq_true rfl) ?_
        rintro _ _ ⟨rfl, ⟨z0, rfl⟩ | ⟨z0, q0, rfl⟩ | ⟨z0, q0, rfl⟩⟩
        · refine aw_iload dS_chooseKinds_82 rfl ?_
          refine si6_3 dS_chooseKinds_84 (by decide) ?_
          refine ic6_4 dS_chooseKinds_85 (nI_1 i) (by decide) ?_
          refine aw_goto (tgt := 15) dS_chooseKinds_88 (by decide) ?_
          exact an_weak (ih (i + 1) _ _ (by omega) (cinv_a h1 (by decide) _) (by rw [spc_no hz]; exact h5c) (by rw [toS_same (fun z => z.2 hz)]; exact h7) (by rw [← hz]; exact kin1 h11) (by rw [spf_no hz, spc_no hz]; exact h12) (by rw [spl_no hz, spc_no hz]; exact h13) (tblC_11 (by decide) hD) h27) ⟨rfl, rfl, rfl, by rw [show (bef (V k) (N k) (K 8) (i + 1)) = 0 from hz]; rfl, rfl, trivial⟩
        · exact absurd rfl z0
        · exact absurd rfl z0

set_option maxHeartbeats 4000000 in
set_option maxRecDepth 100000 in
theorem c_S_chooseKinds (N : Nat → Nat) (V : Nat → Nat → Int32) (K : Nat → Int32) (I : Nat → Int32) (A : Nat → Nat → Int32) (hI : CInv N V K I A) (hP : PInv N V K) {k : Nat} (hk : k < 4) (hD : tblC A (V k) (N k) (K 8) 0) : AM kS_chooseKinds 4 [.ref 10, .ref (2 + 2 * k), .int (K 8)] (hC I A) (CKQ N V K k A) := by
  refine AMet.of (by decide) (by simp [Value.category]) (Nat.le_of_ble_eq_true rfl) ?_
  show AN _ _ _ 0 [some _, some _, some _, none, none, none] [] _
  refine aw_iconst (v := 0) dS_chooseKinds_0 (by decide) ?_
  refine si6_3 dS_chooseKinds_1 (by decide) ?_
  refine aw_aload_r dS_chooseKinds_2 rfl ?_
  refine aw_iconst (v := 0) dS_chooseKinds_3 (by decide) ?_
  refine an_putS fp_S_29 dS_chooseKinds_4 (by decide) ?_
  refine aw_aload_r dS_chooseKinds_7 rfl ?_
  refine aw_iconst (v := 0) dS_chooseKinds_8 (by decide) ?_
  refine an_putS fp_S_36 dS_chooseKinds_9 (by decide) ?_
  refine aw_iconst (v := 0) dS_chooseKinds_12 (by decide) ?_
  refine si6_4 dS_chooseKinds_13 (by decide) ?_
  exact an_weak (l_S_chooseKinds N V K I A hI hP hk 40 0 _ _ (by omega) (cinv_s (cinv_s hI (by decide) _) (by decide) _) rfl rfl (fun j hj => by omega) AG.zero AG.zero hD rfl) ⟨rfl, rfl, rfl, rfl, rfl, trivial⟩

set_option maxHeartbeats 4000000 in
set_option maxRecDepth 100000 in
theorem c_S_hasSpan (I : Nat → Int32) (A : Nat → Nat → Int32) {c : Nat} (hc : I 1005 = nI c) (hc40 : c ≤ 40) (j : Int32) : AM kS_hasSpan 1 [.ref 10, .int j] (hC I A) (BQ (0 ≤ j.toInt ∧ j.toInt < (c : Int)) (hC I A)) := by
  refine AMet.of (by decide) (by simp [Value.category]) (Nat.le_of_ble_eq_true rfl) ?_
  show AN _ _ _ 0 [some _, some _] [] _
  refine aw_iload_n dS_hasSpan_0 rfl ?_
  refine aw_if_lt (tgt := 16) dS_hasSpan_1 (by decide) (fun c1 => ?_) (fun c1 => ?_)
  · refine aw_iconst (v := 0) dS_hasSpan_16 (by decide) ?_
    exact aw_zret rfl (Or.inl rfl) dS_hasSpan_17 ⟨rfl, Or.inr ⟨by rw [lt_T, z_0] at c1; omega, rfl⟩⟩
  · refine aw_iload_n dS_hasSpan_4 rfl ?_
    refine aw_aload_r dS_hasSpan_5 rfl ?_
    refine aw_get fg_S_29 dS_hasSpan_6 rfl rfl ?_
    refine an_top (y := nI c) hc ?_
    refine aw_icmp_ge (tgt := 16) dS_hasSpan_9 (by decide) (fun c9 => ?_) (fun c9 => ?_)
    · refine aw_iconst (v := 0) dS_hasSpan_16 (by decide) ?_
      exact aw_zret rfl (Or.inl rfl) dS_hasSpan_17 ⟨rfl, Or.inr ⟨by rw [le_T, nI_toInt (by omega)] at c9; omega, rfl⟩⟩
    · refine aw_iconst (v := 1) dS_hasSpan_12 (by decide) ?_
      refine aw_goto (tgt := 17) dS_hasSpan_13 (by decide) ?_
      exact aw_zret rfl (Or.inr rfl) dS_hasSpan_17 ⟨rfl, Or.inl ⟨by rw [lt_T, z_0] at c1; rw [le_T, nI_toInt (by omega)] at c9; omega, rfl⟩⟩

set_option maxHeartbeats 4000000 in
set_option maxRecDepth 100000 in
theorem c_S_kindOfSpan (N : Nat → Nat) (V : Nat → Nat → Int32) (K : Nat → Int32) (I : Nat → Int32) (A : Nat → Nat → Int32) {k : Nat} (hs : CSh N V K k I A) {j : Nat} (hj : j < (spc (V k) (N k) (K 8) 40)) : AM kS_kindOfSpan 1 [.ref 10, .int (nI j)] (hC I A) (RQ (nI ((spg (V k) (N k) (K 8) 40) j)) (hC I A)) := by
  refine AMet.of (by decide) (by simp [Value.category]) (Nat.le_of_ble_eq_true rfl) ?_
  show AN _ _ _ 0 [some _, some _] [] _
  have hc40 := spc_le (v := V k) (n := N k) (p := K 8) 40
  have h1 := (sp_ok (v := V k) (n := N k) (p := K 8) 40).1 j hj
  refine aw_aload_r dS_kindOfSpan_0 rfl ?_
  refine aw_get fg_S_9 dS_kindOfSpan_1 rfl rfl ?_
  refine aw_aload_r dS_kindOfSpan_4 rfl ?_
  refine aw_get fg_S_15 dS_kindOfSpan_5 rfl rfl ?_
  refine aw_iload_n dS_kindOfSpan_8 rfl ?_
  refine an_ldC dS_kindOfSpan_9 ac_12 rfl (by omega) (by decide) ?_
  rw [hs.2.2.2.2.1 j hj]
  refine an_ldC dS_kindOfSpan_10 ac_11 rfl (by omega) (by decide) ?_
  rw [hs.2.2.2.1 _ (by omega), h1.2.2.2.2.2]
  exact aw_iret rfl dS_kindOfSpan_11 ⟨rfl, rfl⟩

set_option maxHeartbeats 4000000 in
set_option maxRecDepth 100000 in
theorem c_S_waysOfSpan (N : Nat → Nat) (V : Nat → Nat → Int32) (K : Nat → Int32) (I : Nat → Int32) (A : Nat → Nat → Int32) {k : Nat} (hs : CSh N V K k I A) {j : Nat} (hj : j < (spc (V k) (N k) (K 8) 40)) : AM kS_waysOfSpan 1 [.ref 10, .int (nI j)] (hC I A) (RQ (nI ((spl (V k) (N k) (K 8) 40) j - (spf (V k) (N k) (K 8) 40) j)) (hC I A)) := by
  refine AMet.of (by decide) (by simp [Value.category]) (Nat.le_of_ble_eq_true rfl) ?_
  show AN _ _ _ 0 [some _, some _] [] _
  have hc40 := spc_le (v := V k) (n := N k) (p := K 8) 40
  have h1 := (sp_ok (v := V k) (n := N k) (p := K 8) 40).1 j hj
  refine aw_aload_r dS_waysOfSpan_0 rfl ?_
  refine aw_get fg_S_18 dS_waysOfSpan_1 rfl rfl ?_
  refine aw_iload_n dS_waysOfSpan_4 rfl ?_
  refine an_ldC dS_waysOfSpan_5 ac_13 rfl (by omega) (by decide) ?_
  rw [hs.2.2.2.2.2 j hj]
  refine aw_aload_r dS_waysOfSpan_6 rfl ?_
  refine aw_get fg_S_15 dS_waysOfSpan_7 rfl rfl ?_
  refine aw_iload_n dS_waysOfSpan_10 rfl ?_
  refine an_ldC dS_waysOfSpan_11 ac_12 rfl (by omega) (by decide) ?_
  rw [hs.2.2.2.2.1 j hj]
  refine aw_isub dS_waysOfSpan_12 ?_
  exact aw_iret rfl dS_waysOfSpan_13 ⟨rfl, by rw [pk_sub (by omega)]⟩

set_option maxHeartbeats 4000000 in
set_option maxRecDepth 100000 in
theorem c_S_turnsAtStart (N : Nat → Nat) (V : Nat → Nat → Int32) (K : Nat → Int32) (I : Nat → Int32) (A : Nat → Nat → Int32) {k : Nat} (hs : CSh N V K k I A) (hk : k < 4) {j : Nat} (hj : j + 1 < (spc (V k) (N k) (K 8) 40)) : AM kS_turnsAtStart 2 [.ref 10, .ref (2 + 2 * k), .int (nI (j + 1))] (hC I A) (BQ (tnD (V k) (K k) (spf (V k) (N k) (K 8) 40) (spl (V k) (N k) (K 8) 40) (spg (V k) (N k) (K 8) 40) j) (hC I A)) := by
  refine AMet.of (by decide) (by simp [Value.category]) (Nat.le_of_ble_eq_true rfl) ?_
  show AN _ _ _ 0 [some _, some _, some _, none, none, none] [] _
  have hc40 := spc_le (v := V k) (n := N k) (p := K 8) 40
  have hok := sp_ok (v := V k) (n := N k) (p := K 8) 40
  have h40 := hs.1.n k hk
  have k1 := hok.1 j (by omega)
  have k2 := hok.1 (j + 1) hj
  have hun := (hok.2.1 j hj).2
  refine aw_aload_r dS_turnsAtStart_0 rfl ?_
  refine aw_get fg_S_15 dS_turnsAtStart_1 rfl rfl ?_
  refine aw_iload_n dS_turnsAtStart_4 rfl ?_
  refine an_ldC dS_turnsAtStart_5 ac_12 rfl (by omega) (by decide) ?_
  rw [hs.2.2.2.2.1 (j + 1) hj]
  refine si6_3 dS_turnsAtStart_6 (by decide) ?_
  refine aw_aload_r dS_turnsAtStart_7 rfl ?_
  refine aw_get fg_S_18 dS_turnsAtStart_8 rfl rfl ?_
  refine aw_iload_n dS_turnsAtStart_11 rfl ?_
  refine aw_iconst (v := 1) dS_turnsAtStart_12 (by decide) ?_
  refine aw_isub dS_turnsAtStart_13 ?_
  refine an_top (nI_pred j) ?_
  refine an_ldC dS_turnsAtStart_14 ac_13 rfl (by omega) (by decide) ?_
  rw [hs.2.2.2.2.2 j (by omega)]
  refine aw_iload_n dS_turnsAtStart_15 rfl ?_
  refine aw_icmp_ne (tgt := 39) dS_turnsAtStart_16 (by decide) (fun c16 => ?_) (fun c16 => ?_)
  · refine aw_iconst (v := 0) dS_turnsAtStart_39 (by decide) ?_
    exact aw_zret rfl (Or.inl rfl) dS_turnsAtStart_40 ⟨rfl, Or.inr ⟨fun z => c16 (congrArg nI z.1), rfl⟩⟩
  · refine aw_aload_r dS_turnsAtStart_19 rfl ?_
    refine aw_iload_n dS_turnsAtStart_20 rfl ?_
    refine aw_iconst (v := 1) dS_turnsAtStart_21 (by decide) ?_
    refine aw_isub dS_turnsAtStart_22 ?_
    refine an_top (nI_pred j) ?_
    refine an_callVr cg_S_88 (c_S_kindOfSpan N V K I A hs (j := j) (by omega)) dS_turnsAtStart_23 rfl rfl rfl rfl rfl (Nat.le_of_ble_eq_true rfl) (Nat.le_of_ble_eq_true rfl) ?_
    refine aw_iconst (v := 3) dS_turnsAtStart_26 (by decide) ?_
    refine aw_icmp_eq (tgt := 39) dS_turnsAtStart_27 (by decide) (fun c27 => ?_) (fun c27 => ?_)
    · refine aw_iconst (v := 0) dS_turnsAtStart_39 (by decide) ?_
      exact aw_zret rfl (Or.inl rfl) dS_turnsAtStart_40 ⟨rfl, Or.inr ⟨fun z => ((g3 ⟨k1.2.2.2.1, k1.2.2.2.2.1⟩ ⟨k2.2.2.2.1, k2.2.2.2.2.1⟩ (hun z.1)).mp z.2.1).1 (nI_inj (b := 3) (by omega) (by decide) c27), rfl⟩⟩
    · refine aw_aload_r dS_turnsAtStart_30 rfl ?_
      refine aw_iload_n dS_turnsAtStart_31 rfl ?_
      refine an_callVr cg_S_88 (c_S_kindOfSpan N V K I A hs (j := j + 1) hj) dS_turnsAtStart_32 rfl rfl rfl rfl rfl (Nat.le_of_ble_eq_true rfl) (Nat.le_of_ble_eq_true rfl) ?_
      refine aw_iconst (v := 3) dS_turnsAtStart_35 (by decide) ?_
      refine aw_icmp_ne (tgt := 41) dS_turnsAtStart_36 (by decide) (fun c36 => ?_) (fun c36 => ?_)
      · have q1 : (spl (V k) (N k) (K 8) 40) j = (spf (V k) (N k) (K 8) 40) (j + 1) := nI_inj (by omega) (by omega) c16
        refine aw_aload_r dS_turnsAtStart_41 rfl ?_
        refine an_getR hk fg_S_56 dS_turnsAtStart_42 rfl ?_
        refine aw_iload_n dS_turnsAtStart_45 rfl ?_
        refine an_ldC dS_turnsAtStart_46 (ac_val hk) rfl (by omega) (by decide) ?_
        rw [(hs.1.1 k hk).2.2.2.2 _ (by omega)]
        refine aw_aload_r dS_turnsAtStart_47 rfl ?_
        refine an_getR hk fg_S_56 dS_turnsAtStart_48 rfl ?_
        refine aw_aload_r dS_turnsAtStart_51 rfl ?_
        refine aw_get fg_S_15 dS_turnsAtStart_52 rfl rfl ?_
        refine aw_iload_n dS_turnsAtStart_55 rfl ?_
        refine aw_iconst (v := 1) dS_turnsAtStart_56 (by decide) ?_
        refine aw_isub dS_turnsAtStart_57 ?_
        refine an_top (nI_pred j) ?_
        refine an_ldC dS_turnsAtStart_58 ac_12 rfl (by omega) (by decide) ?_
        rw [hs.2.2.2.2.1 j (by omega)]
        refine an_ldC dS_turnsAtStart_59 (ac_val hk) rfl (by omega) (by decide) ?_
        rw [(hs.1.1 k hk).2.2.2.2 _ (by omega)]
        refine aw_isub dS_turnsAtStart_60 ?_
        refine aw_abs cg_S_76 dS_turnsAtStart_61 (Nat.le_of_ble_eq_true rfl) (Nat.le_of_ble_eq_true rfl) ⟨Nat.le_refl _, Nat.le_refl _⟩ ?_
        refine an_top (abs_sz _) ?_
        refine si6_4 dS_turnsAtStart_64 (by decide) ?_
        refine aw_aload_r dS_turnsAtStart_66 rfl ?_
        refine an_getR hk fg_S_56 dS_turnsAtStart_67 rfl ?_
        refine aw_iload_n dS_turnsAtStart_70 rfl ?_
        refine an_ldC dS_turnsAtStart_71 (ac_val hk) rfl (by omega) (by decide) ?_
        rw [(hs.1.1 k hk).2.2.2.2 _ (by omega)]
        refine aw_aload_r dS_turnsAtStart_72 rfl ?_
        refine an_getR hk fg_S_56 dS_turnsAtStart_73 rfl ?_
        refine aw_aload_r dS_turnsAtStart_76 rfl ?_
        refine aw_get fg_S_18 dS_turnsAtStart_77 rfl rfl ?_
        refine aw_iload_n dS_turnsAtStart_80 rfl ?_
        refine an_ldC dS_turnsAtStart_81 ac_13 rfl (by omega) (by decide) ?_
        rw [hs.2.2.2.2.2 (j + 1) hj]
        refine an_ldC dS_turnsAtStart_82 (ac_val hk) rfl (by omega) (by decide) ?_
        rw [(hs.1.1 k hk).2.2.2.2 _ (by omega)]
        refine aw_isub dS_turnsAtStart_83 ?_
        refine aw_abs cg_S_76 dS_turnsAtStart_84 (Nat.le_of_ble_eq_true rfl) (Nat.le_of_ble_eq_true rfl) ⟨Nat.le_refl _, Nat.le_refl _⟩ ?_
        refine an_top (abs_sz _) ?_
        refine si6_5 dS_turnsAtStart_87 (by decide) ?_
        refine aw_iload dS_turnsAtStart_89 rfl ?_
        refine aw_iload dS_turnsAtStart_91 rfl ?_
        refine aw_min cg_S_91 dS_turnsAtStart_93 (Nat.le_of_ble_eq_true rfl) (Nat.le_of_ble_eq_true rfl) ⟨Nat.le_refl _, Nat.le_refl _⟩ ?_
        refine aw_iconst (v := 2) dS_turnsAtStart_96 (by decide) ?_
        refine aw_aload_r dS_turnsAtStart_97 rfl ?_
        refine an_getR hk fg_S_94 dS_turnsAtStart_98 rfl ?_
        rw [(hs.1.1 k hk).2.2.1]
        refine aw_imul dS_turnsAtStart_101 ?_
        refine aw_icmp_le (tgt := 109) dS_turnsAtStart_102 (by decide) (fun c102 => ?_) (fun c102 => ?_)
        · refine aw_iconst (v := 0) dS_turnsAtStart_109 (by decide) ?_
          exact aw_zret rfl (Or.inl rfl) dS_turnsAtStart_110 ⟨rfl, Or.inr ⟨fun z => min_gt.mpr ⟨by rw [← q1]; exact z.2.2.1, by rw [← q1]; exact z.2.2.2⟩ c102, rfl⟩⟩
        · refine aw_iconst (v := 1) dS_turnsAtStart_105 (by decide) ?_
          refine aw_goto (tgt := 110) dS_turnsAtStart_106 (by decide) ?_
          exact aw_zret rfl (Or.inr rfl) dS_turnsAtStart_110 ⟨rfl, Or.inl ⟨⟨q1, (g3 ⟨k1.2.2.2.1, k1.2.2.2.2.1⟩ ⟨k2.2.2.2.1, k2.2.2.2.2.1⟩ (hun q1)).mpr ⟨fun e => c27 (by rw [e]; rfl), fun e => c36 (by rw [e]; rfl)⟩, by rw [q1]; exact (min_gt.mp c102).1, by rw [q1]; exact (min_gt.mp c102).2⟩, rfl⟩⟩
      · refine aw_iconst (v := 0) dS_turnsAtStart_39 (by decide) ?_
        exact aw_zret rfl (Or.inl rfl) dS_turnsAtStart_40 ⟨rfl, Or.inr ⟨fun z => ((g3 ⟨k1.2.2.2.1, k1.2.2.2.2.1⟩ ⟨k2.2.2.2.1, k2.2.2.2.2.1⟩ (hun z.1)).mp z.2.1).2 (nI_inj (b := 3) (by omega) (by decide) c36), rfl⟩⟩

theorem CSh.up {N : Nat → Nat} {V : Nat → Nat → Int32} {K : Nat → Int32} {k : Nat} {I : Nat → Int32} {A : Nat → Nat → Int32} (h : CSh N V K k I A) (x : Int32) (f : Nat → Int32) : CSh N V K k (upd I 1006 x) (va_up A 14 f) := ⟨cinv_s (cinv_a h.1 (by decide) _) (by decide) _, h.2⟩
theorem CSh.up0 {N : Nat → Nat} {V : Nat → Nat → Int32} {K : Nat → Int32} {k : Nat} {I : Nat → Int32} {A : Nat → Nat → Int32} (h : CSh N V K k I A) (x : Int32) : CSh N V K k (upd I 1006 x) A := ⟨cinv_s h.1 (by decide) _, h.2⟩
set_option maxHeartbeats 4000000 in
set_option maxRecDepth 100000 in
theorem l_S_findTurns (N : Nat → Nat) (V : Nat → Nat → Int32) (K : Nat → Int32) (I : Nat → Int32) (A : Nat → Nat → Int32) (hI : CInv N V K I A) (hP : PInv N V K) {k : Nat} (hk : k < 4) : ∀ (n j : Nat) (I1 : Nat → Int32) (A1 : Nat → Nat → Int32), (spc (V k) (N k) (K 8) 40) - 1 - j = n → j ≤ (spc (V k) (N k) (K 8) 40) - 1 → CSh N V K k I1 A1 → I1 1006 = nI (tL (V k) (K k) (spf (V k) (N k) (K 8) 40) (spl (V k) (N k) (K 8) 40) (spg (V k) (N k) (K 8) 40) j).length → AL (A1 14) (tL (V k) (K k) (spf (V k) (N k) (K 8) 40) (spl (V k) (N k) (K 8) 40) (spg (V k) (N k) (K 8) 40) j) → A1 27 = A 27 → AN kS_findTurns 3 (CTQ N V K k A) 7 [some (.ref 10), some (.ref (2 + 2 * k)), some (.int (nI (j + 1)))] [] (hC I1 A1) := by
  have h40 := hI.n k hk
  have hok := sp_ok (v := V k) (n := N k) (p := K 8) 40
  have hc40 := spc_le (v := V k) (n := N k) (p := K 8) 40
  intro n
  induction n with
  | zero =>
    intro j I1 A1 hn hj hs h14 hal h27
    have hjc : j = (spc (V k) (N k) (K 8) 40) - 1 := by omega
    refine aw_iload_n dS_findTurns_7 rfl ?_
    refine aw_aload_r dS_findTurns_8 rfl ?_
    refine aw_get fg_S_29 dS_findTurns_9 rfl rfl ?_
    refine an_top (y := nI (spc (V k) (N k) (K 8) 40)) hs.2.1 ?_
    refine aw_icmp_ge (tgt := 55) dS_findTurns_12 (by decide) (fun c12 => ?_) (fun c12 => absurd (nI_le (by omega) (by omega)) c12)
    exact aw_vret rfl dS_findTurns_55 ⟨rfl, I1, A1, rfl, hs, by unfold turnL; rw [← hjc]; exact h14, by unfold turnL; rw [← hjc]; exact hal, h27⟩
  | succ n ih =>
    intro j I1 A1 hn hj hs h14 hal h27
    have hj1 : j + 1 < (spc (V k) (N k) (K 8) 40) := by omega
    have k1 := hok.1 j (by omega)
    have k2 := hok.1 (j + 1) hj1
    have hln := tL_len (v := V k) (ms := K k) (f := (spf (V k) (N k) (K 8) 40)) (l := (spl (V k) (N k) (K 8) 40)) (g := (spg (V k) (N k) (K 8) 40)) j
    refine aw_iload_n dS_findTurns_7 rfl ?_
    refine aw_aload_r dS_findTurns_8 rfl ?_
    refine aw_get fg_S_29 dS_findTurns_9 rfl rfl ?_
    refine an_top (y := nI (spc (V k) (N k) (K 8) 40)) hs.2.1 ?_
    refine aw_icmp_ge (tgt := 55) dS_findTurns_12 (by decide) (fun c12 => absurd c12 (nI_ge (by omega) (by omega))) (fun c12 => ?_)
    refine aw_aload_r dS_findTurns_15 rfl ?_
    refine aw_aload_r dS_findTurns_16 rfl ?_
    refine aw_iload_n dS_findTurns_17 rfl ?_
    refine an_callVb cg_S_84 (c_S_turnsAtStart N V K I1 A1 hs hk (j := j) hj1) dS_findTurns_18 rfl rfl rfl rfl rfl (Nat.le_of_ble_eq_true rfl) (Nat.le_of_ble_eq_true rfl) (fun p18 => ?_) (fun p18 => ?_)
    · refine aw_if_eq (tgt := 49) dS_findTurns_21 (by decide) (fun q => absurd q (by decide)) (fun _ => ?_)
      refine aw_aload_r dS_findTurns_24 rfl ?_
      refine aw_get fg_S_21 dS_findTurns_25 rfl rfl ?_
      refine aw_aload_r dS_findTurns_28 rfl ?_
      refine aw_get fg_S_33 dS_findTurns_29 rfl rfl ?_
      refine aw_aload_r dS_findTurns_32 rfl ?_
      refine aw_get fg_S_15 dS_findTurns_33 rfl rfl ?_
      refine aw_iload_n dS_findTurns_36 rfl ?_
      refine an_ldC dS_findTurns_37 ac_12 rfl (by omega) (by decide) ?_
      rw [hs.2.2.2.2.1 (j + 1) hj1, ← p18.1]
      refine an_stC dS_findTurns_38 ac_14 h14 (by omega) (by decide) ?_
      refine aw_aload_r dS_findTurns_39 rfl ?_
      refine aw_dup dS_findTurns_40 rfl ?_
      refine aw_get fg_S_33 dS_findTurns_41 rfl rfl ?_
      refine an_top (y := nI (tL (V k) (K k) (spf (V k) (N k) (K 8) 40) (spl (V k) (N k) (K 8) 40) (spg (V k) (N k) (K 8) 40) j).length) h14 ?_
      refine aw_iconst (v := 1) dS_findTurns_44 (by decide) ?_
      refine aw_iadd dS_findTurns_45 ?_
      refine an_top (nI_1 _) ?_
      refine an_putS fp_S_33 dS_findTurns_46 (by decide) ?_
      refine ic3_2 dS_findTurns_49 (nI_1 (j + 1)) (by decide) ?_
      refine aw_goto (tgt := 7) dS_findTurns_52 (by decide) ?_
      have e := tL_t p18
      exact an_weak (ih (j + 1) _ _ (by omega) (by omega) (hs.up _ _) (by rw [e]; simp; exact rfl) (by rw [e]; exact hal.snoc _) h27) ⟨rfl, rfl, rfl, trivial⟩
    · refine aw_if_eq (tgt := 49) dS_findTurns_21 (by decide) (fun _ => ?_) (fun q => absurd q (by decide))
      refine ic3_2 dS_findTurns_49 (nI_1 (j + 1)) (by decide) ?_
      refine aw_goto (tgt := 7) dS_findTurns_52 (by decide) ?_
      have e := tL_f p18
      exact an_weak (ih (j + 1) I1 A1 (by omega) (by omega) hs (by rw [e]; exact h14) (by rw [e]; exact hal) h27) ⟨rfl, rfl, rfl, trivial⟩

set_option maxHeartbeats 4000000 in
set_option maxRecDepth 100000 in
theorem c_S_findTurns (N : Nat → Nat) (V : Nat → Nat → Int32) (K : Nat → Int32) (I : Nat → Int32) (A : Nat → Nat → Int32) (hI : CInv N V K I A) (hP : PInv N V K) {k : Nat} (hk : k < 4) (hs : CSh N V K k I A) : AM kS_findTurns 3 [.ref 10, .ref (2 + 2 * k)] (hC I A) (CTQ N V K k A) := by
  refine AMet.of (by decide) (by simp [Value.category]) (Nat.le_of_ble_eq_true rfl) ?_
  show AN _ _ _ 0 [some _, some _, none] [] _
  refine aw_aload_r dS_findTurns_0 rfl ?_
  refine aw_iconst (v := 0) dS_findTurns_1 (by decide) ?_
  refine an_putS fp_S_33 dS_findTurns_2 (by decide) ?_
  refine aw_iconst (v := 1) dS_findTurns_5 (by decide) ?_
  refine si3_2 dS_findTurns_6 (by decide) ?_
  exact an_weak (l_S_findTurns N V K I A hI hP hk _ 0 _ _ rfl (by omega) (hs.up0 0) rfl AL.nil rfl) ⟨rfl, rfl, rfl, trivial⟩

set_option maxHeartbeats 4000000 in
set_option maxRecDepth 100000 in
theorem c_S_read (N : Nat → Nat) (V : Nat → Nat → Int32) (K : Nat → Int32) (I : Nat → Int32) (A : Nat → Nat → Int32) (hI : CInv N V K I A) (hP : PInv N V K) {k : Nat} (hk : k < 4) : AM kS_read 5 [.ref 10, .ref (2 + 2 * k), .int (K 8)] (hC I A) (CTQ N V K k A) := by
  refine AMet.of (by decide) (by simp [Value.category]) (Nat.le_of_ble_eq_true rfl) ?_
  show AN _ _ _ 0 [some _, some _, some _] [] _
  refine aw_aload_r dS_read_0 rfl ?_
  refine aw_aload_r dS_read_1 rfl ?_
  refine aw_iload_n dS_read_2 rfl ?_
  refine an_callVx cg_S_39 (c_S_weighWays N V K I A hI hP hk) dS_read_3 rfl rfl rfl rfl rfl (Nat.le_of_ble_eq_true rfl) (Nat.le_of_ble_eq_true rfl) ?_
  rintro _ _ ⟨rfl, A1, rfl, h1, hD, e27⟩
  refine aw_aload_r dS_read_6 rfl ?_
  refine aw_aload_r dS_read_7 rfl ?_
  refine aw_iload_n dS_read_8 rfl ?_
  refine an_callVx cg_S_43 (c_S_chooseKinds N V K I A1 h1 hP hk hD) dS_read_9 rfl rfl rfl rfl rfl (Nat.le_of_ble_eq_true rfl) (Nat.le_of_ble_eq_true rfl) ?_
  rintro _ _ ⟨rfl, I2, A2, rfl, h2, e27b⟩
  refine aw_aload_r dS_read_12 rfl ?_
  refine aw_aload_r dS_read_13 rfl ?_
  refine an_callVx cg_S_46 (c_S_findTurns N V K I2 A2 h2.1 hP hk h2) dS_read_14 rfl rfl rfl rfl rfl (Nat.le_of_ble_eq_true rfl) (Nat.le_of_ble_eq_true rfl) ?_
  rintro _ _ ⟨rfl, I3, A3, rfl, h3, e3, a3, e27c⟩
  exact aw_vret rfl dS_read_17 ⟨rfl, I3, A3, rfl, h3, e3, a3, e27c.trans (e27b.trans e27)⟩
