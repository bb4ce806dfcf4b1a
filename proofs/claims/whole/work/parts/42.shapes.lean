set_option maxHeartbeats 4000000 in
set_option maxRecDepth 100000 in
theorem c_E_readShape (N : Nat → Nat) (V : Nat → Nat → Int32) (K : Nat → Int32) (I : Nat → Int32) (A : Nat → Nat → Int32) (hI : CInv N V K I A) (hP : PInv N V K) (r : Int32) : AM kE_readShape 6 [.ref 0, .int r] (hC I A) (RSQ N V K I A r) := by
  refine AMet.of (by decide) (by simp [Value.category]) (Nat.le_of_ble_eq_true rfl) ?_
  show AN _ _ _ 0 [some _, some _, none] [] _
  refine aw_aload_r dE_readShape_0 rfl ?_
  refine aw_iload_n dE_readShape_1 rfl ?_
  refine an_callVx cg_E_60 (c_E_rowOf _ _ _) dE_readShape_2 rfl rfl rfl rfl rfl (Nat.le_of_ble_eq_true rfl) (Nat.le_of_ble_eq_true rfl) ?_
  rintro _ _ ⟨rfl, ⟨k, hk, ek, rfl⟩ | ⟨nk, rfl⟩⟩
  · refine sa3_2 dE_readShape_5 (by decide) ?_
    refine aw_aload_r dE_readShape_6 rfl ?_
    refine an_ifnonnull_r (tgt := 12) dE_readShape_7 (by decide) ?_
    subst ek
    refine aw_aload_r dE_readShape_12 rfl ?_
    refine aw_get fg_E_19 dE_readShape_13 rfl rfl ?_
    refine aw_aload_r dE_readShape_16 rfl ?_
    refine aw_aload_r dE_readShape_17 rfl ?_
    refine aw_get fg_E_41 dE_readShape_18 rfl rfl ?_
    show AN _ _ _ _ _ (.int (I 5) :: _) _
    rw [hI.2.1]
    refine an_callVx cg_E_180 (c_S_read N V K _ _ hI hP hk) dE_readShape_21 rfl rfl rfl rfl rfl (Nat.le_of_ble_eq_true rfl) (Nat.le_of_ble_eq_true rfl) ?_
    rintro _ _ ⟨rfl, I1, A1, rfl, hs, e6, hal, e27⟩
    refine aw_iconst (v := 1) dE_readShape_24 (by decide) ?_
    exact aw_zret rfl (Or.inr rfl) dE_readShape_25 (Or.inr ⟨isRow_n hk, rfl, by rw [rn_n (by omega)]; exact ⟨I1, A1, rfl, hs, e6, hal⟩⟩)
  · refine an_astore_0 dE_readShape_5 (by decide) ?_
    refine an_aload_0 dE_readShape_6 rfl ?_
    refine an_ifnonnull_0 (tgt := 12) dE_readShape_7 (by decide) ?_
    refine aw_iconst (v := 0) dE_readShape_10 (by decide) ?_
    exact aw_zret rfl (Or.inl rfl) dE_readShape_11 (Or.inl ⟨nk, rfl, rfl⟩)

set_option maxHeartbeats 4000000 in
set_option maxRecDepth 100000 in
theorem c_E_spans (N : Nat → Nat) (V : Nat → Nat → Int32) (K : Nat → Int32) (I : Nat → Int32) (A : Nat → Nat → Int32) (hI : CInv N V K I A) (hP : PInv N V K) (r : Int32) : AM kE_spans 7 [.ref 0, .int r] (hC I A) (CR (sp_spans N V K r)) := by
  refine AMet.of (by decide) (by simp [Value.category]) (Nat.le_of_ble_eq_true rfl) ?_
  show AN _ _ _ 0 [some _, some _] [] _
  refine aw_aload_r dE_spans_0 rfl ?_
  refine aw_iload_n dE_spans_1 rfl ?_
  refine an_callVx cg_E_89 (c_E_readShape N V K I A hI hP _) dE_spans_2 rfl rfl rfl rfl rfl (Nat.le_of_ble_eq_true rfl) (Nat.le_of_ble_eq_true rfl) ?_
  rintro _ _ (⟨p2, rfl, rfl⟩ | ⟨p2, rfl, I1, A1, rfl, hs, e6, hal⟩)
  · refine aw_if_eq (tgt := 18) dE_spans_5 (by decide) (fun _ => ?_) (fun q => absurd q (by decide))
    refine aw_iconst (v := (-1)) dE_spans_18 (by decide) ?_
    exact aw_iret rfl dE_spans_19 (by unfold sp_spans; rw [cif_f p2]; exact ⟨rfl, I, A, rfl, hI⟩)
  · refine aw_if_eq (tgt := 18) dE_spans_5 (by decide) (fun q => absurd q (by decide)) (fun _ => ?_)
    refine aw_aload_r dE_spans_8 rfl ?_
    refine aw_get fg_E_19 dE_spans_9 rfl rfl ?_
    refine aw_get fg_E_92 dE_spans_12 rfl rfl ?_
    show AN _ _ _ _ _ (.int (I1 1005) :: _) _
    rw [hs.2.1]
    refine aw_goto (tgt := 19) dE_spans_15 (by decide) ?_
    exact aw_iret rfl dE_spans_19 (by unfold sp_spans; rw [cif_t p2]; exact ⟨rfl, I1, A1, rfl, hs.1⟩)

set_option maxHeartbeats 4000000 in
set_option maxRecDepth 100000 in
theorem c_E_cost (N : Nat → Nat) (V : Nat → Nat → Int32) (K : Nat → Int32) (I : Nat → Int32) (A : Nat → Nat → Int32) (hI : CInv N V K I A) (hP : PInv N V K) (r : Int32) : AM kE_cost 7 [.ref 0, .int r] (hC I A) (CR (sp_cost N V K r)) := by
  refine AMet.of (by decide) (by simp [Value.category]) (Nat.le_of_ble_eq_true rfl) ?_
  show AN _ _ _ 0 [some _, some _] [] _
  refine aw_aload_r dE_cost_0 rfl ?_
  refine aw_iload_n dE_cost_1 rfl ?_
  refine an_callVx cg_E_89 (c_E_readShape N V K I A hI hP _) dE_cost_2 rfl rfl rfl rfl rfl (Nat.le_of_ble_eq_true rfl) (Nat.le_of_ble_eq_true rfl) ?_
  rintro _ _ (⟨p2, rfl, rfl⟩ | ⟨p2, rfl, I1, A1, rfl, hs, e6, hal⟩)
  · refine aw_if_eq (tgt := 18) dE_cost_5 (by decide) (fun _ => ?_) (fun q => absurd q (by decide))
    refine aw_iconst (v := (-1)) dE_cost_18 (by decide) ?_
    exact aw_iret rfl dE_cost_19 (by unfold sp_cost; rw [cif_f p2]; exact ⟨rfl, I, A, rfl, hI⟩)
  · refine aw_if_eq (tgt := 18) dE_cost_5 (by decide) (fun q => absurd q (by decide)) (fun _ => ?_)
    refine aw_aload_r dE_cost_8 rfl ?_
    refine aw_get fg_E_19 dE_cost_9 rfl rfl ?_
    refine aw_get fg_E_95 dE_cost_12 rfl rfl ?_
    show AN _ _ _ _ _ (.int (I1 1007) :: _) _
    obtain ⟨k, hk, rfl⟩ := isRow_k p2
    have h40 := hI.n k hk
    rw [hs.2.2.1, tot_eq (by rw [rn_n (by omega)]; exact h40)]
    refine aw_goto (tgt := 19) dE_cost_15 (by decide) ?_
    exact aw_iret rfl dE_cost_19 (by unfold sp_cost; rw [cif_t p2]; exact ⟨rfl, I1, A1, rfl, hs.1⟩)

set_option maxHeartbeats 4000000 in
set_option maxRecDepth 100000 in
theorem c_E_turnsOf (N : Nat → Nat) (V : Nat → Nat → Int32) (K : Nat → Int32) (I : Nat → Int32) (A : Nat → Nat → Int32) (hI : CInv N V K I A) (hP : PInv N V K) (r : Int32) : AM kE_turnsOf 7 [.ref 0, .int r] (hC I A) (CR (sp_turnsOf N V K r)) := by
  refine AMet.of (by decide) (by simp [Value.category]) (Nat.le_of_ble_eq_true rfl) ?_
  show AN _ _ _ 0 [some _, some _] [] _
  refine aw_aload_r dE_turnsOf_0 rfl ?_
  refine aw_iload_n dE_turnsOf_1 rfl ?_
  refine an_callVx cg_E_89 (c_E_readShape N V K I A hI hP _) dE_turnsOf_2 rfl rfl rfl rfl rfl (Nat.le_of_ble_eq_true rfl) (Nat.le_of_ble_eq_true rfl) ?_
  rintro _ _ (⟨p2, rfl, rfl⟩ | ⟨p2, rfl, I1, A1, rfl, hs, e6, hal⟩)
  · refine aw_if_eq (tgt := 18) dE_turnsOf_5 (by decide) (fun _ => ?_) (fun q => absurd q (by decide))
    refine aw_iconst (v := (-1)) dE_turnsOf_18 (by decide) ?_
    exact aw_iret rfl dE_turnsOf_19 (by unfold sp_turnsOf; rw [cif_f p2]; exact ⟨rfl, I, A, rfl, hI⟩)
  · refine aw_if_eq (tgt := 18) dE_turnsOf_5 (by decide) (fun q => absurd q (by decide)) (fun _ => ?_)
    refine aw_aload_r dE_turnsOf_8 rfl ?_
    refine aw_get fg_E_19 dE_turnsOf_9 rfl rfl ?_
    refine aw_get fg_E_113 dE_turnsOf_12 rfl rfl ?_
    show AN _ _ _ _ _ (.int (I1 1006) :: _) _
    rw [e6]
    refine aw_goto (tgt := 19) dE_turnsOf_15 (by decide) ?_
    exact aw_iret rfl dE_turnsOf_19 (by unfold sp_turnsOf; rw [cif_t p2]; exact ⟨rfl, I1, A1, rfl, hs.1⟩)

set_option maxHeartbeats 4000000 in
set_option maxRecDepth 100000 in
theorem c_E_turn (N : Nat → Nat) (V : Nat → Nat → Int32) (K : Nat → Int32) (I : Nat → Int32) (A : Nat → Nat → Int32) (hI : CInv N V K I A) (hP : PInv N V K) (r j : Int32) : AM kE_turn 7 [.ref 0, .int r, .int j] (hC I A) (CR (sp_turn N V K r j)) := by
  refine AMet.of (by decide) (by simp [Value.category]) (Nat.le_of_ble_eq_true rfl) ?_
  show AN _ _ _ 0 [some _, some _, some _] [] _
  refine aw_aload_r dE_turn_0 rfl ?_
  refine aw_iload_n dE_turn_1 rfl ?_
  refine an_callVx cg_E_89 (c_E_readShape N V K I A hI hP _) dE_turn_2 rfl rfl rfl rfl rfl (Nat.le_of_ble_eq_true rfl) (Nat.le_of_ble_eq_true rfl) ?_
  rintro _ _ (⟨p2, rfl, rfl⟩ | ⟨p2, rfl, I1, A1, rfl, hs, e6, hal⟩)
  · refine aw_if_eq (tgt := 37) dE_turn_5 (by decide) (fun _ => ?_) (fun q => absurd q (by decide))
    refine aw_iconst (v := (-1)) dE_turn_37 (by decide) ?_
    exact aw_iret rfl dE_turn_38 (by unfold sp_turn; rw [cif_f (fun q => p2 q.1)]; exact ⟨rfl, I, A, rfl, hI⟩)
  · refine aw_if_eq (tgt := 37) dE_turn_5 (by decide) (fun q => absurd q (by decide)) (fun _ => ?_)
    have hln : (turnL N V K (rn r)).length ≤ 40 := turnL_len
    refine aw_iload_n dE_turn_8 rfl ?_
    refine aw_iconst (v := 0) dE_turn_9 (by decide) ?_
    refine aw_aload_r dE_turn_10 rfl ?_
    refine aw_get fg_E_19 dE_turn_11 rfl rfl ?_
    refine aw_get fg_E_113 dE_turn_14 rfl rfl ?_
    show AN _ _ _ _ _ (.int (I1 1006) :: _) _
    rw [e6]
    refine aw_iconst (v := 1) dE_turn_17 (by decide) ?_
    refine aw_isub dE_turn_18 ?_
    refine an_callSb cg_E_82 (c_E_within _ _ _ _) dE_turn_19 rfl rfl (Nat.le_of_ble_eq_true rfl) (Nat.le_of_ble_eq_true rfl) (fun p19 => ?_) (fun p19 => ?_)
    · refine aw_if_eq (tgt := 37) dE_turn_22 (by decide) (fun q => absurd q (by decide)) (fun _ => ?_)
      rw [in_pred hln] at p19
      obtain ⟨i, hil, rfl⟩ := in_ix (n := (turnL N V K (rn r)).length) (by omega) p19.1 p19.2
      refine aw_aload_r dE_turn_25 rfl ?_
      refine aw_get fg_E_19 dE_turn_26 rfl rfl ?_
      refine aw_get fg_E_116 dE_turn_29 rfl rfl ?_
      refine aw_iload_n dE_turn_32 rfl ?_
      refine an_ldC dE_turn_33 ac_14 rfl (by omega) (by decide) ?_
      rw [hal i hil]
      refine aw_goto (tgt := 38) dE_turn_34 (by decide) ?_
      exact aw_iret rfl dE_turn_38 (by unfold sp_turn; rw [cif_t ⟨p2, p19⟩, rn_n (k := i) (by omega)]; exact ⟨rfl, I1, A1, rfl, hs.1⟩)
    · refine aw_if_eq (tgt := 37) dE_turn_22 (by decide) (fun _ => ?_) (fun q => absurd q (by decide))
      refine aw_iconst (v := (-1)) dE_turn_37 (by decide) ?_
      exact aw_iret rfl dE_turn_38 (by unfold sp_turn; rw [cif_f (fun q => p19 ((in_pred hln).mpr q.2))]; exact ⟨rfl, I1, A1, rfl, hs.1⟩)

theorem kind_eq {N : Nat → Nat} {V : Nat → Nat → Int32} {K : Nat → Int32} {k i : Nat} (hN : ∀ k, k < 4 → N k ≤ 40) (hk : k < 4) (hi : i < 40) : cif (IsStp N (nI k) (nI i)) (nI (kq (V (rn (nI k))) (N (rn (nI k))) (K 8) (rn (nI i)))) 0 = nI (kq (V k) (N k) (K 8) i) := by
  rw [rn_n (k := k) (by omega), rn_n (k := i) (by omega)]
  by_cases q : i < N k
  · rw [cif_t ⟨k, i, hk, q, rfl, rfl⟩]
  · rw [cif_f (fun z => by obtain ⟨i2, h2, e⟩ := stp_i hN hk z; have := hN k hk; have := nI_inj (by omega) (by omega) e; omega), kq_hi (by omega)]; rfl
set_option maxHeartbeats 4000000 in
set_option maxRecDepth 100000 in
theorem c_E_kind (N : Nat → Nat) (V : Nat → Nat → Int32) (K : Nat → Int32) (I : Nat → Int32) (A : Nat → Nat → Int32) (hI : CInv N V K I A) (hP : PInv N V K) (r s : Int32) : AM kE_kind 7 [.ref 0, .int r, .int s] (hC I A) (CR (sp_kind N V K r s)) := by
  refine AMet.of (by decide) (by simp [Value.category]) (Nat.le_of_ble_eq_true rfl) ?_
  show AN _ _ _ 0 [some _, some _, some _] [] _
  refine aw_iload_n dE_kind_0 rfl ?_
  refine aw_iconst (v := 0) dE_kind_1 (by decide) ?_
  refine aw_bipush (v := 39) dE_kind_2 (by decide) ?_
  refine an_callSb cg_E_82 (c_E_within _ _ _ _) dE_kind_4 rfl rfl (Nat.le_of_ble_eq_true rfl) (Nat.le_of_ble_eq_true rfl) (fun p4 => ?_) (fun p4 => ?_)
  · refine aw_if_eq (tgt := 30) dE_kind_7 (by decide) (fun q => absurd q (by decide)) (fun _ => ?_)
    refine aw_aload_r dE_kind_10 rfl ?_
    refine aw_iload_n dE_kind_11 rfl ?_
    refine an_callVx cg_E_89 (c_E_readShape N V K I A hI hP _) dE_kind_12 rfl rfl rfl rfl rfl (Nat.le_of_ble_eq_true rfl) (Nat.le_of_ble_eq_true rfl) ?_
    rintro _ _ (⟨p12, rfl, rfl⟩ | ⟨p12, rfl, I1, A1, rfl, hs, e6, hal⟩)
    · refine aw_if_eq (tgt := 30) dE_kind_15 (by decide) (fun _ => ?_) (fun q => absurd q (by decide))
      refine aw_iconst (v := 0) dE_kind_30 (by decide) ?_
      exact aw_iret rfl dE_kind_31 (by unfold sp_kind; rw [cif_f (fun q => p12 (stp_row q))]; exact ⟨rfl, I, A, rfl, hI⟩)
    · refine aw_if_eq (tgt := 30) dE_kind_15 (by decide) (fun q => absurd q (by decide)) (fun _ => ?_)
      unfold In at p4
      rw [z_0, z_39] at p4
      obtain ⟨i, hi, rfl⟩ := in_ix (n := 40) (by decide) p4.1 (by omega)
      obtain ⟨k, hk, rfl⟩ := isRow_k p12
      have h40 := hI.n k hk
      rw [rn_n (k := k) (by omega)] at hs
      refine aw_aload_r dE_kind_18 rfl ?_
      refine aw_get fg_E_19 dE_kind_19 rfl rfl ?_
      refine aw_get fg_E_110 dE_kind_22 rfl rfl ?_
      refine aw_iload_n dE_kind_25 rfl ?_
      refine an_ldC dE_kind_26 ac_11 rfl hi (by decide) ?_
      rw [hs.2.2.2.1 i hi]
      refine aw_goto (tgt := 31) dE_kind_27 (by decide) ?_
      exact aw_iret rfl dE_kind_31 (by unfold sp_kind; rw [kind_eq hI.n hk hi]; exact ⟨rfl, I1, A1, rfl, hs.1⟩)
  · refine aw_if_eq (tgt := 30) dE_kind_7 (by decide) (fun _ => ?_) (fun q => absurd q (by decide))
    refine aw_iconst (v := 0) dE_kind_30 (by decide) ?_
    exact aw_iret rfl dE_kind_31 (by unfold sp_kind; rw [cif_f (fun q => p4 (by obtain ⟨k, i, hk, hi, rfl, rfl⟩ := q; have := hI.n k hk; unfold In; rw [z_0, z_39, nI_toInt (by omega)]; omega))]; exact ⟨rfl, I, A, rfl, hI⟩)

set_option maxHeartbeats 4000000 in
set_option maxRecDepth 100000 in
theorem c_E_span (N : Nat → Nat) (V : Nat → Nat → Int32) (K : Nat → Int32) (I : Nat → Int32) (A : Nat → Nat → Int32) (hI : CInv N V K I A) (hP : PInv N V K) (r j w : Int32) : AM kE_span 7 [.ref 0, .int r, .int j, .int w] (hC I A) (CR (sp_span N V K r j w)) := by
  refine AMet.of (by decide) (by simp [Value.category]) (Nat.le_of_ble_eq_true rfl) ?_
  show AN _ _ _ 0 [some _, some _, some _, some _] [] _
  refine aw_aload_r dE_span_0 rfl ?_
  refine aw_iload_n dE_span_1 rfl ?_
  refine an_callVx cg_E_89 (c_E_readShape N V K I A hI hP _) dE_span_2 rfl rfl rfl rfl rfl (Nat.le_of_ble_eq_true rfl) (Nat.le_of_ble_eq_true rfl) ?_
  rintro _ _ (⟨p2, rfl, rfl⟩ | ⟨p2, rfl, I1, A1, rfl, hs, e6, hal⟩)
  · refine aw_if_eq (tgt := 19) dE_span_5 (by decide) (fun _ => ?_) (fun q => absurd q (by decide))
    refine aw_iconst (v := (-1)) dE_span_19 (by decide) ?_
    exact aw_iret rfl dE_span_20 (by unfold sp_span; rw [cif_f (fun q => p2 q.1)]; exact ⟨rfl, I, A, rfl, hI⟩)
  · refine aw_if_eq (tgt := 19) dE_span_5 (by decide) (fun q => absurd q (by decide)) (fun _ => ?_)
    refine aw_aload_r dE_span_8 rfl ?_
    refine aw_get fg_E_19 dE_span_9 rfl rfl ?_
    refine aw_iload_n dE_span_12 rfl ?_
    refine an_callVb cg_E_98 (c_S_hasSpan I1 A1 hs.2.1 cS_le j) dE_span_13 rfl rfl rfl rfl rfl (Nat.le_of_ble_eq_true rfl) (Nat.le_of_ble_eq_true rfl) (fun p13 => ?_) (fun p13 => ?_)
    · refine aw_if_ne (tgt := 21) dE_span_16 (by decide) (fun _ => ?_) (fun q => absurd q (by decide))
      have hcl : (cS N V K (rn r)) ≤ 40 := cS_le
      obtain ⟨i, hil, rfl⟩ := in_ix (n := (cS N V K (rn r))) (by omega) p13.1 p13.2
      refine aw_iload_n dE_span_21 rfl ?_
      rcases sw3 w with rfl | rfl | rfl | sout
      · refine an_tabI (off := 26) (tgt := 48) dE_span_22 (by decide) (by decide) rfl (by decide) ?_
        refine aw_aload_r dE_span_48 rfl ?_
        refine aw_get fg_E_19 dE_span_49 rfl rfl ?_
        refine aw_iload_n dE_span_52 rfl ?_
        refine an_callVr cg_E_101 (c_S_kindOfSpan N V K I1 A1 hs hil) dE_span_53 rfl rfl rfl rfl rfl (Nat.le_of_ble_eq_true rfl) (Nat.le_of_ble_eq_true rfl) ?_
        exact aw_iret rfl dE_span_56 (by unfold sp_span; rw [cif_t ⟨p2, p13, by decide, by decide⟩, if_pos rfl, rn_n (k := i) (by omega)]; exact ⟨rfl, I1, A1, rfl, hs.1⟩)
      · refine an_tabI (off := 35) (tgt := 57) dE_span_22 (by decide) (by decide) rfl (by decide) ?_
        refine aw_aload_r dE_span_57 rfl ?_
        refine aw_get fg_E_19 dE_span_58 rfl rfl ?_
        refine aw_get fg_E_104 dE_span_61 rfl rfl ?_
        refine aw_iload_n dE_span_64 rfl ?_
        refine an_ldC dE_span_65 ac_12 rfl (by omega) (by decide) ?_
        rw [hs.2.2.2.2.1 i hil]
        exact aw_iret rfl dE_span_66 (by unfold sp_span; rw [cif_t ⟨p2, p13, by decide, by decide⟩, if_neg (by decide), if_pos rfl, rn_n (k := i) (by omega)]; exact ⟨rfl, I1, A1, rfl, hs.1⟩)
      · refine an_tabI (off := 45) (tgt := 67) dE_span_22 (by decide) (by decide) rfl (by decide) ?_
        refine aw_aload_r dE_span_67 rfl ?_
        refine aw_get fg_E_19 dE_span_68 rfl rfl ?_
        refine aw_get fg_E_107 dE_span_71 rfl rfl ?_
        refine aw_iload_n dE_span_74 rfl ?_
        refine an_ldC dE_span_75 ac_13 rfl (by omega) (by decide) ?_
        rw [hs.2.2.2.2.2 i hil]
        exact aw_iret rfl dE_span_76 (by unfold sp_span; rw [cif_t ⟨p2, p13, by decide, by decide⟩, if_neg (by decide), if_neg (by decide), rn_n (k := i) (by omega)]; exact ⟨rfl, I1, A1, rfl, hs.1⟩)
      · refine an_tabO (tgt := 77) dE_span_22 sout (by decide) ?_
        refine aw_iconst (v := (-1)) dE_span_77 (by decide) ?_
        exact aw_iret rfl dE_span_78 (by unfold sp_span; rw [cif_f (fun q => by have := q.2.2; omega)]; exact ⟨rfl, I1, A1, rfl, hs.1⟩)
    · refine aw_if_ne (tgt := 21) dE_span_16 (by decide) (fun q => absurd q (by decide)) (fun _ => ?_)
      refine aw_iconst (v := (-1)) dE_span_19 (by decide) ?_
      exact aw_iret rfl dE_span_20 (by unfold sp_span; rw [cif_f (fun q => p13 q.2.1)]; exact ⟨rfl, I1, A1, rfl, hs.1⟩)

set_option maxHeartbeats 4000000 in
set_option maxRecDepth 100000 in
theorem c_T_spans (N : Nat → Nat) (V : Nat → Nat → Int32) (K : Nat → Int32) (J : Nat → Int32) (B : Nat → Nat → Int32) (hI : TInv N V K J B) (hP : PInv N V K) (r : Int32) : AM kT_spans 8 [.ref 0, .int r] (hT J B) (TR (sp_spans N V K r)) := by
  refine AMet.of (by decide) (by simp [Value.category]) (Nat.le_of_ble_eq_true rfl) ?_
  show AN _ _ _ 0 [some _, some _] [] _
  refine aw_iload_n dT_spans_0 rfl ?_
  refine an_callSb cg_T_72 (c_T_isRow _ _) dT_spans_1 rfl rfl (Nat.le_of_ble_eq_true rfl) (Nat.le_of_ble_eq_true rfl) (fun p1 => ?_) (fun p1 => ?_)
  · refine aw_if_ne (tgt := 9) dT_spans_4 (by decide) (fun _ => ?_) (fun q => absurd q (by decide))
    obtain ⟨k, hk, rfl⟩ := isRow_k p1
    refine aw_aload_r dT_spans_9 rfl ?_
    refine aw_iload_n dT_spans_10 rfl ?_
    refine an_callVx cg_T_112 (c_T_shapes N V K _ _ hI hP hk) dT_spans_11 rfl rfl rfl rfl rfl (Nat.le_of_ble_eq_true rfl) (Nat.le_of_ble_eq_true rfl) ?_
    rintro _ _ ⟨rfl, J1, B1, rfl, hs⟩
    refine aw_aload_r dT_spans_14 rfl ?_
    refine aw_get fg_T_106 dT_spans_15 rfl rfl ?_
    rw [hs.2.1]
    exact aw_iret rfl dT_spans_18 (by unfold sp_spans; rw [cif_t p1, rn_n (by omega)]; exact ⟨rfl, J1, B1, rfl, hs.1⟩)
  · refine aw_if_ne (tgt := 9) dT_spans_4 (by decide) (fun q => absurd q (by decide)) (fun _ => ?_)
    refine aw_iconst (v := (-1)) dT_spans_7 (by decide) ?_
    exact aw_iret rfl dT_spans_8 (by unfold sp_spans; rw [cif_f p1]; exact ⟨rfl, J, B, rfl, hI⟩)

set_option maxHeartbeats 4000000 in
set_option maxRecDepth 100000 in
theorem c_T_cost (N : Nat → Nat) (V : Nat → Nat → Int32) (K : Nat → Int32) (J : Nat → Int32) (B : Nat → Nat → Int32) (hI : TInv N V K J B) (hP : PInv N V K) (r : Int32) : AM kT_cost 8 [.ref 0, .int r] (hT J B) (TR (sp_cost N V K r)) := by
  refine AMet.of (by decide) (by simp [Value.category]) (Nat.le_of_ble_eq_true rfl) ?_
  show AN _ _ _ 0 [some _, some _] [] _
  refine aw_iload_n dT_cost_0 rfl ?_
  refine an_callSb cg_T_72 (c_T_isRow _ _) dT_cost_1 rfl rfl (Nat.le_of_ble_eq_true rfl) (Nat.le_of_ble_eq_true rfl) (fun p1 => ?_) (fun p1 => ?_)
  · refine aw_if_ne (tgt := 9) dT_cost_4 (by decide) (fun _ => ?_) (fun q => absurd q (by decide))
    obtain ⟨k, hk, rfl⟩ := isRow_k p1
    refine aw_aload_r dT_cost_9 rfl ?_
    refine aw_iload_n dT_cost_10 rfl ?_
    refine an_callVx cg_T_112 (c_T_shapes N V K _ _ hI hP hk) dT_cost_11 rfl rfl rfl rfl rfl (Nat.le_of_ble_eq_true rfl) (Nat.le_of_ble_eq_true rfl) ?_
    rintro _ _ ⟨rfl, J1, B1, rfl, hs⟩
    refine aw_aload_r dT_cost_14 rfl ?_
    refine aw_get fg_T_109 dT_cost_15 rfl rfl ?_
    rw [hs.2.2.1]
    exact aw_iret rfl dT_cost_18 (by unfold sp_cost; rw [cif_t p1, rn_n (by omega)]; exact ⟨rfl, J1, B1, rfl, hs.1⟩)
  · refine aw_if_ne (tgt := 9) dT_cost_4 (by decide) (fun q => absurd q (by decide)) (fun _ => ?_)
    refine aw_iconst (v := (-1)) dT_cost_7 (by decide) ?_
    exact aw_iret rfl dT_cost_8 (by unfold sp_cost; rw [cif_f p1]; exact ⟨rfl, J, B, rfl, hI⟩)

set_option maxHeartbeats 4000000 in
set_option maxRecDepth 100000 in
theorem c_T_turnsOf (N : Nat → Nat) (V : Nat → Nat → Int32) (K : Nat → Int32) (J : Nat → Int32) (B : Nat → Nat → Int32) (hI : TInv N V K J B) (hP : PInv N V K) (r : Int32) : AM kT_turnsOf 8 [.ref 0, .int r] (hT J B) (TR (sp_turnsOf N V K r)) := by
  refine AMet.of (by decide) (by simp [Value.category]) (Nat.le_of_ble_eq_true rfl) ?_
  show AN _ _ _ 0 [some _, some _] [] _
  refine aw_iload_n dT_turnsOf_0 rfl ?_
  refine an_callSb cg_T_72 (c_T_isRow _ _) dT_turnsOf_1 rfl rfl (Nat.le_of_ble_eq_true rfl) (Nat.le_of_ble_eq_true rfl) (fun p1 => ?_) (fun p1 => ?_)
  · refine aw_if_ne (tgt := 9) dT_turnsOf_4 (by decide) (fun _ => ?_) (fun q => absurd q (by decide))
    obtain ⟨k, hk, rfl⟩ := isRow_k p1
    refine aw_aload_r dT_turnsOf_9 rfl ?_
    refine aw_iload_n dT_turnsOf_10 rfl ?_
    refine an_callVx cg_T_122 (c_T_turnsIn N V K _ _ hI hP hk) dT_turnsOf_11 rfl rfl rfl rfl rfl (Nat.le_of_ble_eq_true rfl) (Nat.le_of_ble_eq_true rfl) ?_
    rintro _ _ ⟨rfl, J1, B1, rfl, hs, e14, hal⟩
    refine aw_aload_r dT_turnsOf_14 rfl ?_
    refine aw_get fg_T_115 dT_turnsOf_15 rfl rfl ?_
    rw [e14]
    exact aw_iret rfl dT_turnsOf_18 (by unfold sp_turnsOf; rw [cif_t p1, rn_n (by omega)]; exact ⟨rfl, J1, B1, rfl, hs.1⟩)
  · refine aw_if_ne (tgt := 9) dT_turnsOf_4 (by decide) (fun q => absurd q (by decide)) (fun _ => ?_)
    refine aw_iconst (v := (-1)) dT_turnsOf_7 (by decide) ?_
    exact aw_iret rfl dT_turnsOf_8 (by unfold sp_turnsOf; rw [cif_f p1]; exact ⟨rfl, J, B, rfl, hI⟩)

set_option maxHeartbeats 4000000 in
set_option maxRecDepth 100000 in
theorem c_T_span (N : Nat → Nat) (V : Nat → Nat → Int32) (K : Nat → Int32) (J : Nat → Int32) (B : Nat → Nat → Int32) (hI : TInv N V K J B) (hP : PInv N V K) (r j w : Int32) : AM kT_span 8 [.ref 0, .int r, .int j, .int w] (hT J B) (TR (sp_span N V K r j w)) := by
  refine AMet.of (by decide) (by simp [Value.category]) (Nat.le_of_ble_eq_true rfl) ?_
  show AN _ _ _ 0 [some _, some _, some _, some _] [] _
  refine aw_iload_n dT_span_0 rfl ?_
  refine an_callSb cg_T_72 (c_T_isRow _ _) dT_span_1 rfl rfl (Nat.le_of_ble_eq_true rfl) (Nat.le_of_ble_eq_true rfl) (fun p1 => ?_) (fun p1 => ?_)
  · refine aw_if_eq (tgt := 20) dT_span_4 (by decide) (fun q => absurd q (by decide)) (fun _ => ?_)
    refine aw_iload_n dT_span_7 rfl ?_
    refine aw_if_lt (tgt := 20) dT_span_8 (by decide) (fun c8 => ?_) (fun c8 => ?_)
    · refine aw_iconst (v := (-1)) dT_span_20 (by decide) ?_
      exact aw_iret rfl dT_span_21 (by unfold sp_span; rw [cif_f (fun q => by have := q.2.1.1; rw [lt_T, z_0] at c8; omega)]; exact ⟨rfl, J, B, rfl, hI⟩)
    · refine aw_iload_n dT_span_11 rfl ?_
      refine aw_if_lt (tgt := 20) dT_span_12 (by decide) (fun c12 => ?_) (fun c12 => ?_)
      · refine aw_iconst (v := (-1)) dT_span_20 (by decide) ?_
        exact aw_iret rfl dT_span_21 (by unfold sp_span; rw [cif_f (fun q => by have := q.2.2.1; rw [lt_T, z_0] at c12; omega)]; exact ⟨rfl, J, B, rfl, hI⟩)
      · refine aw_iload_n dT_span_15 rfl ?_
        refine aw_iconst (v := 2) dT_span_16 (by decide) ?_
        refine aw_icmp_le (tgt := 22) dT_span_17 (by decide) (fun c17 => ?_) (fun c17 => ?_)
        · obtain ⟨k, hk, rfl⟩ := isRow_k p1
          have hcl : cS N V K k ≤ 40 := cS_le
          refine aw_aload_r dT_span_22 rfl ?_
          refine aw_iload_n dT_span_23 rfl ?_
          refine an_callVx cg_T_112 (c_T_shapes N V K _ _ hI hP hk) dT_span_24 rfl rfl rfl rfl rfl (Nat.le_of_ble_eq_true rfl) (Nat.le_of_ble_eq_true rfl) ?_
          rintro _ _ ⟨rfl, J1, B1, rfl, hs⟩
          refine aw_iload_n dT_span_27 rfl ?_
          refine aw_aload_r dT_span_28 rfl ?_
          refine aw_get fg_T_106 dT_span_29 rfl rfl ?_
          refine an_top (y := nI (cS N V K k)) hs.2.1 ?_
          refine aw_icmp_lt (tgt := 37) dT_span_32 (by decide) (fun c32 => ?_) (fun c32 => ?_)
          · have hji : 0 ≤ j.toInt ∧ j.toInt < (cS N V K k : Int) := by
              rw [lt_T, nI_toInt (by omega)] at c32
              rw [lt_T, z_0] at c8
              omega
            obtain ⟨i, hil, rfl⟩ := in_ix (n := cS N V K k) (by omega) hji.1 hji.2
            refine aw_iload_n dT_span_37 rfl ?_
            refine aw_if_ne (tgt := 50) dT_span_38 (by decide) (fun c38 => ?_) (fun c38 => ?_)
            · refine aw_iload_n dT_span_50 rfl ?_
              refine aw_iconst (v := 1) dT_span_51 (by decide) ?_
              refine aw_icmp_ne (tgt := 64) dT_span_52 (by decide) (fun c52 => ?_) (fun c52 => ?_)
              · refine aw_aload_r dT_span_64 rfl ?_
                refine aw_get fg_T_41 dT_span_65 rfl rfl ?_
                refine aw_iload_n dT_span_68 rfl ?_
                refine an_ldT dT_span_69 at_9 rfl (by omega) (by decide) ?_
                rw [hs.2.2.2.2.2.2 i hil]
                exact aw_iret rfl dT_span_70 (by unfold sp_span; rw [rn_n (k := k) (by omega), cif_t ⟨p1, ⟨by omega, by omega⟩, by rw [lt_T, z_0] at c12; omega, by rw [le_T, z_2] at c17; exact c17⟩, if_neg c38, if_neg c52, rn_n (k := i) (by omega)]; exact ⟨rfl, J1, B1, rfl, hs.1⟩)
              · refine aw_aload_r dT_span_55 rfl ?_
                refine aw_get fg_T_38 dT_span_56 rfl rfl ?_
                refine aw_iload_n dT_span_59 rfl ?_
                refine an_ldT dT_span_60 at_8 rfl (by omega) (by decide) ?_
                rw [hs.2.2.2.2.2.1 i hil]
                refine aw_goto (tgt := 70) dT_span_61 (by decide) ?_
                exact aw_iret rfl dT_span_70 (by unfold sp_span; rw [rn_n (k := k) (by omega), cif_t ⟨p1, ⟨by omega, by omega⟩, by rw [lt_T, z_0] at c12; omega, by rw [le_T, z_2] at c17; exact c17⟩, if_neg c38, if_pos c52, rn_n (k := i) (by omega)]; exact ⟨rfl, J1, B1, rfl, hs.1⟩)
            · refine aw_aload_r dT_span_41 rfl ?_
              refine aw_get fg_T_35 dT_span_42 rfl rfl ?_
              refine aw_iload_n dT_span_45 rfl ?_
              refine an_ldT dT_span_46 at_7 rfl (by omega) (by decide) ?_
              rw [hs.2.2.2.2.1 i hil]
              refine aw_goto (tgt := 70) dT_span_47 (by decide) ?_
              exact aw_iret rfl dT_span_70 (by unfold sp_span; rw [rn_n (k := k) (by omega), cif_t ⟨p1, ⟨by omega, by omega⟩, by rw [lt_T, z_0] at c12; omega, by rw [le_T, z_2] at c17; exact c17⟩, if_pos c38, rn_n (k := i) (by omega)]; exact ⟨rfl, J1, B1, rfl, hs.1⟩)
          · refine aw_iconst (v := (-1)) dT_span_35 (by decide) ?_
            exact aw_iret rfl dT_span_36 (by unfold sp_span; rw [rn_n (k := k) (by omega), cif_f (fun q => by have := q.2.1.2; rw [lt_T, nI_toInt (by omega)] at c32; omega)]; exact ⟨rfl, J1, B1, rfl, hs.1⟩)
        · refine aw_iconst (v := (-1)) dT_span_20 (by decide) ?_
          exact aw_iret rfl dT_span_21 (by unfold sp_span; rw [cif_f (fun q => by have := q.2.2.2; rw [le_T, z_2] at c17; omega)]; exact ⟨rfl, J, B, rfl, hI⟩)
  · refine aw_if_eq (tgt := 20) dT_span_4 (by decide) (fun _ => ?_) (fun q => absurd q (by decide))
    refine aw_iconst (v := (-1)) dT_span_20 (by decide) ?_
    exact aw_iret rfl dT_span_21 (by unfold sp_span; rw [cif_f (fun q => p1 q.1)]; exact ⟨rfl, J, B, rfl, hI⟩)

set_option maxHeartbeats 4000000 in
set_option maxRecDepth 100000 in
theorem c_T_kind (N : Nat → Nat) (V : Nat → Nat → Int32) (K : Nat → Int32) (J : Nat → Int32) (B : Nat → Nat → Int32) (hI : TInv N V K J B) (hP : PInv N V K) (r s : Int32) : AM kT_kind 8 [.ref 0, .int r, .int s] (hT J B) (TR (sp_kind N V K r s)) := by
  refine AMet.of (by decide) (by simp [Value.category]) (Nat.le_of_ble_eq_true rfl) ?_
  show AN _ _ _ 0 [some _, some _, some _] [] _
  refine aw_aload_r dT_kind_0 rfl ?_
  refine aw_iload_n dT_kind_1 rfl ?_
  refine aw_iload_n dT_kind_2 rfl ?_
  refine an_callVb cg_T_76 (c_T_isStep _ _ _ _ _ hI _ _) dT_kind_3 rfl rfl rfl rfl rfl (Nat.le_of_ble_eq_true rfl) (Nat.le_of_ble_eq_true rfl) (fun p3 => ?_) (fun p3 => ?_)
  · refine aw_if_ne (tgt := 11) dT_kind_6 (by decide) (fun _ => ?_) (fun q => absurd q (by decide))
    obtain ⟨k, i, hk, hi, rfl, rfl⟩ := id p3
    have h40 := hI.n k hk
    refine aw_aload_r dT_kind_11 rfl ?_
    refine aw_iload_n dT_kind_12 rfl ?_
    refine an_callVx cg_T_112 (c_T_shapes N V K _ _ hI hP hk) dT_kind_13 rfl rfl rfl rfl rfl (Nat.le_of_ble_eq_true rfl) (Nat.le_of_ble_eq_true rfl) ?_
    rintro _ _ ⟨rfl, J1, B1, rfl, hs⟩
    refine aw_aload_r dT_kind_16 rfl ?_
    refine aw_get fg_T_29 dT_kind_17 rfl rfl ?_
    refine aw_iload_n dT_kind_20 rfl ?_
    refine an_ldT dT_kind_21 at_5 rfl (by omega) (by decide) ?_
    rw [hs.2.2.2.1 i hi]
    exact aw_iret rfl dT_kind_22 (by unfold sp_kind; rw [cif_t p3, rn_n (by omega), rn_n (by omega)]; exact ⟨rfl, J1, B1, rfl, hs.1⟩)
  · refine aw_if_ne (tgt := 11) dT_kind_6 (by decide) (fun q => absurd q (by decide)) (fun _ => ?_)
    refine aw_iconst (v := 0) dT_kind_9 (by decide) ?_
    exact aw_iret rfl dT_kind_10 (by unfold sp_kind; rw [cif_f p3]; exact ⟨rfl, J, B, rfl, hI⟩)

set_option maxHeartbeats 4000000 in
set_option maxRecDepth 100000 in
theorem c_T_turn (N : Nat → Nat) (V : Nat → Nat → Int32) (K : Nat → Int32) (J : Nat → Int32) (B : Nat → Nat → Int32) (hI : TInv N V K J B) (hP : PInv N V K) (r j : Int32) : AM kT_turn 8 [.ref 0, .int r, .int j] (hT J B) (TR (sp_turn N V K r j)) := by
  refine AMet.of (by decide) (by simp [Value.category]) (Nat.le_of_ble_eq_true rfl) ?_
  show AN _ _ _ 0 [some _, some _, some _] [] _
  refine aw_iload_n dT_turn_0 rfl ?_
  refine an_callSb cg_T_72 (c_T_isRow _ _) dT_turn_1 rfl rfl (Nat.le_of_ble_eq_true rfl) (Nat.le_of_ble_eq_true rfl) (fun p1 => ?_) (fun p1 => ?_)
  · refine aw_if_eq (tgt := 11) dT_turn_4 (by decide) (fun q => absurd q (by decide)) (fun _ => ?_)
    refine aw_iload_n dT_turn_7 rfl ?_
    refine aw_if_ge (tgt := 13) dT_turn_8 (by decide) (fun c8 => ?_) (fun c8 => ?_)
    · obtain ⟨k, hk, rfl⟩ := isRow_k p1
      have hln := turnL_len (N := N) (V := V) (K := K) (k := k)
      refine aw_aload_r dT_turn_13 rfl ?_
      refine aw_iload_n dT_turn_14 rfl ?_
      refine an_callVx cg_T_122 (c_T_turnsIn N V K _ _ hI hP hk) dT_turn_15 rfl rfl rfl rfl rfl (Nat.le_of_ble_eq_true rfl) (Nat.le_of_ble_eq_true rfl) ?_
      rintro _ _ ⟨rfl, J1, B1, rfl, hs, e14, hal⟩
      refine aw_iload_n dT_turn_18 rfl ?_
      refine aw_aload_r dT_turn_19 rfl ?_
      refine aw_get fg_T_115 dT_turn_20 rfl rfl ?_
      rw [e14]
      refine aw_icmp_ge (tgt := 35) dT_turn_23 (by decide) (fun c23 => ?_) (fun c23 => ?_)
      · refine aw_iconst (v := (-1)) dT_turn_35 (by decide) ?_
        exact aw_iret rfl dT_turn_36 (by unfold sp_turn; rw [rn_n (k := k) (by omega), cif_f (fun q => by have := q.2.2; rw [le_T, nI_toInt (by omega)] at c23; omega)]; exact ⟨rfl, J1, B1, rfl, hs.1⟩)
      · have hji : 0 ≤ j.toInt ∧ j.toInt < ((turnL N V K k).length : Int) := by
          rw [le_T, nI_toInt (by omega)] at c23
          rw [le_T, z_0] at c8
          omega
        obtain ⟨i, hil, rfl⟩ := in_ix (n := (turnL N V K k).length) (by omega) hji.1 hji.2
        refine aw_aload_r dT_turn_26 rfl ?_
        refine aw_get fg_T_44 dT_turn_27 rfl rfl ?_
        refine aw_iload_n dT_turn_30 rfl ?_
        refine an_ldT dT_turn_31 at_10 rfl (by omega) (by decide) ?_
        rw [hal i hil]
        refine aw_goto (tgt := 36) dT_turn_32 (by decide) ?_
        exact aw_iret rfl dT_turn_36 (by unfold sp_turn; rw [rn_n (k := k) (by omega), cif_t ⟨p1, hji⟩, rn_n (k := i) (by omega)]; exact ⟨rfl, J1, B1, rfl, hs.1⟩)
    · refine aw_iconst (v := (-1)) dT_turn_11 (by decide) ?_
      exact aw_iret rfl dT_turn_12 (by unfold sp_turn; rw [cif_f (fun q => c8 (by rw [le_T, z_0]; exact q.2.1))]; exact ⟨rfl, J, B, rfl, hI⟩)
  · refine aw_if_eq (tgt := 11) dT_turn_4 (by decide) (fun _ => ?_) (fun q => absurd q (by decide))
    refine aw_iconst (v := (-1)) dT_turn_11 (by decide) ?_
    exact aw_iret rfl dT_turn_12 (by unfold sp_turn; rw [cif_f (fun q => p1 q.1)]; exact ⟨rfl, J, B, rfl, hI⟩)
