set_option maxHeartbeats 4000000 in
set_option maxRecDepth 100000 in
theorem c_T_isRow (h : List AC) (r : Int32) : AM kT_isRow 1 [.int r] (h) (BQ (IsRow r) h) := by
  refine AMet.of (by decide) (by simp [Value.category]) (Nat.le_of_ble_eq_true rfl) ?_
  refine aw_iload_n dT_isRow_0 rfl ?_
  refine aw_if_lt (tgt := 13) dT_isRow_1 (by decide) (fun c1 => ?_) (fun c1 => ?_)
  · refine aw_iconst (v := 0) dT_isRow_13 (by decide) ?_
    exact aw_zret rfl (Or.inl rfl) dT_isRow_14 ⟨rfl, Or.inr ⟨(by simp only [IsRow, Int32.lt_iff_toInt_lt, Int32.le_iff_toInt_le, ← Int32.toInt_inj, z_0, z_1, z_2, z_3, z_4, z_5, z_20, z_39, z_40, z_60, z_100, z_200, z_1000, z_2000, z_10000, z_m1, z_m2, z_m1000, z_m5000, z_far] at c1 ⊢; omega), rfl⟩⟩
  · refine aw_iload_n dT_isRow_4 rfl ?_
    refine aw_iconst (v := 4) dT_isRow_5 (by decide) ?_
    refine aw_icmp_ge (tgt := 13) dT_isRow_6 (by decide) (fun c6 => ?_) (fun c6 => ?_)
    · refine aw_iconst (v := 0) dT_isRow_13 (by decide) ?_
      exact aw_zret rfl (Or.inl rfl) dT_isRow_14 ⟨rfl, Or.inr ⟨(by simp only [IsRow, Int32.lt_iff_toInt_lt, Int32.le_iff_toInt_le, ← Int32.toInt_inj, z_0, z_1, z_2, z_3, z_4, z_5, z_20, z_39, z_40, z_60, z_100, z_200, z_1000, z_2000, z_10000, z_m1, z_m2, z_m1000, z_m5000, z_far] at c1 c6 ⊢; omega), rfl⟩⟩
    · refine aw_iconst (v := 1) dT_isRow_9 (by decide) ?_
      refine aw_goto (tgt := 14) dT_isRow_10 (by decide) ?_
      exact aw_zret rfl (Or.inr rfl) dT_isRow_14 ⟨rfl, Or.inl ⟨(by simp only [IsRow, Int32.lt_iff_toInt_lt, Int32.le_iff_toInt_le, ← Int32.toInt_inj, z_0, z_1, z_2, z_3, z_4, z_5, z_20, z_39, z_40, z_60, z_100, z_200, z_1000, z_2000, z_10000, z_m1, z_m2, z_m1000, z_m5000, z_far] at c1 c6 ⊢; omega), rfl⟩⟩

set_option maxHeartbeats 4000000 in
set_option maxRecDepth 100000 in
theorem c_T_isIn (h : List AC) (v a b : Int32) : AM kT_isIn 1 [.int v, .int a, .int b] (h) (BQ (In v a b) h) := by
  refine AMet.of (by decide) (by simp [Value.category]) (Nat.le_of_ble_eq_true rfl) ?_
  refine aw_iload_n dT_isIn_0 rfl ?_
  refine aw_iload_n dT_isIn_1 rfl ?_
  refine aw_icmp_lt (tgt := 14) dT_isIn_2 (by decide) (fun c2 => ?_) (fun c2 => ?_)
  · refine aw_iconst (v := 0) dT_isIn_14 (by decide) ?_
    exact aw_zret rfl (Or.inl rfl) dT_isIn_15 ⟨rfl, Or.inr ⟨(by simp only [In, Int32.lt_iff_toInt_lt, Int32.le_iff_toInt_le, ← Int32.toInt_inj, z_0, z_1, z_2, z_3, z_4, z_5, z_20, z_39, z_40, z_60, z_100, z_200, z_1000, z_2000, z_10000, z_m1, z_m2, z_m1000, z_m5000, z_far] at c2 ⊢; omega), rfl⟩⟩
  · refine aw_iload_n dT_isIn_5 rfl ?_
    refine aw_iload_n dT_isIn_6 rfl ?_
    refine aw_icmp_gt (tgt := 14) dT_isIn_7 (by decide) (fun c7 => ?_) (fun c7 => ?_)
    · refine aw_iconst (v := 0) dT_isIn_14 (by decide) ?_
      exact aw_zret rfl (Or.inl rfl) dT_isIn_15 ⟨rfl, Or.inr ⟨(by simp only [In, Int32.lt_iff_toInt_lt, Int32.le_iff_toInt_le, ← Int32.toInt_inj, z_0, z_1, z_2, z_3, z_4, z_5, z_20, z_39, z_40, z_60, z_100, z_200, z_1000, z_2000, z_10000, z_m1, z_m2, z_m1000, z_m5000, z_far] at c2 c7 ⊢; omega), rfl⟩⟩
    · refine aw_iconst (v := 1) dT_isIn_10 (by decide) ?_
      refine aw_goto (tgt := 15) dT_isIn_11 (by decide) ?_
      exact aw_zret rfl (Or.inr rfl) dT_isIn_15 ⟨rfl, Or.inl ⟨(by simp only [In, Int32.lt_iff_toInt_lt, Int32.le_iff_toInt_le, ← Int32.toInt_inj, z_0, z_1, z_2, z_3, z_4, z_5, z_20, z_39, z_40, z_60, z_100, z_200, z_1000, z_2000, z_10000, z_m1, z_m2, z_m1000, z_m5000, z_far] at c2 c7 ⊢; omega), rfl⟩⟩

theorem stp_t {N : Nat → Nat} {k : Nat} {s : Int32} (hk : k < 4) (hN : N k ≤ 40) (c8 : ¬ s < 0) (c18 : ¬ nI (N k) ≤ s) : IsStp N (nI k) s := by
  obtain ⟨i, hi, rfl⟩ := lt_of_nge (by omega) c8 c18
  exact ⟨k, i, hk, hi, rfl, rfl⟩
theorem stp_f1 {N : Nat → Nat} {r s : Int32} (p : ¬ IsRow r) : ¬ IsStp N r s := by
  rintro ⟨k, i, hk, hi, rfl, rfl⟩
  exact p (isRow_n hk)
theorem stp_f2 {N : Nat → Nat} {r s : Int32} (hN : ∀ k, k < 4 → N k ≤ 40) (c : s < 0) : ¬ IsStp N r s := by
  rintro ⟨k, i, hk, hi, rfl, rfl⟩
  exact nI_pos (by have := hN k hk; omega) c
theorem stp_f3 {N : Nat → Nat} {k : Nat} {s : Int32} (hN : ∀ k, k < 4 → N k ≤ 40) (hk : k < 4) (c : nI (N k) ≤ s) : ¬ IsStp N (nI k) s := by
  rintro ⟨k', i, hk', hi, e, rfl⟩
  have := nI_inj (by omega) (by omega) e
  subst this
  have := hN k hk
  rw [nI_leI (by omega) (by omega)] at c
  omega
theorem TInv.n {N : Nat → Nat} {V : Nat → Nat → Int32} {K J : Nat → Int32} {B : Nat → Nat → Int32} (h : TInv N V K J B) : ∀ k, k < 4 → N k ≤ 40 := fun k hk => (h.1 k hk).1

set_option maxHeartbeats 4000000 in
set_option maxRecDepth 100000 in
theorem c_T_isStep (N : Nat → Nat) (V : Nat → Nat → Int32) (K : Nat → Int32) (J : Nat → Int32) (B : Nat → Nat → Int32) (hI : TInv N V K J B) (r s : Int32) : AM kT_isStep 2 [.ref 0, .int r, .int s] (hT J B) (BQ (IsStp N r s) (hT J B)) := by
  refine AMet.of (by decide) (by simp [Value.category]) (Nat.le_of_ble_eq_true rfl) ?_
  refine aw_iload_n dT_isStep_0 rfl ?_
  refine an_callSb cg_T_72 (c_T_isRow _ _) dT_isStep_1 rfl rfl (Nat.le_of_ble_eq_true rfl) (Nat.le_of_ble_eq_true rfl) (fun p1 => ?_) (fun p1 => ?_)
  · refine aw_if_eq (tgt := 25) dT_isStep_4 (by decide) (fun q => absurd q (by decide)) (fun _ => ?_)
    obtain ⟨k, hk, rfl⟩ := isRow_k p1
    refine aw_iload_n dT_isStep_7 rfl ?_
    refine aw_if_lt (tgt := 25) dT_isStep_8 (by decide) (fun c8 => ?_) (fun c8 => ?_)
    · refine aw_iconst (v := 0) dT_isStep_25 (by decide) ?_
      exact aw_zret rfl (Or.inl rfl) dT_isStep_26 ⟨rfl, Or.inr ⟨stp_f2 hI.n c8, rfl⟩⟩
    · refine aw_iload_n dT_isStep_11 rfl ?_
      refine aw_aload_r dT_isStep_12 rfl ?_
      refine aw_get fg_T_7 dT_isStep_13 rfl rfl ?_
      refine aw_iload_n dT_isStep_16 rfl ?_
      refine an_ldT dT_isStep_17 at_1 rfl hk (by decide) ?_
      rw [(hI.1 k hk).2.1]
      refine aw_icmp_ge (tgt := 25) dT_isStep_18 (by decide) (fun c18 => ?_) (fun c18 => ?_)
      · refine aw_iconst (v := 0) dT_isStep_25 (by decide) ?_
        exact aw_zret rfl (Or.inl rfl) dT_isStep_26 ⟨rfl, Or.inr ⟨stp_f3 hI.n hk c18, rfl⟩⟩
      · refine aw_iconst (v := 1) dT_isStep_21 (by decide) ?_
        refine aw_goto (tgt := 26) dT_isStep_22 (by decide) ?_
        exact aw_zret rfl (Or.inr rfl) dT_isStep_26 ⟨rfl, Or.inl ⟨stp_t hk (hI.n _ hk) c8 c18, rfl⟩⟩
  · refine aw_if_eq (tgt := 25) dT_isStep_4 (by decide) (fun _ => ?_) (fun q => absurd q (by decide))
    refine aw_iconst (v := 0) dT_isStep_25 (by decide) ?_
    exact aw_zret rfl (Or.inl rfl) dT_isStep_26 ⟨rfl, Or.inr ⟨stp_f1 p1, rfl⟩⟩

theorem hv_f {N : Nat → Nat} {V : Nat → Nat → Int32} {r s : Int32} (p : ¬ IsStp N r s) : ¬ HV N V r s := fun ⟨k, i, a, b, c, d, _⟩ => p ⟨k, i, a, b, c, d⟩
theorem hv_f2 {N : Nat → Nat} {V : Nat → Nat → Int32} {k i : Nat} (hN : ∀ k, k < 4 → N k ≤ 40) (hk : k < 4) (hi : i < N k) (c : V k i = -5000) : ¬ HV N V (nI k) (nI i) := by
  rintro ⟨k', i', hk', hi', e, e2, q⟩
  have h1 := hN k hk
  have h2 := hN k' hk'
  have := nI_inj (by omega) (by omega) e
  subst this
  have := nI_inj (by omega) (by omega) e2
  subst this
  exact q c

set_option maxHeartbeats 4000000 in
set_option maxRecDepth 100000 in
theorem c_T_hasValue (N : Nat → Nat) (V : Nat → Nat → Int32) (K : Nat → Int32) (J : Nat → Int32) (B : Nat → Nat → Int32) (hI : TInv N V K J B) (r s : Int32) : AM kT_hasValue 3 [.ref 0, .int r, .int s] (hT J B) (BQ (HV N V r s) (hT J B)) := by
  refine AMet.of (by decide) (by simp [Value.category]) (Nat.le_of_ble_eq_true rfl) ?_
  refine aw_aload_r dT_hasValue_0 rfl ?_
  refine aw_iload_n dT_hasValue_1 rfl ?_
  refine aw_iload_n dT_hasValue_2 rfl ?_
  refine an_callVb cg_T_76 (c_T_isStep _ _ _ _ _ hI _ _) dT_hasValue_3 rfl rfl rfl rfl rfl (Nat.le_of_ble_eq_true rfl) (Nat.le_of_ble_eq_true rfl) (fun p3 => ?_) (fun p3 => ?_)
  · refine aw_if_eq (tgt := 30) dT_hasValue_6 (by decide) (fun q => absurd q (by decide)) (fun _ => ?_)
    obtain ⟨k, i, hk, hi, rfl, rfl⟩ := p3
    have hN := hI.n k hk
    refine aw_aload_r dT_hasValue_9 rfl ?_
    refine aw_get fg_T_13 dT_hasValue_10 rfl rfl ?_
    refine aw_bipush (v := 40) dT_hasValue_13 (by decide) ?_
    refine aw_iload_n dT_hasValue_15 rfl ?_
    refine aw_imul dT_hasValue_16 ?_
    refine aw_iload_n dT_hasValue_17 rfl ?_
    refine aw_iadd dT_hasValue_18 ?_
    refine an_ldT dT_hasValue_19 at_2 ix40 (by omega) (by decide) ?_
    rw [(hI.1 k hk).2.2.2.2 i (by omega)]
    refine aw_sipush (v := (-5000)) dT_hasValue_20 (by decide) ?_
    refine aw_icmp_eq (tgt := 30) dT_hasValue_23 (by decide) (fun c23 => ?_) (fun c23 => ?_)
    · refine aw_iconst (v := 0) dT_hasValue_30 (by decide) ?_
      exact aw_zret rfl (Or.inl rfl) dT_hasValue_31 ⟨rfl, Or.inr ⟨hv_f2 hI.n hk hi c23, rfl⟩⟩
    · refine aw_iconst (v := 1) dT_hasValue_26 (by decide) ?_
      refine aw_goto (tgt := 31) dT_hasValue_27 (by decide) ?_
      exact aw_zret rfl (Or.inr rfl) dT_hasValue_31 ⟨rfl, Or.inl ⟨⟨k, i, hk, hi, rfl, rfl, c23⟩, rfl⟩⟩
  · refine aw_if_eq (tgt := 30) dT_hasValue_6 (by decide) (fun _ => ?_) (fun q => absurd q (by decide))
    refine aw_iconst (v := 0) dT_hasValue_30 (by decide) ?_
    exact aw_zret rfl (Or.inl rfl) dT_hasValue_31 ⟨rfl, Or.inr ⟨hv_f p3, rfl⟩⟩

set_option maxHeartbeats 4000000 in
set_option maxRecDepth 100000 in
theorem c_T_valueAt (N : Nat → Nat) (V : Nat → Nat → Int32) (K : Nat → Int32) (J : Nat → Int32) (B : Nat → Nat → Int32) (hI : TInv N V K J B) {k i : Nat} (hk : k < 4) (hi : i < 40) : AM kT_valueAt 1 [.ref 0, .int (nI k), .int (nI i)] (hT J B) (RQ (V k i) (hT J B)) := by
  refine AMet.of (by decide) (by simp [Value.category]) (Nat.le_of_ble_eq_true rfl) ?_
  refine aw_aload_r dT_valueAt_0 rfl ?_
  refine aw_get fg_T_13 dT_valueAt_1 rfl rfl ?_
  refine aw_bipush (v := 40) dT_valueAt_4 (by decide) ?_
  refine aw_iload_n dT_valueAt_6 rfl ?_
  refine aw_imul dT_valueAt_7 ?_
  refine aw_iload_n dT_valueAt_8 rfl ?_
  refine aw_iadd dT_valueAt_9 ?_
  refine an_ldT dT_valueAt_10 at_2 ix40 (by omega) (by decide) ?_
  rw [(hI.1 k hk).2.2.2.2 i hi]
  exact aw_iret rfl dT_valueAt_11 ⟨rfl, rfl⟩
