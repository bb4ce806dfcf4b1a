set_option maxHeartbeats 4000000 in
set_option maxRecDepth 100000 in
theorem l_R_lowest (N : Nat → Nat) (V : Nat → Nat → Int32) (K : Nat → Int32) (I : Nat → Int32) (A : Nat → Nat → Int32) (hI : CInv N V K I A) {k : Nat} (hk : k < 4) : ∀ (n : Nat) (i : Nat), i + n = N k → AN kR_lowest 2 (RQ (lowR (V k) (N k)) (hC I A)) 5 [some (.ref (2 + 2 * k)), some (.int (lowR (V k) i)), some (.int (nI i))] [] (hC I A) := by
  intro n
  induction n with
  | zero =>
    intro i hin
    have hN := hI.n k hk
    refine aw_iload_n dR_lowest_5 rfl ?_
    refine aw_aload_r dR_lowest_6 rfl ?_
    refine an_getR hk fg_R_15 dR_lowest_7 rfl ?_
    rw [(hI.1 k hk).2.1]
    refine aw_icmp_ge (tgt := 42) dR_lowest_10 (by decide) (fun c10 => ?_) (fun c10 => absurd (by rw [show i = N k by omega]; exact Int32.le_refl _) c10)
    refine aw_iload_n dR_lowest_42 rfl ?_
    exact aw_iret rfl dR_lowest_43 ⟨rfl, by rw [show i = N k by omega]⟩
  | succ n ih =>
    intro i hin
    have hN := hI.n k hk
    refine aw_iload_n dR_lowest_5 rfl ?_
    refine aw_aload_r dR_lowest_6 rfl ?_
    refine an_getR hk fg_R_15 dR_lowest_7 rfl ?_
    rw [(hI.1 k hk).2.1]
    refine aw_icmp_ge (tgt := 42) dR_lowest_10 (by decide) (fun c10 => absurd c10 (nI_ge (by omega) (by omega))) (fun c10 => ?_)
    refine aw_aload_r dR_lowest_13 rfl ?_
    refine an_getR hk fg_R_9 dR_lowest_14 rfl ?_
    refine aw_iload_n dR_lowest_17 rfl ?_
    refine an_ldC dR_lowest_18 (ac_val hk) rfl (by omega) (by decide) ?_
    rw [(hI.1 k hk).2.2.2.2 i (by omega)]
    refine aw_sipush (v := (-5000)) dR_lowest_19 (by decide) ?_
    refine aw_icmp_eq (tgt := 36) dR_lowest_22 (by decide) (fun c22 => ?_) (fun c22 => ?_)
    · refine aw_iinc dR_lowest_36 rfl (nI_1 i) (by decide) ?_
      refine aw_goto (tgt := 5) dR_lowest_39 (by decide) ?_
      exact an_weak (ih (i + 1) (by omega)) ⟨rfl, by rw [show lowR (V k) (i + 1) = lowR (V k) i by simp only [lowR, if_pos c22]]; rfl, rfl, trivial⟩
    · refine aw_iload_n dR_lowest_25 rfl ?_
      refine aw_aload_r dR_lowest_26 rfl ?_
      refine an_getR hk fg_R_9 dR_lowest_27 rfl ?_
      refine aw_iload_n dR_lowest_30 rfl ?_
      refine an_ldC dR_lowest_31 (ac_val hk) rfl (by omega) (by decide) ?_
      rw [(hI.1 k hk).2.2.2.2 i (by omega)]
      refine aw_min cg_R_32 dR_lowest_32 (Nat.le_of_ble_eq_true rfl) (Nat.le_of_ble_eq_true rfl) ⟨Nat.le_refl _, Nat.le_refl _⟩ ?_
      refine an_top (show (if V k i < lowR (V k) i then V k i else lowR (V k) i) = lowR (V k) (i + 1) by simp only [lowR, if_neg c22]) ?_
      refine aw_istore_n dR_lowest_35 (by decide) ?_
      refine aw_iinc dR_lowest_36 rfl (nI_1 i) (by decide) ?_
      refine aw_goto (tgt := 5) dR_lowest_39 (by decide) ?_
      exact an_weak (ih (i + 1) (by omega)) ⟨rfl, rfl, rfl, trivial⟩

set_option maxHeartbeats 4000000 in
set_option maxRecDepth 100000 in
theorem c_R_lowest (N : Nat → Nat) (V : Nat → Nat → Int32) (K : Nat → Int32) (I : Nat → Int32) (A : Nat → Nat → Int32) (hI : CInv N V K I A) {k : Nat} (hk : k < 4) : AM kR_lowest 2 [.ref (2 + 2 * k)] (hC I A) (RQ (lowR (V k) (N k)) (hC I A)) := by
  refine AMet.of (by decide) (by simp [Value.category]) (Nat.le_of_ble_eq_true rfl) ?_
  refine aw_ldc (v := 2147483647) (k_at 396 (by decide +kernel) (by decide +kernel)) dR_lowest_0 ?_
  refine aw_istore_n dR_lowest_2 (by decide) ?_
  refine aw_iconst (v := 0) dR_lowest_3 (by decide) ?_
  refine aw_istore_n dR_lowest_4 (by decide) ?_
  exact l_R_lowest N V K I A hI hk (N k) 0 (by omega)

set_option maxHeartbeats 4000000 in
set_option maxRecDepth 100000 in
theorem l_R_highest (N : Nat → Nat) (V : Nat → Nat → Int32) (K : Nat → Int32) (I : Nat → Int32) (A : Nat → Nat → Int32) (hI : CInv N V K I A) {k : Nat} (hk : k < 4) : ∀ (n : Nat) (i : Nat), i + n = N k → AN kR_highest 2 (RQ (highR (V k) (N k)) (hC I A)) 5 [some (.ref (2 + 2 * k)), some (.int (highR (V k) i)), some (.int (nI i))] [] (hC I A) := by
  intro n
  induction n with
  | zero =>
    intro i hin
    have hN := hI.n k hk
    refine aw_iload_n dR_highest_5 rfl ?_
    refine aw_aload_r dR_highest_6 rfl ?_
    refine an_getR hk fg_R_15 dR_highest_7 rfl ?_
    rw [(hI.1 k hk).2.1]
    refine aw_icmp_ge (tgt := 42) dR_highest_10 (by decide) (fun c10 => ?_) (fun c10 => absurd (by rw [show i = N k by omega]; exact Int32.le_refl _) c10)
    refine aw_iload_n dR_highest_42 rfl ?_
    exact aw_iret rfl dR_highest_43 ⟨rfl, by rw [show i = N k by omega]⟩
  | succ n ih =>
    intro i hin
    have hN := hI.n k hk
    refine aw_iload_n dR_highest_5 rfl ?_
    refine aw_aload_r dR_highest_6 rfl ?_
    refine an_getR hk fg_R_15 dR_highest_7 rfl ?_
    rw [(hI.1 k hk).2.1]
    refine aw_icmp_ge (tgt := 42) dR_highest_10 (by decide) (fun c10 => absurd c10 (nI_ge (by omega) (by omega))) (fun c10 => ?_)
    refine aw_aload_r dR_highest_13 rfl ?_
    refine an_getR hk fg_R_9 dR_highest_14 rfl ?_
    refine aw_iload_n dR_highest_17 rfl ?_
    refine an_ldC dR_highest_18 (ac_val hk) rfl (by omega) (by decide) ?_
    rw [(hI.1 k hk).2.2.2.2 i (by omega)]
    refine aw_sipush (v := (-5000)) dR_highest_19 (by decide) ?_
    refine aw_icmp_eq (tgt := 36) dR_highest_22 (by decide) (fun c22 => ?_) (fun c22 => ?_)
    · refine aw_iinc dR_highest_36 rfl (nI_1 i) (by decide) ?_
      refine aw_goto (tgt := 5) dR_highest_39 (by decide) ?_
      exact an_weak (ih (i + 1) (by omega)) ⟨rfl, by rw [show highR (V k) (i + 1) = highR (V k) i by simp only [highR, if_pos c22]]; rfl, rfl, trivial⟩
    · refine aw_iload_n dR_highest_25 rfl ?_
      refine aw_aload_r dR_highest_26 rfl ?_
      refine an_getR hk fg_R_9 dR_highest_27 rfl ?_
      refine aw_iload_n dR_highest_30 rfl ?_
      refine an_ldC dR_highest_31 (ac_val hk) rfl (by omega) (by decide) ?_
      rw [(hI.1 k hk).2.2.2.2 i (by omega)]
      refine aw_max cg_R_39 dR_highest_32 (Nat.le_of_ble_eq_true rfl) (Nat.le_of_ble_eq_true rfl) ⟨Nat.le_refl _, Nat.le_refl _⟩ ?_
      refine an_top (show (if highR (V k) i < V k i then V k i else highR (V k) i) = highR (V k) (i + 1) by simp only [highR, if_neg c22]) ?_
      refine aw_istore_n dR_highest_35 (by decide) ?_
      refine aw_iinc dR_highest_36 rfl (nI_1 i) (by decide) ?_
      refine aw_goto (tgt := 5) dR_highest_39 (by decide) ?_
      exact an_weak (ih (i + 1) (by omega)) ⟨rfl, rfl, rfl, trivial⟩

set_option maxHeartbeats 4000000 in
set_option maxRecDepth 100000 in
theorem c_R_highest (N : Nat → Nat) (V : Nat → Nat → Int32) (K : Nat → Int32) (I : Nat → Int32) (A : Nat → Nat → Int32) (hI : CInv N V K I A) {k : Nat} (hk : k < 4) : AM kR_highest 2 [.ref (2 + 2 * k)] (hC I A) (RQ (highR (V k) (N k)) (hC I A)) := by
  refine AMet.of (by decide) (by simp [Value.category]) (Nat.le_of_ble_eq_true rfl) ?_
  refine aw_ldc (v := (-2147483648)) (k_at 408 (by decide +kernel) (by decide +kernel)) dR_highest_0 ?_
  refine aw_istore_n dR_highest_2 (by decide) ?_
  refine aw_iconst (v := 0) dR_highest_3 (by decide) ?_
  refine aw_istore_n dR_highest_4 (by decide) ?_
  exact l_R_highest N V K I A hI hk (N k) 0 (by omega)

set_option maxHeartbeats 4000000 in
set_option maxRecDepth 100000 in
theorem l_E_lowestValue (N : Nat → Nat) (V : Nat → Nat → Int32) (K : Nat → Int32) (I : Nat → Int32) (A : Nat → Nat → Int32) (hI : CInv N V K I A) : ∀ (n : Nat) (k : Nat), k + n = 4 → AN kE_lowestValue 3 (RQ (lowA N V 4) (hC I A)) 5 [some (.ref 0), some (.int (lowA N V k)), some (.int (nI k))] [] (hC I A) := by
  intro n
  induction n with
  | zero =>
    intro k hin
    refine aw_iload_n dE_lowestValue_5 rfl ?_
    refine aw_iconst (v := 4) dE_lowestValue_6 (by decide) ?_
    refine aw_icmp_ge (tgt := 30) dE_lowestValue_7 (by decide) (fun c7 => ?_) (fun c7 => absurd (by rw [show k = 4 by omega]; decide) c7)
    refine aw_iload_n dE_lowestValue_30 rfl ?_
    exact aw_iret rfl dE_lowestValue_31 ⟨rfl, by rw [show k = 4 by omega]⟩
  | succ n ih =>
    intro k hin
    have hk : k < 4 := by omega
    refine aw_iload_n dE_lowestValue_5 rfl ?_
    refine aw_iconst (v := 4) dE_lowestValue_6 (by decide) ?_
    refine aw_icmp_ge (tgt := 30) dE_lowestValue_7 (by decide) (fun c7 => absurd c7 (nI_ge (b := 4) (by omega) (by omega))) (fun c7 => ?_)
    refine aw_iload_n dE_lowestValue_10 rfl ?_
    refine aw_aload_r dE_lowestValue_11 rfl ?_
    refine aw_get fg_E_11 dE_lowestValue_12 rfl rfl ?_
    refine aw_iload_n dE_lowestValue_15 rfl ?_
    refine an_rows dE_lowestValue_16 rfl hk ?_
    refine an_callVr cg_E_189 (c_R_lowest _ _ _ _ _ hI hk) dE_lowestValue_17 rfl (hC_row _ _ hk) rfl rfl rfl (Nat.le_of_ble_eq_true rfl) (Nat.le_of_ble_eq_true rfl) ?_
    refine aw_min cg_E_192 dE_lowestValue_20 (Nat.le_of_ble_eq_true rfl) (Nat.le_of_ble_eq_true rfl) ⟨Nat.le_refl _, Nat.le_refl _⟩ ?_
    refine an_top (show (if lowR (V k) (N k) < lowA N V k then lowR (V k) (N k) else lowA N V k) = lowA N V (k + 1) from rfl) ?_
    refine aw_istore_n dE_lowestValue_23 (by decide) ?_
    refine aw_iinc dE_lowestValue_24 rfl (nI_1 k) (by decide) ?_
    refine aw_goto (tgt := 5) dE_lowestValue_27 (by decide) ?_
    exact an_weak (ih (k + 1) (by omega)) ⟨rfl, rfl, rfl, trivial⟩

set_option maxHeartbeats 4000000 in
set_option maxRecDepth 100000 in
theorem c_E_lowestValue (N : Nat → Nat) (V : Nat → Nat → Int32) (K : Nat → Int32) (I : Nat → Int32) (A : Nat → Nat → Int32) (hI : CInv N V K I A) : AM kE_lowestValue 3 [.ref 0] (hC I A) (RQ (lowA N V 4) (hC I A)) := by
  refine AMet.of (by decide) (by simp [Value.category]) (Nat.le_of_ble_eq_true rfl) ?_
  refine aw_ldc (v := 2147483647) (k_at 391 (by decide +kernel) (by decide +kernel)) dE_lowestValue_0 ?_
  refine aw_istore_n dE_lowestValue_2 (by decide) ?_
  refine aw_iconst (v := 0) dE_lowestValue_3 (by decide) ?_
  refine aw_istore_n dE_lowestValue_4 (by decide) ?_
  exact l_E_lowestValue N V K I A hI 4 0 (by omega)

set_option maxHeartbeats 4000000 in
set_option maxRecDepth 100000 in
theorem l_E_highestValue (N : Nat → Nat) (V : Nat → Nat → Int32) (K : Nat → Int32) (I : Nat → Int32) (A : Nat → Nat → Int32) (hI : CInv N V K I A) : ∀ (n : Nat) (k : Nat), k + n = 4 → AN kE_highestValue 3 (RQ (highA N V 4) (hC I A)) 5 [some (.ref 0), some (.int (highA N V k)), some (.int (nI k))] [] (hC I A) := by
  intro n
  induction n with
  | zero =>
    intro k hin
    refine aw_iload_n dE_highestValue_5 rfl ?_
    refine aw_iconst (v := 4) dE_highestValue_6 (by decide) ?_
    refine aw_icmp_ge (tgt := 30) dE_highestValue_7 (by decide) (fun c7 => ?_) (fun c7 => absurd (by rw [show k = 4 by omega]; decide) c7)
    refine aw_iload_n dE_highestValue_30 rfl ?_
    exact aw_iret rfl dE_highestValue_31 ⟨rfl, by rw [show k = 4 by omega]⟩
  | succ n ih =>
    intro k hin
    have hk : k < 4 := by omega
    refine aw_iload_n dE_highestValue_5 rfl ?_
    refine aw_iconst (v := 4) dE_highestValue_6 (by decide) ?_
    refine aw_icmp_ge (tgt := 30) dE_highestValue_7 (by decide) (fun c7 => absurd c7 (nI_ge (b := 4) (by omega) (by omega))) (fun c7 => ?_)
    refine aw_iload_n dE_highestValue_10 rfl ?_
    refine aw_aload_r dE_highestValue_11 rfl ?_
    refine aw_get fg_E_11 dE_highestValue_12 rfl rfl ?_
    refine aw_iload_n dE_highestValue_15 rfl ?_
    refine an_rows dE_highestValue_16 rfl hk ?_
    refine an_callVr cg_E_198 (c_R_highest _ _ _ _ _ hI hk) dE_highestValue_17 rfl (hC_row _ _ hk) rfl rfl rfl (Nat.le_of_ble_eq_true rfl) (Nat.le_of_ble_eq_true rfl) ?_
    refine aw_max cg_E_201 dE_highestValue_20 (Nat.le_of_ble_eq_true rfl) (Nat.le_of_ble_eq_true rfl) ⟨Nat.le_refl _, Nat.le_refl _⟩ ?_
    refine an_top (show (if highA N V k < highR (V k) (N k) then highR (V k) (N k) else highA N V k) = highA N V (k + 1) from rfl) ?_
    refine aw_istore_n dE_highestValue_23 (by decide) ?_
    refine aw_iinc dE_highestValue_24 rfl (nI_1 k) (by decide) ?_
    refine aw_goto (tgt := 5) dE_highestValue_27 (by decide) ?_
    exact an_weak (ih (k + 1) (by omega)) ⟨rfl, rfl, rfl, trivial⟩

set_option maxHeartbeats 4000000 in
set_option maxRecDepth 100000 in
theorem c_E_highestValue (N : Nat → Nat) (V : Nat → Nat → Int32) (K : Nat → Int32) (I : Nat → Int32) (A : Nat → Nat → Int32) (hI : CInv N V K I A) : AM kE_highestValue 3 [.ref 0] (hC I A) (RQ (highA N V 4) (hC I A)) := by
  refine AMet.of (by decide) (by simp [Value.category]) (Nat.le_of_ble_eq_true rfl) ?_
  refine aw_ldc (v := (-2147483648)) (k_at 403 (by decide +kernel) (by decide +kernel)) dE_highestValue_0 ?_
  refine aw_istore_n dE_highestValue_2 (by decide) ?_
  refine aw_iconst (v := 0) dE_highestValue_3 (by decide) ?_
  refine aw_istore_n dE_highestValue_4 (by decide) ?_
  exact l_E_highestValue N V K I A hI 4 0 (by omega)
