set_option maxHeartbeats 4000000 in
set_option maxRecDepth 100000 in
theorem l_R_lowest (N : Nat → Nat) (V : Nat → Nat → Int32) (K : Nat → Int32) (I : Nat → Int32) (A : Nat → Nat → Int32) (hI : CInv N V K I A) {k : Nat} (hk : k < 4) : ∀ (n : Nat) (i : Nat), i + n = N k → AN kR_lowest 2 (RQ (lowR (V k) (N k)) (hC I A)) 6 [some (.ref (2 + 2 * k)), some (.int (lowR (V k) i)), some (.int (nI i))] [] (hC I A) := by
  intro n
  induction n with
  | zero =>
    intro i hin
    have hN := hI.n k hk
    refine aw_iload_n dR_lowest_6 rfl ?_
    refine aw_aload_r dR_lowest_7 rfl ?_
    refine an_getR hk fg_R_15 dR_lowest_8 rfl ?_
    rw [(hI.1 k hk).2.1]
    refine aw_icmp_ge (tgt := 43) dR_lowest_11 (by decide) (fun c11 => ?_) (fun c11 => absurd (by rw [show i = N k by omega]; exact Int32.le_refl _) c11)
    refine aw_iload_n dR_lowest_43 rfl ?_
    exact aw_iret rfl dR_lowest_44 ⟨rfl, by rw [show i = N k by omega]⟩
  | succ n ih =>
    intro i hin
    have hN := hI.n k hk
    refine aw_iload_n dR_lowest_6 rfl ?_
    refine aw_aload_r dR_lowest_7 rfl ?_
    refine an_getR hk fg_R_15 dR_lowest_8 rfl ?_
    rw [(hI.1 k hk).2.1]
    refine aw_icmp_ge (tgt := 43) dR_lowest_11 (by decide) (fun c11 => absurd c11 (nI_ge (by omega) (by omega))) (fun c11 => ?_)
    refine aw_aload_r dR_lowest_14 rfl ?_
    refine an_getR hk fg_R_9 dR_lowest_15 rfl ?_
    refine aw_iload_n dR_lowest_18 rfl ?_
    refine an_ldC dR_lowest_19 (ac_val hk) rfl (by omega) (by decide) ?_
    rw [(hI.1 k hk).2.2.2.2 i (by omega)]
    refine aw_sipush (v := (-5000)) dR_lowest_20 (by decide) ?_
    refine aw_icmp_eq (tgt := 37) dR_lowest_23 (by decide) (fun c23 => ?_) (fun c23 => ?_)
    · refine aw_iinc dR_lowest_37 rfl (nI_1 i) (by decide) ?_
      refine aw_goto (tgt := 6) dR_lowest_40 (by decide) ?_
      exact an_weak (ih (i + 1) (by omega)) ⟨rfl, by rw [show lowR (V k) (i + 1) = lowR (V k) i by simp only [lowR, if_pos c23]]; rfl, rfl, trivial⟩
    · refine aw_iload_n dR_lowest_26 rfl ?_
      refine aw_aload_r dR_lowest_27 rfl ?_
      refine an_getR hk fg_R_9 dR_lowest_28 rfl ?_
      refine aw_iload_n dR_lowest_31 rfl ?_
      refine an_ldC dR_lowest_32 (ac_val hk) rfl (by omega) (by decide) ?_
      rw [(hI.1 k hk).2.2.2.2 i (by omega)]
      refine aw_min cg_R_29 dR_lowest_33 (Nat.le_of_ble_eq_true rfl) (Nat.le_of_ble_eq_true rfl) ⟨Nat.le_refl _, Nat.le_refl _⟩ ?_
      refine an_top (show (if V k i < lowR (V k) i then V k i else lowR (V k) i) = lowR (V k) (i + 1) by simp only [lowR, if_neg c23]) ?_
      refine aw_istore_n dR_lowest_36 (by decide) ?_
      refine aw_iinc dR_lowest_37 rfl (nI_1 i) (by decide) ?_
      refine aw_goto (tgt := 6) dR_lowest_40 (by decide) ?_
      exact an_weak (ih (i + 1) (by omega)) ⟨rfl, rfl, rfl, trivial⟩

set_option maxHeartbeats 4000000 in
set_option maxRecDepth 100000 in
theorem c_R_lowest (N : Nat → Nat) (V : Nat → Nat → Int32) (K : Nat → Int32) (I : Nat → Int32) (A : Nat → Nat → Int32) (hI : CInv N V K I A) {k : Nat} (hk : k < 4) : AM kR_lowest 2 [.ref (2 + 2 * k)] (hC I A) (RQ (lowR (V k) (N k)) (hC I A)) := by
  refine AMet.of (by decide) (by simp [Value.category]) (Nat.le_of_ble_eq_true rfl) ?_
  refine aw_sipush (v := 1001) dR_lowest_0 (by decide) ?_
  refine aw_istore_n dR_lowest_3 (by decide) ?_
  refine aw_iconst (v := 0) dR_lowest_4 (by decide) ?_
  refine aw_istore_n dR_lowest_5 (by decide) ?_
  exact l_R_lowest N V K I A hI hk (N k) 0 (by omega)

set_option maxHeartbeats 4000000 in
set_option maxRecDepth 100000 in
theorem l_R_highest (N : Nat → Nat) (V : Nat → Nat → Int32) (K : Nat → Int32) (I : Nat → Int32) (A : Nat → Nat → Int32) (hI : CInv N V K I A) {k : Nat} (hk : k < 4) : ∀ (n : Nat) (i : Nat), i + n = N k → AN kR_highest 2 (RQ (highR (V k) (N k)) (hC I A)) 6 [some (.ref (2 + 2 * k)), some (.int (highR (V k) i)), some (.int (nI i))] [] (hC I A) := by
  intro n
  induction n with
  | zero =>
    intro i hin
    have hN := hI.n k hk
    refine aw_iload_n dR_highest_6 rfl ?_
    refine aw_aload_r dR_highest_7 rfl ?_
    refine an_getR hk fg_R_15 dR_highest_8 rfl ?_
    rw [(hI.1 k hk).2.1]
    refine aw_icmp_ge (tgt := 43) dR_highest_11 (by decide) (fun c11 => ?_) (fun c11 => absurd (by rw [show i = N k by omega]; exact Int32.le_refl _) c11)
    refine aw_iload_n dR_highest_43 rfl ?_
    exact aw_iret rfl dR_highest_44 ⟨rfl, by rw [show i = N k by omega]⟩
  | succ n ih =>
    intro i hin
    have hN := hI.n k hk
    refine aw_iload_n dR_highest_6 rfl ?_
    refine aw_aload_r dR_highest_7 rfl ?_
    refine an_getR hk fg_R_15 dR_highest_8 rfl ?_
    rw [(hI.1 k hk).2.1]
    refine aw_icmp_ge (tgt := 43) dR_highest_11 (by decide) (fun c11 => absurd c11 (nI_ge (by omega) (by omega))) (fun c11 => ?_)
    refine aw_aload_r dR_highest_14 rfl ?_
    refine an_getR hk fg_R_9 dR_highest_15 rfl ?_
    refine aw_iload_n dR_highest_18 rfl ?_
    refine an_ldC dR_highest_19 (ac_val hk) rfl (by omega) (by decide) ?_
    rw [(hI.1 k hk).2.2.2.2 i (by omega)]
    refine aw_sipush (v := (-5000)) dR_highest_20 (by decide) ?_
    refine aw_icmp_eq (tgt := 37) dR_highest_23 (by decide) (fun c23 => ?_) (fun c23 => ?_)
    · refine aw_iinc dR_highest_37 rfl (nI_1 i) (by decide) ?_
      refine aw_goto (tgt := 6) dR_highest_40 (by decide) ?_
      exact an_weak (ih (i + 1) (by omega)) ⟨rfl, by rw [show highR (V k) (i + 1) = highR (V k) i by simp only [highR, if_pos c23]]; rfl, rfl, trivial⟩
    · refine aw_iload_n dR_highest_26 rfl ?_
      refine aw_aload_r dR_highest_27 rfl ?_
      refine an_getR hk fg_R_9 dR_highest_28 rfl ?_
      refine aw_iload_n dR_highest_31 rfl ?_
      refine an_ldC dR_highest_32 (ac_val hk) rfl (by omega) (by decide) ?_
      rw [(hI.1 k hk).2.2.2.2 i (by omega)]
      refine aw_max cg_R_35 dR_highest_33 (Nat.le_of_ble_eq_true rfl) (Nat.le_of_ble_eq_true rfl) ⟨Nat.le_refl _, Nat.le_refl _⟩ ?_
      refine an_top (show (if highR (V k) i < V k i then V k i else highR (V k) i) = highR (V k) (i + 1) by simp only [highR, if_neg c23]) ?_
      refine aw_istore_n dR_highest_36 (by decide) ?_
      refine aw_iinc dR_highest_37 rfl (nI_1 i) (by decide) ?_
      refine aw_goto (tgt := 6) dR_highest_40 (by decide) ?_
      exact an_weak (ih (i + 1) (by omega)) ⟨rfl, rfl, rfl, trivial⟩

set_option maxHeartbeats 4000000 in
set_option maxRecDepth 100000 in
theorem c_R_highest (N : Nat → Nat) (V : Nat → Nat → Int32) (K : Nat → Int32) (I : Nat → Int32) (A : Nat → Nat → Int32) (hI : CInv N V K I A) {k : Nat} (hk : k < 4) : AM kR_highest 2 [.ref (2 + 2 * k)] (hC I A) (RQ (highR (V k) (N k)) (hC I A)) := by
  refine AMet.of (by decide) (by simp [Value.category]) (Nat.le_of_ble_eq_true rfl) ?_
  refine aw_sipush (v := (-1001)) dR_highest_0 (by decide) ?_
  refine aw_istore_n dR_highest_3 (by decide) ?_
  refine aw_iconst (v := 0) dR_highest_4 (by decide) ?_
  refine aw_istore_n dR_highest_5 (by decide) ?_
  exact l_R_highest N V K I A hI hk (N k) 0 (by omega)

set_option maxHeartbeats 4000000 in
set_option maxRecDepth 100000 in
theorem l_E_lowestValue (N : Nat → Nat) (V : Nat → Nat → Int32) (K : Nat → Int32) (I : Nat → Int32) (A : Nat → Nat → Int32) (hI : CInv N V K I A) : ∀ (n : Nat) (k : Nat), k + n = 4 → AN kE_lowestValue 3 (RQ (lowA N V 4) (hC I A)) 6 [some (.ref 0), some (.int (lowA N V k)), some (.int (nI k))] [] (hC I A) := by
  intro n
  induction n with
  | zero =>
    intro k hin
    refine aw_iload_n dE_lowestValue_6 rfl ?_
    refine aw_iconst (v := 4) dE_lowestValue_7 (by decide) ?_
    refine aw_icmp_ge (tgt := 31) dE_lowestValue_8 (by decide) (fun c8 => ?_) (fun c8 => absurd (by rw [show k = 4 by omega]; decide) c8)
    refine aw_iload_n dE_lowestValue_31 rfl ?_
    exact aw_iret rfl dE_lowestValue_32 ⟨rfl, by rw [show k = 4 by omega]⟩
  | succ n ih =>
    intro k hin
    have hk : k < 4 := by omega
    refine aw_iload_n dE_lowestValue_6 rfl ?_
    refine aw_iconst (v := 4) dE_lowestValue_7 (by decide) ?_
    refine aw_icmp_ge (tgt := 31) dE_lowestValue_8 (by decide) (fun c8 => absurd c8 (nI_ge (b := 4) (by omega) (by omega))) (fun c8 => ?_)
    refine aw_iload_n dE_lowestValue_11 rfl ?_
    refine aw_aload_r dE_lowestValue_12 rfl ?_
    refine aw_get fg_E_11 dE_lowestValue_13 rfl rfl ?_
    refine aw_iload_n dE_lowestValue_16 rfl ?_
    refine an_rows dE_lowestValue_17 rfl hk ?_
    refine an_callVr cg_E_186 (c_R_lowest _ _ _ _ _ hI hk) dE_lowestValue_18 rfl (hC_row _ _ hk) rfl rfl rfl (Nat.le_of_ble_eq_true rfl) (Nat.le_of_ble_eq_true rfl) ?_
    refine aw_min cg_E_189 dE_lowestValue_21 (Nat.le_of_ble_eq_true rfl) (Nat.le_of_ble_eq_true rfl) ⟨Nat.le_refl _, Nat.le_refl _⟩ ?_
    refine an_top (show (if lowR (V k) (N k) < lowA N V k then lowR (V k) (N k) else lowA N V k) = lowA N V (k + 1) from rfl) ?_
    refine aw_istore_n dE_lowestValue_24 (by decide) ?_
    refine aw_iinc dE_lowestValue_25 rfl (nI_1 k) (by decide) ?_
    refine aw_goto (tgt := 6) dE_lowestValue_28 (by decide) ?_
    exact an_weak (ih (k + 1) (by omega)) ⟨rfl, rfl, rfl, trivial⟩

set_option maxHeartbeats 4000000 in
set_option maxRecDepth 100000 in
theorem c_E_lowestValue (N : Nat → Nat) (V : Nat → Nat → Int32) (K : Nat → Int32) (I : Nat → Int32) (A : Nat → Nat → Int32) (hI : CInv N V K I A) : AM kE_lowestValue 3 [.ref 0] (hC I A) (RQ (lowA N V 4) (hC I A)) := by
  refine AMet.of (by decide) (by simp [Value.category]) (Nat.le_of_ble_eq_true rfl) ?_
  refine aw_sipush (v := 1001) dE_lowestValue_0 (by decide) ?_
  refine aw_istore_n dE_lowestValue_3 (by decide) ?_
  refine aw_iconst (v := 0) dE_lowestValue_4 (by decide) ?_
  refine aw_istore_n dE_lowestValue_5 (by decide) ?_
  exact l_E_lowestValue N V K I A hI 4 0 (by omega)

set_option maxHeartbeats 4000000 in
set_option maxRecDepth 100000 in
theorem l_E_highestValue (N : Nat → Nat) (V : Nat → Nat → Int32) (K : Nat → Int32) (I : Nat → Int32) (A : Nat → Nat → Int32) (hI : CInv N V K I A) : ∀ (n : Nat) (k : Nat), k + n = 4 → AN kE_highestValue 3 (RQ (highA N V 4) (hC I A)) 6 [some (.ref 0), some (.int (highA N V k)), some (.int (nI k))] [] (hC I A) := by
  intro n
  induction n with
  | zero =>
    intro k hin
    refine aw_iload_n dE_highestValue_6 rfl ?_
    refine aw_iconst (v := 4) dE_highestValue_7 (by decide) ?_
    refine aw_icmp_ge (tgt := 31) dE_highestValue_8 (by decide) (fun c8 => ?_) (fun c8 => absurd (by rw [show k = 4 by omega]; decide) c8)
    refine aw_iload_n dE_highestValue_31 rfl ?_
    exact aw_iret rfl dE_highestValue_32 ⟨rfl, by rw [show k = 4 by omega]⟩
  | succ n ih =>
    intro k hin
    have hk : k < 4 := by omega
    refine aw_iload_n dE_highestValue_6 rfl ?_
    refine aw_iconst (v := 4) dE_highestValue_7 (by decide) ?_
    refine aw_icmp_ge (tgt := 31) dE_highestValue_8 (by decide) (fun c8 => absurd c8 (nI_ge (b := 4) (by omega) (by omega))) (fun c8 => ?_)
    refine aw_iload_n dE_highestValue_11 rfl ?_
    refine aw_aload_r dE_highestValue_12 rfl ?_
    refine aw_get fg_E_11 dE_highestValue_13 rfl rfl ?_
    refine aw_iload_n dE_highestValue_16 rfl ?_
    refine an_rows dE_highestValue_17 rfl hk ?_
    refine an_callVr cg_E_194 (c_R_highest _ _ _ _ _ hI hk) dE_highestValue_18 rfl (hC_row _ _ hk) rfl rfl rfl (Nat.le_of_ble_eq_true rfl) (Nat.le_of_ble_eq_true rfl) ?_
    refine aw_max cg_E_197 dE_highestValue_21 (Nat.le_of_ble_eq_true rfl) (Nat.le_of_ble_eq_true rfl) ⟨Nat.le_refl _, Nat.le_refl _⟩ ?_
    refine an_top (show (if highA N V k < highR (V k) (N k) then highR (V k) (N k) else highA N V k) = highA N V (k + 1) from rfl) ?_
    refine aw_istore_n dE_highestValue_24 (by decide) ?_
    refine aw_iinc dE_highestValue_25 rfl (nI_1 k) (by decide) ?_
    refine aw_goto (tgt := 6) dE_highestValue_28 (by decide) ?_
    exact an_weak (ih (k + 1) (by omega)) ⟨rfl, rfl, rfl, trivial⟩

set_option maxHeartbeats 4000000 in
set_option maxRecDepth 100000 in
theorem c_E_highestValue (N : Nat → Nat) (V : Nat → Nat → Int32) (K : Nat → Int32) (I : Nat → Int32) (A : Nat → Nat → Int32) (hI : CInv N V K I A) : AM kE_highestValue 3 [.ref 0] (hC I A) (RQ (highA N V 4) (hC I A)) := by
  refine AMet.of (by decide) (by simp [Value.category]) (Nat.le_of_ble_eq_true rfl) ?_
  refine aw_sipush (v := (-1001)) dE_highestValue_0 (by decide) ?_
  refine aw_istore_n dE_highestValue_3 (by decide) ?_
  refine aw_iconst (v := 0) dE_highestValue_4 (by decide) ?_
  refine aw_istore_n dE_highestValue_5 (by decide) ?_
  exact l_E_highestValue N V K I A hI 4 0 (by omega)
