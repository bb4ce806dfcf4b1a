set_option maxHeartbeats 4000000 in
set_option maxRecDepth 100000 in
theorem c_S_costOfWay1 (h : List AC) {v : Nat → Int32} {n i : Nat} (hv : VB v n) (w : wy v n i) : AM kS_costOfWay 2 [.int 1, .int (v (i + 1) - v i)] h (RQ (wc v i 1) h) := by
  refine AMet.of (by decide) (by simp [Value.category]) (Nat.le_of_ble_eq_true rfl) ?_
  show AN _ _ _ 0 [some _, some _] [] _
  refine aw_iload_n dS_costOfWay_0 rfl ?_
  refine aw_iconst (v := 1) dS_costOfWay_1 (by decide) ?_
  refine aw_icmp_ne (tgt := 12) dS_costOfWay_2 (by decide) (fun q => absurd q (by decide)) (fun _ => ?_)
  refine aw_iconst (v := 0) dS_costOfWay_5 (by decide) ?_
  refine aw_iload_n dS_costOfWay_6 rfl ?_
  refine aw_ineg dS_costOfWay_7 ?_
  refine aw_max cg_S_71 dS_costOfWay_8 (Nat.le_of_ble_eq_true rfl) (Nat.le_of_ble_eq_true rfl) ⟨Nat.le_refl _, Nat.le_refl _⟩ ?_
  refine an_top (wc1 hv w) ?_
  exact aw_iret rfl dS_costOfWay_11 ⟨rfl, rfl⟩

set_option maxHeartbeats 4000000 in
set_option maxRecDepth 100000 in
theorem c_S_costOfWay2 (h : List AC) {v : Nat → Int32} {n i : Nat} (hv : VB v n) (w : wy v n i) : AM kS_costOfWay 2 [.int 2, .int (v (i + 1) - v i)] h (RQ (wc v i 2) h) := by
  refine AMet.of (by decide) (by simp [Value.category]) (Nat.le_of_ble_eq_true rfl) ?_
  show AN _ _ _ 0 [some _, some _] [] _
  refine aw_iload_n dS_costOfWay_0 rfl ?_
  refine aw_iconst (v := 1) dS_costOfWay_1 (by decide) ?_
  refine aw_icmp_ne (tgt := 12) dS_costOfWay_2 (by decide) (fun _ => ?_) (fun q => absurd q (by decide))
  refine aw_iload_n dS_costOfWay_12 rfl ?_
  refine aw_iconst (v := 2) dS_costOfWay_13 (by decide) ?_
  refine aw_icmp_ne (tgt := 25) dS_costOfWay_14 (by decide) (fun q => absurd q (by decide)) (fun _ => ?_)
  refine aw_iconst (v := 0) dS_costOfWay_17 (by decide) ?_
  refine aw_iload_n dS_costOfWay_18 rfl ?_
  refine aw_max cg_S_71 dS_costOfWay_19 (Nat.le_of_ble_eq_true rfl) (Nat.le_of_ble_eq_true rfl) ⟨Nat.le_refl _, Nat.le_refl _⟩ ?_
  refine an_top (show _ = wc v i 2 by unfold wc; rw [if_neg (show ¬ (2 : Nat) = 1 by decide), if_pos (rfl : (2 : Nat) = 2)]) ?_
  refine aw_goto (tgt := 29) dS_costOfWay_22 (by decide) ?_
  exact aw_iret rfl dS_costOfWay_29 ⟨rfl, rfl⟩

set_option maxHeartbeats 4000000 in
set_option maxRecDepth 100000 in
theorem c_S_costOfWay3 (h : List AC) {v : Nat → Int32} {n i : Nat} (hv : VB v n) (w : wy v n i) : AM kS_costOfWay 2 [.int 3, .int (v (i + 1) - v i)] h (RQ (wc v i 3) h) := by
  refine AMet.of (by decide) (by simp [Value.category]) (Nat.le_of_ble_eq_true rfl) ?_
  show AN _ _ _ 0 [some _, some _] [] _
  refine aw_iload_n dS_costOfWay_0 rfl ?_
  refine aw_iconst (v := 1) dS_costOfWay_1 (by decide) ?_
  refine aw_icmp_ne (tgt := 12) dS_costOfWay_2 (by decide) (fun _ => ?_) (fun q => absurd q (by decide))
  refine aw_iload_n dS_costOfWay_12 rfl ?_
  refine aw_iconst (v := 2) dS_costOfWay_13 (by decide) ?_
  refine aw_icmp_ne (tgt := 25) dS_costOfWay_14 (by decide) (fun _ => ?_) (fun q => absurd q (by decide))
  refine aw_iload_n dS_costOfWay_25 rfl ?_
  refine aw_abs cg_S_76 dS_costOfWay_26 (Nat.le_of_ble_eq_true rfl) (Nat.le_of_ble_eq_true rfl) ⟨Nat.le_refl _, Nat.le_refl _⟩ ?_
  refine an_top wc3 ?_
  exact aw_iret rfl dS_costOfWay_29 ⟨rfl, rfl⟩

set_option maxHeartbeats 4000000 in
set_option maxRecDepth 100000 in
theorem c_S_costBehind (I : Nat → Int32) (A : Nat → Nat → Int32) {b i q : Nat} (p : Int32) (hb : b < 1000) (hi : i < 40) (hq : q < 4) : AM kS_costBehind 1 [.ref 10, .int (nI b), .int (nI i), .int (nI q), .int p] (hC I A) (RQ (cb (fun q => A (16 + q) i) p b q) (hC I A)) := by
  refine AMet.of (by decide) (by simp [Value.category]) (Nat.le_of_ble_eq_true rfl) ?_
  show AN _ _ _ 0 [some _, some _, some _, some _, some _] [] _
  refine aw_iload_n dS_costBehind_0 rfl ?_
  refine aw_iload_n dS_costBehind_1 rfl ?_
  refine aw_icmp_ne (tgt := 16) dS_costBehind_2 (by decide) (fun c2 => ?_) (fun c2 => ?_)
  · refine aw_aload_r dS_costBehind_16 rfl ?_
    refine aw_get fg_S_26 dS_costBehind_17 rfl rfl ?_
    refine aw_iload_n dS_costBehind_20 rfl ?_
    refine an_costs dS_costBehind_21 rfl hq ?_
    refine aw_iload_n dS_costBehind_22 rfl ?_
    refine an_ldC dS_costBehind_23 (ac_cost hq) rfl hi (by decide) ?_
    refine aw_iload dS_costBehind_24 rfl ?_
    refine aw_iadd dS_costBehind_26 ?_
    exact aw_iret rfl dS_costBehind_27 ⟨rfl, by unfold cb; rw [if_neg (fun e => c2 (by rw [e]))]⟩
  · refine aw_aload_r dS_costBehind_5 rfl ?_
    refine aw_get fg_S_26 dS_costBehind_6 rfl rfl ?_
    refine aw_iload_n dS_costBehind_9 rfl ?_
    refine an_costs dS_costBehind_10 rfl hq ?_
    refine aw_iload_n dS_costBehind_11 rfl ?_
    refine an_ldC dS_costBehind_12 (ac_cost hq) rfl hi (by decide) ?_
    refine aw_goto (tgt := 27) dS_costBehind_13 (by decide) ?_
    exact aw_iret rfl dS_costBehind_27 ⟨rfl, by unfold cb; rw [if_pos (nI_inj (by omega) (by omega) c2)]⟩

set_option maxHeartbeats 4000000 in
set_option maxRecDepth 100000 in
theorem c_S_bestKind (I : Nat → Int32) (A : Nat → Nat → Int32) {b i : Nat} (p : Int32) (hb : b < 1000) (hi : i < 40) : AM kS_bestKind 2 [.ref 10, .int (nI b), .int (nI i), .int p] (hC I A) (RQ (nI (bk (fun q => A (16 + q) i) p b)) (hC I A)) := by
  refine AMet.of (by decide) (by simp [Value.category]) (Nat.le_of_ble_eq_true rfl) ?_
  show AN _ _ _ 0 [some _, some _, some _, some _, none, none] [] _
  refine aw_iconst (v := 1) dS_bestKind_0 (by decide) ?_
  refine si6_4 dS_bestKind_1 (by decide) ?_
  refine aw_iconst (v := 2) dS_bestKind_3 (by decide) ?_
  refine si6_5 dS_bestKind_4 (by decide) ?_
  refine aw_iload dS_bestKind_6 rfl ?_
  refine aw_iconst (v := 3) dS_bestKind_8 (by decide) ?_
  refine aw_icmp_gt (tgt := 43) dS_bestKind_9 (by decide) (fun q => absurd q (by decide)) (fun _ => ?_)
  refine aw_aload_r dS_bestKind_12 rfl ?_
  refine aw_iload_n dS_bestKind_13 rfl ?_
  refine aw_iload_n dS_bestKind_14 rfl ?_
  refine aw_iload dS_bestKind_15 rfl ?_
  refine aw_iload_n dS_bestKind_17 rfl ?_
  refine an_callVr cg_S_67 (c_S_costBehind I A (b := b) (i := i) (q := 2) p hb hi (by decide)) dS_bestKind_18 rfl rfl rfl rfl rfl (Nat.le_of_ble_eq_true rfl) (Nat.le_of_ble_eq_true rfl) ?_
  refine aw_aload_r dS_bestKind_21 rfl ?_
  refine aw_iload_n dS_bestKind_22 rfl ?_
  refine aw_iload_n dS_bestKind_23 rfl ?_
  refine aw_iload dS_bestKind_24 rfl ?_
  refine aw_iload_n dS_bestKind_26 rfl ?_
  refine an_callVr cg_S_67 (c_S_costBehind I A (b := b) (i := i) (q := 1) p hb hi (by decide)) dS_bestKind_27 rfl rfl rfl rfl rfl (Nat.le_of_ble_eq_true rfl) (Nat.le_of_ble_eq_true rfl) ?_
  refine aw_icmp_ge (tgt := 37) dS_bestKind_30 (by decide) (fun c30 => ?_) (fun c30 => ?_)
  · refine ic6_5 (w := 3) dS_bestKind_37 (by decide) (by decide) ?_
    refine aw_goto (tgt := 6) dS_bestKind_40 (by decide) ?_
    refine aw_iload dS_bestKind_6 rfl ?_
    refine aw_iconst (v := 3) dS_bestKind_8 (by decide) ?_
    refine aw_icmp_gt (tgt := 43) dS_bestKind_9 (by decide) (fun q => absurd q (by decide)) (fun _ => ?_)
    refine aw_aload_r dS_bestKind_12 rfl ?_
    refine aw_iload_n dS_bestKind_13 rfl ?_
    refine aw_iload_n dS_bestKind_14 rfl ?_
    refine aw_iload dS_bestKind_15 rfl ?_
    refine aw_iload_n dS_bestKind_17 rfl ?_
    refine an_callVr cg_S_67 (c_S_costBehind I A (b := b) (i := i) (q := 3) p hb hi (by decide)) dS_bestKind_18 rfl rfl rfl rfl rfl (Nat.le_of_ble_eq_true rfl) (Nat.le_of_ble_eq_true rfl) ?_
    refine aw_aload_r dS_bestKind_21 rfl ?_
    refine aw_iload_n dS_bestKind_22 rfl ?_
    refine aw_iload_n dS_bestKind_23 rfl ?_
    refine aw_iload dS_bestKind_24 rfl ?_
    refine aw_iload_n dS_bestKind_26 rfl ?_
    refine an_callVr cg_S_67 (c_S_costBehind I A (b := b) (i := i) (q := 1) p hb hi (by decide)) dS_bestKind_27 rfl rfl rfl rfl rfl (Nat.le_of_ble_eq_true rfl) (Nat.le_of_ble_eq_true rfl) ?_
    refine aw_icmp_ge (tgt := 37) dS_bestKind_30 (by decide) (fun c30_2 => ?_) (fun c30_2 => ?_)
    · refine ic6_5 (w := 4) dS_bestKind_37 (by decide) (by decide) ?_
      refine aw_goto (tgt := 6) dS_bestKind_40 (by decide) ?_
      refine aw_iload dS_bestKind_6 rfl ?_
      refine aw_iconst (v := 3) dS_bestKind_8 (by decide) ?_
      refine aw_icmp_gt (tgt := 43) dS_bestKind_9 (by decide) (fun _ => ?_) (fun q => absurd q (by decide))
      refine aw_iload dS_bestKind_43 rfl ?_
      exact aw_iret rfl dS_bestKind_45 ⟨rfl, by unfold bk; rw [show bk2 (fun q => A (16 + q) i) p b = 1 by unfold bk2; rw [if_neg (Int32.not_lt.mpr c30)]]; rw [if_neg (Int32.not_lt.mpr c30_2)]; rfl⟩
    · refine aw_iload dS_bestKind_33 rfl ?_
      refine si6_4 dS_bestKind_35 (by decide) ?_
      refine ic6_5 (w := 4) dS_bestKind_37 (by decide) (by decide) ?_
      refine aw_goto (tgt := 6) dS_bestKind_40 (by decide) ?_
      refine aw_iload dS_bestKind_6 rfl ?_
      refine aw_iconst (v := 3) dS_bestKind_8 (by decide) ?_
      refine aw_icmp_gt (tgt := 43) dS_bestKind_9 (by decide) (fun _ => ?_) (fun q => absurd q (by decide))
      refine aw_iload dS_bestKind_43 rfl ?_
      exact aw_iret rfl dS_bestKind_45 ⟨rfl, by unfold bk; rw [show bk2 (fun q => A (16 + q) i) p b = 1 by unfold bk2; rw [if_neg (Int32.not_lt.mpr c30)]]; rw [if_pos (Int32.not_le.mp c30_2)]; rfl⟩
  · refine aw_iload dS_bestKind_33 rfl ?_
    refine si6_4 dS_bestKind_35 (by decide) ?_
    refine ic6_5 (w := 3) dS_bestKind_37 (by decide) (by decide) ?_
    refine aw_goto (tgt := 6) dS_bestKind_40 (by decide) ?_
    refine aw_iload dS_bestKind_6 rfl ?_
    refine aw_iconst (v := 3) dS_bestKind_8 (by decide) ?_
    refine aw_icmp_gt (tgt := 43) dS_bestKind_9 (by decide) (fun q => absurd q (by decide)) (fun _ => ?_)
    refine aw_aload_r dS_bestKind_12 rfl ?_
    refine aw_iload_n dS_bestKind_13 rfl ?_
    refine aw_iload_n dS_bestKind_14 rfl ?_
    refine aw_iload dS_bestKind_15 rfl ?_
    refine aw_iload_n dS_bestKind_17 rfl ?_
    refine an_callVr cg_S_67 (c_S_costBehind I A (b := b) (i := i) (q := 3) p hb hi (by decide)) dS_bestKind_18 rfl rfl rfl rfl rfl (Nat.le_of_ble_eq_true rfl) (Nat.le_of_ble_eq_true rfl) ?_
    refine aw_aload_r dS_bestKind_21 rfl ?_
    refine aw_iload_n dS_bestKind_22 rfl ?_
    refine aw_iload_n dS_bestKind_23 rfl ?_
    refine aw_iload dS_bestKind_24 rfl ?_
    refine aw_iload_n dS_bestKind_26 rfl ?_
    refine an_callVr cg_S_67 (c_S_costBehind I A (b := b) (i := i) (q := 2) p hb hi (by decide)) dS_bestKind_27 rfl rfl rfl rfl rfl (Nat.le_of_ble_eq_true rfl) (Nat.le_of_ble_eq_true rfl) ?_
    refine aw_icmp_ge (tgt := 37) dS_bestKind_30 (by decide) (fun c30_2 => ?_) (fun c30_2 => ?_)
    · refine ic6_5 (w := 4) dS_bestKind_37 (by decide) (by decide) ?_
      refine aw_goto (tgt := 6) dS_bestKind_40 (by decide) ?_
      refine aw_iload dS_bestKind_6 rfl ?_
      refine aw_iconst (v := 3) dS_bestKind_8 (by decide) ?_
      refine aw_icmp_gt (tgt := 43) dS_bestKind_9 (by decide) (fun _ => ?_) (fun q => absurd q (by decide))
      refine aw_iload dS_bestKind_43 rfl ?_
      exact aw_iret rfl dS_bestKind_45 ⟨rfl, by unfold bk; rw [show bk2 (fun q => A (16 + q) i) p b = 2 by unfold bk2; rw [if_pos (Int32.not_le.mp c30)]]; rw [if_neg (Int32.not_lt.mpr c30_2)]; rfl⟩
    · refine aw_iload dS_bestKind_33 rfl ?_
      refine si6_4 dS_bestKind_35 (by decide) ?_
      refine ic6_5 (w := 4) dS_bestKind_37 (by decide) (by decide) ?_
      refine aw_goto (tgt := 6) dS_bestKind_40 (by decide) ?_
      refine aw_iload dS_bestKind_6 rfl ?_
      refine aw_iconst (v := 3) dS_bestKind_8 (by decide) ?_
      refine aw_icmp_gt (tgt := 43) dS_bestKind_9 (by decide) (fun _ => ?_) (fun q => absurd q (by decide))
      refine aw_iload dS_bestKind_43 rfl ?_
      exact aw_iret rfl dS_bestKind_45 ⟨rfl, by unfold bk; rw [show bk2 (fun q => A (16 + q) i) p b = 2 by unfold bk2; rw [if_pos (Int32.not_le.mp c30)]]; rw [if_pos (Int32.not_le.mp c30_2)]; rfl⟩

theorem upC {A : Nat → Nat → Int32} {c m : Nat} {x : Int32} {g : Nat → Int32} (h : ∀ q, 1 ≤ q → q ≤ 3 → A (16 + q) (m + 1) = g q) : ∀ q, 1 ≤ q → q ≤ 3 → (va_up A (16 + c) (upd (A (16 + c)) m x)) (16 + q) (m + 1) = g q := fun q a b => by
  rw [u_ne (by omega)]; exact h q a b
def WQC (N : Nat → Nat) (V : Nat → Nat → Int32) (K I : Nat → Int32) (A : Nat → Nat → Int32) (k : Nat) : QT := fun r h' => r = none ∧ ∃ A', h' = hC I A' ∧ CInv N V K I A' ∧ tblC A' (V k) (N k) (K 8) 0 ∧ A' 27 = A 27
set_option maxHeartbeats 4000000 in
set_option maxRecDepth 100000 in
theorem l_S_weighWays (N : Nat → Nat) (V : Nat → Nat → Int32) (K : Nat → Int32) (I : Nat → Int32) (A : Nat → Nat → Int32) (hI : CInv N V K I A) (hP : PInv N V K) {k : Nat} (hk : k < 4) : ∀ (m : Nat) (A1 : Nat → Nat → Int32), m ≤ 39 → CInv N V K I A1 → tblC A1 (V k) (N k) (K 8) m → A1 27 = A 27 → AN kS_weighWays 4 (WQC N V K I A k) 3 [some (.ref 10), some (.ref (2 + 2 * k)), some (.int (K 8)), some (.int (nI m - 1)), none, none] [] (hC I A1) := by
  have hv := hP.vb hk
  have h40 := hI.n k hk
  have h01 : 1 < 4 := by decide
  have h02 : 2 < 4 := by decide
  have h03 : 3 < 4 := by decide
  intro m
  induction m with
  | zero =>
    intro A1 hm h1 hD h27
    refine aw_iload_n dS_weighWays_3 rfl ?_
    refine aw_if_lt (tgt := 114) dS_weighWays_4 (by decide) (fun c4 => ?_) (fun c4 => absurd (by decide) c4)
    exact aw_vret rfl dS_weighWays_114 ⟨rfl, A1, rfl, h1, hD, h27⟩
  | succ m ih =>
    intro A1 hm h1 hD h27
    rw [nI_pred m]
    by_cases w1 : wy (V k) (N k) m
    · by_cases w2 : wy (V k) (N k) (m + 1)
      · refine aw_iload_n dS_weighWays_3 rfl ?_
        refine aw_if_lt (tgt := 114) dS_weighWays_4 (by decide) (fun c4 => absurd c4 (nI_pos (by omega))) (fun c4 => ?_)
        refine aw_aload_r dS_weighWays_7 rfl ?_
        refine aw_iload_n dS_weighWays_8 rfl ?_
        refine an_callVb cg_S_50 (c_R_hasWay N V K _ _ h1 hk m) dS_weighWays_9 rfl (hC_row _ _ hk) rfl rfl rfl (Nat.le_of_ble_eq_true rfl) (Nat.le_of_ble_eq_true rfl) (fun p9 => ?_) (fun q9 => absurd ((wy_hv hI.n hk (by omega)).mpr w1) q9)
        refine aw_if_ne (tgt := 18) dS_weighWays_12 (by decide) (fun _ => ?_) (fun q => absurd q (by decide))
        refine aw_aload_r dS_weighWays_18 rfl ?_
        refine an_getR hk fg_S_56 dS_weighWays_19 rfl ?_
        refine aw_iload_n dS_weighWays_22 rfl ?_
        refine aw_iconst (v := 1) dS_weighWays_23 (by decide) ?_
        refine aw_iadd dS_weighWays_24 ?_
        refine an_top (nI_1 m) ?_
        refine an_ldC dS_weighWays_25 (ac_val hk) rfl (by have := w1.1; omega) (by decide) ?_
        rw [(h1.1 k hk).2.2.2.2 (m + 1) (by have := w1.1; omega)]
        refine aw_aload_r dS_weighWays_26 rfl ?_
        refine an_getR hk fg_S_56 dS_weighWays_27 rfl ?_
        refine aw_iload_n dS_weighWays_30 rfl ?_
        refine an_ldC dS_weighWays_31 (ac_val hk) rfl (by have := w1.1; omega) (by decide) ?_
        rw [(h1.1 k hk).2.2.2.2 m (by have := w1.1; omega)]
        refine aw_isub dS_weighWays_32 ?_
        refine si6_4 dS_weighWays_33 (by decide) ?_
        have hA : ∀ q, 1 ≤ q → q ≤ 3 → A1 (16 + q) (m + 1) = DP (V k) (N k) (K 8) (m + 1) q := fun q a b => hD (m + 1) (by omega) w2 q a b
        refine aw_iconst (v := 1) dS_weighWays_35 (by decide) ?_
        refine si6_5 dS_weighWays_36 (by decide) ?_
        refine aw_iload dS_weighWays_38 rfl ?_
        refine aw_iconst (v := 3) dS_weighWays_40 (by decide) ?_
        refine aw_icmp_gt (tgt := 108) dS_weighWays_41 (by decide) (fun q => absurd q (by decide)) (fun _ => ?_)
        refine aw_aload_r dS_weighWays_44 rfl ?_
        refine aw_get fg_S_26 dS_weighWays_45 rfl rfl ?_
        refine aw_iload dS_weighWays_48 rfl ?_
        refine an_costs dS_weighWays_50 (rfl : (1 : Int32) = nI 1) h01 ?_
        refine aw_iload_n dS_weighWays_51 rfl ?_
        refine aw_iload dS_weighWays_52 rfl ?_
        refine aw_iload dS_weighWays_54 rfl ?_
        refine an_callSr cg_S_59 (c_S_costOfWay1 _ hv w1) dS_weighWays_56 rfl rfl (Nat.le_of_ble_eq_true rfl) (Nat.le_of_ble_eq_true rfl) ?_
        refine an_stC dS_weighWays_59 (ac_cost h01) rfl (by omega) (by decide) ?_
        refine aw_aload_r dS_weighWays_60 rfl ?_
        refine aw_iload_n dS_weighWays_61 rfl ?_
        refine aw_iconst (v := 1) dS_weighWays_62 (by decide) ?_
        refine aw_iadd dS_weighWays_63 ?_
        refine an_top (nI_1 m) ?_
        refine an_callVb cg_S_50 (c_R_hasWay N V K _ _ (cinv_a (h1) (by decide) _) hk (m + 1)) dS_weighWays_64 rfl (hC_row _ _ hk) rfl rfl rfl (Nat.le_of_ble_eq_true rfl) (Nat.le_of_ble_eq_true rfl) (fun p64 => ?_) (fun q9 => absurd ((wy_hv hI.n hk (by omega)).mpr w2) q9)
        refine aw_if_eq (tgt := 102) dS_weighWays_67 (by decide) (fun q => absurd q (by decide)) (fun _ => ?_)
        refine aw_aload_r dS_weighWays_70 rfl ?_
        refine aw_get fg_S_26 dS_weighWays_71 rfl rfl ?_
        refine aw_iload dS_weighWays_74 rfl ?_
        refine an_costs dS_weighWays_76 (rfl : (1 : Int32) = nI 1) h01 ?_
        refine aw_iload_n dS_weighWays_77 rfl ?_
        refine aw_dup2 dS_weighWays_78 rfl rfl ?_
        refine an_ldC dS_weighWays_79 (ac_cost h01) rfl (by omega) (by decide) ?_
        refine an_top (y := wc (V k) m 1) u_eq ?_
        refine aw_aload_r dS_weighWays_80 rfl ?_
        refine aw_iload dS_weighWays_81 rfl ?_
        refine aw_iload_n dS_weighWays_83 rfl ?_
        refine aw_iconst (v := 1) dS_weighWays_84 (by decide) ?_
        refine aw_iadd dS_weighWays_85 ?_
        refine an_top (nI_1 m) ?_
        refine aw_aload_r dS_weighWays_86 rfl ?_
        refine aw_iload dS_weighWays_87 rfl ?_
        refine aw_iload_n dS_weighWays_89 rfl ?_
        refine aw_iconst (v := 1) dS_weighWays_90 (by decide) ?_
        refine aw_iadd dS_weighWays_91 ?_
        refine an_top (nI_1 m) ?_
        refine aw_iload_n dS_weighWays_92 rfl ?_
        refine an_callVr cg_S_63 (c_S_bestKind I _ (b := 1) (i := m + 1) (K 8) (by decide) (by have := w2.1; omega)) dS_weighWays_93 rfl rfl rfl rfl rfl (Nat.le_of_ble_eq_true rfl) (Nat.le_of_ble_eq_true rfl) ?_
        refine an_top (congrArg nI (bk_congr (upC hA))) ?_
        refine aw_iload_n dS_weighWays_96 rfl ?_
        refine an_callVr cg_S_67 (c_S_costBehind I _ (b := 1) (i := m + 1) (q := bk (DP (V k) (N k) (K 8) (m + 1)) (K 8) 1) (K 8) (by decide) (by have := w2.1; omega) (by have := bk_range (g := (DP (V k) (N k) (K 8) (m + 1))) (p := K 8) (b := 1); omega)) dS_weighWays_97 rfl rfl rfl rfl rfl (Nat.le_of_ble_eq_true rfl) (Nat.le_of_ble_eq_true rfl) ?_
        refine an_top ((cb_congr (upC hA) bk_range.1 bk_range.2).trans mn3_bk.symm) ?_
        refine aw_iadd dS_weighWays_100 ?_
        refine an_top (show wc (V k) m 1 + mn3 (DP (V k) (N k) (K 8) (m + 1)) (K 8) 1 = DP (V k) (N k) (K 8) m 1 by rw [DP_eq (by omega), if_pos w1, if_pos w2]) ?_
        refine an_stC dS_weighWays_101 (ac_cost h01) rfl (by omega) (by decide) ?_
        refine ic6_5 (w := 2) dS_weighWays_102 (by decide) (by decide) ?_
        refine aw_goto (tgt := 38) dS_weighWays_105 (by decide) ?_
        refine aw_iload dS_weighWays_38 rfl ?_
        refine aw_iconst (v := 3) dS_weighWays_40 (by decide) ?_
        refine aw_icmp_gt (tgt := 108) dS_weighWays_41 (by decide) (fun q => absurd q (by decide)) (fun _ => ?_)
        refine aw_aload_r dS_weighWays_44 rfl ?_
        refine aw_get fg_S_26 dS_weighWays_45 rfl rfl ?_
        refine aw_iload dS_weighWays_48 rfl ?_
        refine an_costs dS_weighWays_50 (rfl : (2 : Int32) = nI 2) h02 ?_
        refine aw_iload_n dS_weighWays_51 rfl ?_
        refine aw_iload dS_weighWays_52 rfl ?_
        refine aw_iload dS_weighWays_54 rfl ?_
        refine an_callSr cg_S_59 (c_S_costOfWay2 _ hv w1) dS_weighWays_56 rfl rfl (Nat.le_of_ble_eq_true rfl) (Nat.le_of_ble_eq_true rfl) ?_
        refine an_stC dS_weighWays_59 (ac_cost h02) rfl (by omega) (by decide) ?_
        refine aw_aload_r dS_weighWays_60 rfl ?_
        refine aw_iload_n dS_weighWays_61 rfl ?_
        refine aw_iconst (v := 1) dS_weighWays_62 (by decide) ?_
        refine aw_iadd dS_weighWays_63 ?_
        refine an_top (nI_1 m) ?_
        refine an_callVb cg_S_50 (c_R_hasWay N V K _ _ (cinv_a (cinv_a (cinv_a (h1) (by decide) _) (by decide) _) (by decide) _) hk (m + 1)) dS_weighWays_64 rfl (hC_row _ _ hk) rfl rfl rfl (Nat.le_of_ble_eq_true rfl) (Nat.le_of_ble_eq_true rfl) (fun p64 => ?_) (fun q9 => absurd ((wy_hv hI.n hk (by omega)).mpr w2) q9)
        refine aw_if_eq (tgt := 102) dS_weighWays_67 (by decide) (fun q => absurd q (by decide)) (fun _ => ?_)
        refine aw_aload_r dS_weighWays_70 rfl ?_
        refine aw_get fg_S_26 dS_weighWays_71 rfl rfl ?_
        refine aw_iload dS_weighWays_74 rfl ?_
        refine an_costs dS_weighWays_76 (rfl : (2 : Int32) = nI 2) h02 ?_
        refine aw_iload_n dS_weighWays_77 rfl ?_
        refine aw_dup2 dS_weighWays_78 rfl rfl ?_
        refine an_ldC dS_weighWays_79 (ac_cost h02) rfl (by omega) (by decide) ?_
        refine an_top (y := wc (V k) m 2) u_eq ?_
        refine aw_aload_r dS_weighWays_80 rfl ?_
        refine aw_iload dS_weighWays_81 rfl ?_
        refine aw_iload_n dS_weighWays_83 rfl ?_
        refine aw_iconst (v := 1) dS_weighWays_84 (by decide) ?_
        refine aw_iadd dS_weighWays_85 ?_
        refine an_top (nI_1 m) ?_
        refine aw_aload_r dS_weighWays_86 rfl ?_
        refine aw_iload dS_weighWays_87 rfl ?_
        refine aw_iload_n dS_weighWays_89 rfl ?_
        refine aw_iconst (v := 1) dS_weighWays_90 (by decide) ?_
        refine aw_iadd dS_weighWays_91 ?_
        refine an_top (nI_1 m) ?_
        refine aw_iload_n dS_weighWays_92 rfl ?_
        refine an_callVr cg_S_63 (c_S_bestKind I _ (b := 2) (i := m + 1) (K 8) (by decide) (by have := w2.1; omega)) dS_weighWays_93 rfl rfl rfl rfl rfl (Nat.le_of_ble_eq_true rfl) (Nat.le_of_ble_eq_true rfl) ?_
        refine an_top (congrArg nI (bk_congr (upC (upC (upC hA))))) ?_
        refine aw_iload_n dS_weighWays_96 rfl ?_
        refine an_callVr cg_S_67 (c_S_costBehind I _ (b := 2) (i := m + 1) (q := bk (DP (V k) (N k) (K 8) (m + 1)) (K 8) 2) (K 8) (by decide) (by have := w2.1; omega) (by have := bk_range (g := (DP (V k) (N k) (K 8) (m + 1))) (p := K 8) (b := 2); omega)) dS_weighWays_97 rfl rfl rfl rfl rfl (Nat.le_of_ble_eq_true rfl) (Nat.le_of_ble_eq_true rfl) ?_
        refine an_top ((cb_congr (upC (upC (upC hA))) bk_range.1 bk_range.2).trans mn3_bk.symm) ?_
        refine aw_iadd dS_weighWays_100 ?_
        refine an_top (show wc (V k) m 2 + mn3 (DP (V k) (N k) (K 8) (m + 1)) (K 8) 2 = DP (V k) (N k) (K 8) m 2 by rw [DP_eq (by omega), if_pos w1, if_pos w2]) ?_
        refine an_stC dS_weighWays_101 (ac_cost h02) rfl (by omega) (by decide) ?_
        refine ic6_5 (w := 3) dS_weighWays_102 (by decide) (by decide) ?_
        refine aw_goto (tgt := 38) dS_weighWays_105 (by decide) ?_
        refine aw_iload dS_weighWays_38 rfl ?_
        refine aw_iconst (v := 3) dS_weighWays_40 (by decide) ?_
        refine aw_icmp_gt (tgt := 108) dS_weighWays_41 (by decide) (fun q => absurd q (by decide)) (fun _ => ?_)
        refine aw_aload_r dS_weighWays_44 rfl ?_
        refine aw_get fg_S_26 dS_weighWays_45 rfl rfl ?_
        refine aw_iload dS_weighWays_48 rfl ?_
        refine an_costs dS_weighWays_50 (rfl : (3 : Int32) = nI 3) h03 ?_
        refine aw_iload_n dS_weighWays_51 rfl ?_
        refine aw_iload dS_weighWays_52 rfl ?_
        refine aw_iload dS_weighWays_54 rfl ?_
        refine an_callSr cg_S_59 (c_S_costOfWay3 _ hv w1) dS_weighWays_56 rfl rfl (Nat.le_of_ble_eq_true rfl) (Nat.le_of_ble_eq_true rfl) ?_
        refine an_stC dS_weighWays_59 (ac_cost h03) rfl (by omega) (by decide) ?_
        refine aw_aload_r dS_weighWays_60 rfl ?_
        refine aw_iload_n dS_weighWays_61 rfl ?_
        refine aw_iconst (v := 1) dS_weighWays_62 (by decide) ?_
        refine aw_iadd dS_weighWays_63 ?_
        refine an_top (nI_1 m) ?_
        refine an_callVb cg_S_50 (c_R_hasWay N V K _ _ (cinv_a (cinv_a (cinv_a (cinv_a (cinv_a (h1) (by decide) _) (by decide) _) (by decide) _) (by decide) _) (by decide) _) hk (m + 1)) dS_weighWays_64 rfl (hC_row _ _ hk) rfl rfl rfl (Nat.le_of_ble_eq_true rfl) (Nat.le_of_ble_eq_true rfl) (fun p64 => ?_) (fun q9 => absurd ((wy_hv hI.n hk (by omega)).mpr w2) q9)
        refine aw_if_eq (tgt := 102) dS_weighWays_67 (by decide) (fun q => absurd q (by decide)) (fun _ => ?_)
        refine aw_aload_r dS_weighWays_70 rfl ?_
        refine aw_get fg_S_26 dS_weighWays_71 rfl rfl ?_
        refine aw_iload dS_weighWays_74 rfl ?_
        refine an_costs dS_weighWays_76 (rfl : (3 : Int32) = nI 3) h03 ?_
        refine aw_iload_n dS_weighWays_77 rfl ?_
        refine aw_dup2 dS_weighWays_78 rfl rfl ?_
        refine an_ldC dS_weighWays_79 (ac_cost h03) rfl (by omega) (by decide) ?_
        refine an_top (y := wc (V k) m 3) u_eq ?_
        refine aw_aload_r dS_weighWays_80 rfl ?_
        refine aw_iload dS_weighWays_81 rfl ?_
        refine aw_iload_n dS_weighWays_83 rfl ?_
        refine aw_iconst (v := 1) dS_weighWays_84 (by decide) ?_
        refine aw_iadd dS_weighWays_85 ?_
        refine an_top (nI_1 m) ?_
        refine aw_aload_r dS_weighWays_86 rfl ?_
        refine aw_iload dS_weighWays_87 rfl ?_
        refine aw_iload_n dS_weighWays_89 rfl ?_
        refine aw_iconst (v := 1) dS_weighWays_90 (by decide) ?_
        refine aw_iadd dS_weighWays_91 ?_
        refine an_top (nI_1 m) ?_
        refine aw_iload_n dS_weighWays_92 rfl ?_
        refine an_callVr cg_S_63 (c_S_bestKind I _ (b := 3) (i := m + 1) (K 8) (by decide) (by have := w2.1; omega)) dS_weighWays_93 rfl rfl rfl rfl rfl (Nat.le_of_ble_eq_true rfl) (Nat.le_of_ble_eq_true rfl) ?_
        refine an_top (congrArg nI (bk_congr (upC (upC (upC (upC (upC hA))))))) ?_
        refine aw_iload_n dS_weighWays_96 rfl ?_
        refine an_callVr cg_S_67 (c_S_costBehind I _ (b := 3) (i := m + 1) (q := bk (DP (V k) (N k) (K 8) (m + 1)) (K 8) 3) (K 8) (by decide) (by have := w2.1; omega) (by have := bk_range (g := (DP (V k) (N k) (K 8) (m + 1))) (p := K 8) (b := 3); omega)) dS_weighWays_97 rfl rfl rfl rfl rfl (Nat.le_of_ble_eq_true rfl) (Nat.le_of_ble_eq_true rfl) ?_
        refine an_top ((cb_congr (upC (upC (upC (upC (upC hA))))) bk_range.1 bk_range.2).trans mn3_bk.symm) ?_
        refine aw_iadd dS_weighWays_100 ?_
        refine an_top (show wc (V k) m 3 + mn3 (DP (V k) (N k) (K 8) (m + 1)) (K 8) 3 = DP (V k) (N k) (K 8) m 3 by rw [DP_eq (by omega), if_pos w1, if_pos w2]) ?_
        refine an_stC dS_weighWays_101 (ac_cost h03) rfl (by omega) (by decide) ?_
        refine ic6_5 (w := 4) dS_weighWays_102 (by decide) (by decide) ?_
        refine aw_goto (tgt := 38) dS_weighWays_105 (by decide) ?_
        refine aw_iload dS_weighWays_38 rfl ?_
        refine aw_iconst (v := 3) dS_weighWays_40 (by decide) ?_
        refine aw_icmp_gt (tgt := 108) dS_weighWays_41 (by decide) (fun _ => ?_) (fun q => absurd q (by decide))
        refine ic6_3 dS_weighWays_108 (show nI m + Int32.ofInt (-1) = nI m - 1 by rw [Int32.sub_eq_add_neg]; rfl) (by decide) ?_
        refine aw_goto (tgt := 3) dS_weighWays_111 (by decide) ?_
        refine an_weak (ih _ (by omega) (cinv_a (cinv_a (cinv_a (cinv_a (cinv_a (cinv_a (h1) (by decide) _) (by decide) _) (by decide) _) (by decide) _) (by decide) _) (by decide) _) (fun i a w kd b c => ?_) h27) ⟨rfl, rfl, rfl, rfl, trivial⟩
        by_cases e : i = m
        · subst e
          rcases (show kd = 1 ∨ kd = 2 ∨ kd = 3 by omega) with rfl | rfl | rfl
          · rw [u_q (by decide), u_q (by decide), u_q (by decide), u_q (by decide), u_eq]
          · rw [u_q (by decide), u_q (by decide), u_eq]
          · rw [u_eq]
        · rw [u_ne e, u_ne e, u_ne e, u_ne e, u_ne e, u_ne e]
          exact hD i (by omega) w kd b c
      · refine aw_iload_n dS_weighWays_3 rfl ?_
        refine aw_if_lt (tgt := 114) dS_weighWays_4 (by decide) (fun c4 => absurd c4 (nI_pos (by omega))) (fun c4 => ?_)
        refine aw_aload_r dS_weighWays_7 rfl ?_
        refine aw_iload_n dS_weighWays_8 rfl ?_
        refine an_callVb cg_S_50 (c_R_hasWay N V K _ _ h1 hk m) dS_weighWays_9 rfl (hC_row _ _ hk) rfl rfl rfl (Nat.le_of_ble_eq_true rfl) (Nat.le_of_ble_eq_true rfl) (fun p9 => ?_) (fun q9 => absurd ((wy_hv hI.n hk (by omega)).mpr w1) q9)
        refine aw_if_ne (tgt := 18) dS_weighWays_12 (by decide) (fun _ => ?_) (fun q => absurd q (by decide))
        refine aw_aload_r dS_weighWays_18 rfl ?_
        refine an_getR hk fg_S_56 dS_weighWays_19 rfl ?_
        refine aw_iload_n dS_weighWays_22 rfl ?_
        refine aw_iconst (v := 1) dS_weighWays_23 (by decide) ?_
        refine aw_iadd dS_weighWays_24 ?_
        refine an_top (nI_1 m) ?_
        refine an_ldC dS_weighWays_25 (ac_val hk) rfl (by have := w1.1; omega) (by decide) ?_
        rw [(h1.1 k hk).2.2.2.2 (m + 1) (by have := w1.1; omega)]
        refine aw_aload_r dS_weighWays_26 rfl ?_
        refine an_getR hk fg_S_56 dS_weighWays_27 rfl ?_
        refine aw_iload_n dS_weighWays_30 rfl ?_
        refine an_ldC dS_weighWays_31 (ac_val hk) rfl (by have := w1.1; omega) (by decide) ?_
        rw [(h1.1 k hk).2.2.2.2 m (by have := w1.1; omega)]
        refine aw_isub dS_weighWays_32 ?_
        refine si6_4 dS_weighWays_33 (by decide) ?_
        refine aw_iconst (v := 1) dS_weighWays_35 (by decide) ?_
        refine si6_5 dS_weighWays_36 (by decide) ?_
        refine aw_iload dS_weighWays_38 rfl ?_
        refine aw_iconst (v := 3) dS_weighWays_40 (by decide) ?_
        refine aw_icmp_gt (tgt := 108) dS_weighWays_41 (by decide) (fun q => absurd q (by decide)) (fun _ => ?_)
        refine aw_aload_r dS_weighWays_44 rfl ?_
        refine aw_get fg_S_26 dS_weighWays_45 rfl rfl ?_
        refine aw_iload dS_weighWays_48 rfl ?_
        refine an_costs dS_weighWays_50 (rfl : (1 : Int32) = nI 1) h01 ?_
        refine aw_iload_n dS_weighWays_51 rfl ?_
        refine aw_iload dS_weighWays_52 rfl ?_
        refine aw_iload dS_weighWays_54 rfl ?_
        refine an_callSr cg_S_59 (c_S_costOfWay1 _ hv w1) dS_weighWays_56 rfl rfl (Nat.le_of_ble_eq_true rfl) (Nat.le_of_ble_eq_true rfl) ?_
        refine an_stC dS_weighWays_59 (ac_cost h01) rfl (by omega) (by decide) ?_
        refine aw_aload_r dS_weighWays_60 rfl ?_
        refine aw_iload_n dS_weighWays_61 rfl ?_
        refine aw_iconst (v := 1) dS_weighWays_62 (by decide) ?_
        refine aw_iadd dS_weighWays_63 ?_
        refine an_top (nI_1 m) ?_
        refine an_callVb cg_S_50 (c_R_hasWay N V K _ _ (cinv_a (h1) (by decide) _) hk (m + 1)) dS_weighWays_64 rfl (hC_row _ _ hk) rfl rfl rfl (Nat.le_of_ble_eq_true rfl) (Nat.le_of_ble_eq_true rfl) (fun q9 => absurd q9 (fun q => w2 ((wy_hv hI.n hk (by omega)).mp q))) (fun p64 => ?_)
        refine aw_if_eq (tgt := 102) dS_weighWays_67 (by decide) (fun _ => ?_) (fun q => absurd q (by decide))
        refine ic6_5 (w := 2) dS_weighWays_102 (by decide) (by decide) ?_
        refine aw_goto (tgt := 38) dS_weighWays_105 (by decide) ?_
        refine aw_iload dS_weighWays_38 rfl ?_
        refine aw_iconst (v := 3) dS_weighWays_40 (by decide) ?_
        refine aw_icmp_gt (tgt := 108) dS_weighWays_41 (by decide) (fun q => absurd q (by decide)) (fun _ => ?_)
        refine aw_aload_r dS_weighWays_44 rfl ?_
        refine aw_get fg_S_26 dS_weighWays_45 rfl rfl ?_
        refine aw_iload dS_weighWays_48 rfl ?_
        refine an_costs dS_weighWays_50 (rfl : (2 : Int32) = nI 2) h02 ?_
        refine aw_iload_n dS_weighWays_51 rfl ?_
        refine aw_iload dS_weighWays_52 rfl ?_
        refine aw_iload dS_weighWays_54 rfl ?_
        refine an_callSr cg_S_59 (c_S_costOfWay2 _ hv w1) dS_weighWays_56 rfl rfl (Nat.le_of_ble_eq_true rfl) (Nat.le_of_ble_eq_true rfl) ?_
        refine an_stC dS_weighWays_59 (ac_cost h02) rfl (by omega) (by decide) ?_
        refine aw_aload_r dS_weighWays_60 rfl ?_
        refine aw_iload_n dS_weighWays_61 rfl ?_
        refine aw_iconst (v := 1) dS_weighWays_62 (by decide) ?_
        refine aw_iadd dS_weighWays_63 ?_
        refine an_top (nI_1 m) ?_
        refine an_callVb cg_S_50 (c_R_hasWay N V K _ _ (cinv_a (cinv_a (h1) (by decide) _) (by decide) _) hk (m + 1)) dS_weighWays_64 rfl (hC_row _ _ hk) rfl rfl rfl (Nat.le_of_ble_eq_true rfl) (Nat.le_of_ble_eq_true rfl) (fun q9 => absurd q9 (fun q => w2 ((wy_hv hI.n hk (by omega)).mp q))) (fun p64 => ?_)
        refine aw_if_eq (tgt := 102) dS_weighWays_67 (by decide) (fun _ => ?_) (fun q => absurd q (by decide))
        refine ic6_5 (w := 3) dS_weighWays_102 (by decide) (by decide) ?_
        refine aw_goto (tgt := 38) dS_weighWays_105 (by decide) ?_
        refine aw_iload dS_weighWays_38 rfl ?_
        refine aw_iconst (v := 3) dS_weighWays_40 (by decide) ?_
        refine aw_icmp_gt (tgt := 108) dS_weighWays_41 (by decide) (fun q => absurd q (by decide)) (fun _ => ?_)
        refine aw_aload_r dS_weighWays_44 rfl ?_
        refine aw_get fg_S_26 dS_weighWays_45 rfl rfl ?_
        refine aw_iload dS_weighWays_48 rfl ?_
        refine an_costs dS_weighWays_50 (rfl : (3 : Int32) = nI 3) h03 ?_
        refine aw_iload_n dS_weighWays_51 rfl ?_
        refine aw_iload dS_weighWays_52 rfl ?_
        refine aw_iload dS_weighWays_54 rfl ?_
        refine an_callSr cg_S_59 (c_S_costOfWay3 _ hv w1) dS_weighWays_56 rfl rfl (Nat.le_of_ble_eq_true rfl) (Nat.le_of_ble_eq_true rfl) ?_
        refine an_stC dS_weighWays_59 (ac_cost h03) rfl (by omega) (by decide) ?_
        refine aw_aload_r dS_weighWays_60 rfl ?_
        refine aw_iload_n dS_weighWays_61 rfl ?_
        refine aw_iconst (v := 1) dS_weighWays_62 (by decide) ?_
        refine aw_iadd dS_weighWays_63 ?_
        refine an_top (nI_1 m) ?_
        refine an_callVb cg_S_50 (c_R_hasWay N V K _ _ (cinv_a (cinv_a (cinv_a (h1) (by decide) _) (by decide) _) (by decide) _) hk (m + 1)) dS_weighWays_64 rfl (hC_row _ _ hk) rfl rfl rfl (Nat.le_of_ble_eq_true rfl) (Nat.le_of_ble_eq_true rfl) (fun q9 => absurd q9 (fun q => w2 ((wy_hv hI.n hk (by omega)).mp q))) (fun p64 => ?_)
        refine aw_if_eq (tgt := 102) dS_weighWays_67 (by decide) (fun _ => ?_) (fun q => absurd q (by decide))
        refine ic6_5 (w := 4) dS_weighWays_102 (by decide) (by decide) ?_
        refine aw_goto (tgt := 38) dS_weighWays_105 (by decide) ?_
        refine aw_iload dS_weighWays_38 rfl ?_
        refine aw_iconst (v := 3) dS_weighWays_40 (by decide) ?_
        refine aw_icmp_gt (tgt := 108) dS_weighWays_41 (by decide) (fun _ => ?_) (fun q => absurd q (by decide))
        refine ic6_3 dS_weighWays_108 (show nI m + Int32.ofInt (-1) = nI m - 1 by rw [Int32.sub_eq_add_neg]; rfl) (by decide) ?_
        refine aw_goto (tgt := 3) dS_weighWays_111 (by decide) ?_
        refine an_weak (ih _ (by omega) (cinv_a (cinv_a (cinv_a (h1) (by decide) _) (by decide) _) (by decide) _) (fun i a w kd b c => ?_) h27) ⟨rfl, rfl, rfl, rfl, trivial⟩
        by_cases e : i = m
        · subst e
          rcases (show kd = 1 ∨ kd = 2 ∨ kd = 3 by omega) with rfl | rfl | rfl
          · rw [u_q (by decide), u_q (by decide), u_eq]; rw [DP_eq (by omega), if_pos w1, if_neg w2, Int32.add_zero]
          · rw [u_q (by decide), u_eq]; rw [DP_eq (by omega), if_pos w1, if_neg w2, Int32.add_zero]
          · rw [u_eq]; rw [DP_eq (by omega), if_pos w1, if_neg w2, Int32.add_zero]
        · rw [u_ne e, u_ne e, u_ne e]
          exact hD i (by omega) w kd b c
    · refine aw_iload_n dS_weighWays_3 rfl ?_
      refine aw_if_lt (tgt := 114) dS_weighWays_4 (by decide) (fun c4 => absurd c4 (nI_pos (by omega))) (fun c4 => ?_)
      refine aw_aload_r dS_weighWays_7 rfl ?_
      refine aw_iload_n dS_weighWays_8 rfl ?_
      refine an_callVb cg_S_50 (c_R_hasWay N V K _ _ h1 hk m) dS_weighWays_9 rfl (hC_row _ _ hk) rfl rfl rfl (Nat.le_of_ble_eq_true rfl) (Nat.le_of_ble_eq_true rfl) (fun q9 => absurd q9 (fun q => w1 ((wy_hv hI.n hk (by omega)).mp q))) (fun p9 => ?_)
      refine aw_if_ne (tgt := 18) dS_weighWays_12 (by decide) (fun q => absurd q (by decide)) (fun _ => ?_)
      refine aw_goto (tgt := 108) dS_weighWays_15 (by decide) ?_
      refine ic6_3 dS_weighWays_108 (show nI m + Int32.ofInt (-1) = nI m - 1 by rw [Int32.sub_eq_add_neg]; rfl) (by decide) ?_
      refine aw_goto (tgt := 3) dS_weighWays_111 (by decide) ?_
      exact an_weak (ih A1 (by omega) h1 (fun i a w kd b c => hD i (Nat.lt_of_le_of_ne a (fun e => w1 (by rw [e]; exact w))) w kd b c) h27) ⟨rfl, rfl, rfl, rfl, trivial⟩

set_option maxHeartbeats 4000000 in
set_option maxRecDepth 100000 in
theorem c_S_weighWays (N : Nat → Nat) (V : Nat → Nat → Int32) (K : Nat → Int32) (I : Nat → Int32) (A : Nat → Nat → Int32) (hI : CInv N V K I A) (hP : PInv N V K) {k : Nat} (hk : k < 4) : AM kS_weighWays 4 [.ref 10, .ref (2 + 2 * k), .int (K 8)] (hC I A) (WQC N V K I A k) := by
  refine AMet.of (by decide) (by simp [Value.category]) (Nat.le_of_ble_eq_true rfl) ?_
  show AN _ _ _ 0 [some _, some _, some _, none, none, none] [] _
  refine aw_bipush (v := 38) dS_weighWays_0 (by decide) ?_
  refine si6_3 dS_weighWays_2 (by decide) ?_
  exact an_weak (l_S_weighWays N V K I A hI hP hk 39 A (by omega) hI (fun i a w => by have := w.1; have := hI.n k hk; omega) rfl) ⟨rfl, rfl, rfl, rfl, trivial⟩
