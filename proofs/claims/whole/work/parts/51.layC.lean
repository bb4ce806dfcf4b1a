set_option maxHeartbeats 4000000 in
set_option maxRecDepth 100000 in
theorem l_L_isFree (N : Nat → Nat) (V : Nat → Nat → Int32) (K : Nat → Int32) (hP : PInv N V K) (s : Int32) (h9 : ¬ K 9 = 0) (I : Nat → Int32) (A : Nat → Nat → Int32) {row p c : Nat} (hr : row < 4) (hp : p < 4) (hL : LI N V K s I A) (hTr : Trl N V s c row A) (hh : lhs N V s row) : ∀ (n i : Nat), i + n = row → (∀ a, a < i → ¬ (lhs N V s a ∧ dig c a = p ∧ lg N V K s row - lg N V K s a < (K 10).toInt ∧ lg N V K s a - lg N V K s row < (K 10).toInt)) → AN kL_isFree 2 (BQ (Fr (lhs N V s) (lg N V K s) (K 10).toInt c row p) (hC I A)) 2 [some (.ref 22), some (.int (nI row)), some (.int (nI p)), some (.int (nI i))] [] (hC I A) := by
  intro n
  induction n with
  | zero =>
    intro i hin hq
    have hi : i = row := by omega
    subst hi
    refine aw_iload_n dL_isFree_2 rfl ?_
    refine aw_iload_n dL_isFree_3 rfl ?_
    refine aw_icmp_ge (tgt := 48) dL_isFree_4 (by decide) (fun c4 => ?_) (fun c4 => absurd (Int32.le_refl _) c4)
    refine aw_iconst (v := 1) dL_isFree_48 (by decide) ?_
    exact aw_zret rfl (Or.inr rfl) dL_isFree_49 ⟨rfl, Or.inl ⟨hq, rfl⟩⟩
  | succ n ih =>
    intro i hin hq
    refine aw_iload_n dL_isFree_2 rfl ?_
    refine aw_iload_n dL_isFree_3 rfl ?_
    refine aw_icmp_ge (tgt := 48) dL_isFree_4 (by decide) (fun c4 => absurd c4 (nI_ge (by omega) (by omega))) (fun c4 => ?_)
    refine aw_aload_r dL_isFree_7 rfl ?_
    refine aw_get fg_L_21 dL_isFree_8 rfl rfl ?_
    refine aw_iload_n dL_isFree_11 rfl ?_
    refine an_ldC dL_isFree_12 ac_26 rfl (by omega) (by decide) ?_
    refine an_top (hTr i (by omega)) ?_
    refine aw_iload_n dL_isFree_13 rfl ?_
    refine aw_icmp_ne (tgt := 42) dL_isFree_14 (by decide) (fun c14 => ?_) (fun c14 => ?_)
    · refine ic4_3 dL_isFree_42 (nI_1 i) (by decide) ?_
      refine aw_goto (tgt := 2) dL_isFree_45 (by decide) ?_
      exact an_weak (ih (i + 1) (by omega) (fun a ha => by
        by_cases e : a = i
        · subst e; exact fun z => c14 (by rw [sl_t z.1, z.2.1])
        · exact hq a (by omega))) ⟨rfl, rfl, rfl, rfl, trivial⟩
    · have hsl := sl_eq (by omega) c14
      refine aw_aload_r dL_isFree_17 rfl ?_
      refine aw_get fg_L_9 dL_isFree_18 rfl rfl ?_
      refine aw_iload_n dL_isFree_21 rfl ?_
      refine an_ldC dL_isFree_22 ac_23 rfl (by omega) (by decide) ?_
      refine an_top (hL.2.1 row (by omega)) ?_
      refine aw_aload_r dL_isFree_23 rfl ?_
      refine aw_get fg_L_9 dL_isFree_24 rfl rfl ?_
      refine aw_iload_n dL_isFree_27 rfl ?_
      refine an_ldC dL_isFree_28 ac_23 rfl (by omega) (by decide) ?_
      refine an_top (hL.2.1 i (by omega)) ?_
      refine aw_isub dL_isFree_29 ?_
      refine aw_abs cg_L_55 dL_isFree_30 (Nat.le_of_ble_eq_true rfl) (Nat.le_of_ble_eq_true rfl) ⟨Nat.le_refl _, Nat.le_refl _⟩ ?_
      refine aw_aload_r dL_isFree_33 rfl ?_
      refine aw_get fg_L_24 dL_isFree_34 rfl rfl ?_
      refine an_top (y := K 10) hL.2.2.2.1 ?_
      refine aw_icmp_ge (tgt := 42) dL_isFree_37 (by decide) (fun c37 => ?_) (fun c37 => ?_)
      · refine ic4_3 dL_isFree_42 (nI_1 i) (by decide) ?_
        refine aw_goto (tgt := 2) dL_isFree_45 (by decide) ?_
        exact an_weak (ih (i + 1) (by omega) (fun a ha => by
          by_cases e : a = i
          · subst e; exact fun z => absurd ⟨z.2.2.1, z.2.2.2⟩ ((abs_iff (hg_b hP h9 hh) (hg_b hP h9 hsl.1)).mp c37)
          · exact hq a (by omega))) ⟨rfl, rfl, rfl, rfl, trivial⟩
      · refine aw_iconst (v := 0) dL_isFree_40 (by decide) ?_
        exact aw_zret rfl (Or.inl rfl) dL_isFree_41 ⟨rfl, Or.inr ⟨fun z => z i (by omega) ⟨hsl.1, hsl.2, Classical.byContradiction fun w => c37 ((abs_iff (hg_b hP h9 hh) (hg_b hP h9 hsl.1)).mpr (fun y => w y.1)), Classical.byContradiction fun w => c37 ((abs_iff (hg_b hP h9 hh) (hg_b hP h9 hsl.1)).mpr (fun y => w y.2))⟩, rfl⟩⟩

set_option maxHeartbeats 4000000 in
set_option maxRecDepth 100000 in
theorem c_L_isFree (N : Nat → Nat) (V : Nat → Nat → Int32) (K : Nat → Int32) (hP : PInv N V K) (s : Int32) (h9 : ¬ K 9 = 0) (I : Nat → Int32) (A : Nat → Nat → Int32) {row p c : Nat} (hr : row < 4) (hp : p < 4) (hL : LI N V K s I A) (hTr : Trl N V s c row A) (hh : lhs N V s row) : AM kL_isFree 2 [.ref 22, .int (nI row), .int (nI p)] (hC I A) (BQ (Fr (lhs N V s) (lg N V K s) (K 10).toInt c row p) (hC I A)) := by
  refine AMet.of (by decide) (by simp [Value.category]) (Nat.le_of_ble_eq_true rfl) ?_
  show AN _ _ _ 0 [some _, some _, some _, none] [] _
  refine aw_iconst (v := 0) dL_isFree_0 (by decide) ?_
  refine si4_3 dL_isFree_1 (by decide) ?_
  exact an_weak (l_L_isFree N V K hP s h9 I A hr hp hL hTr hh row 0 (by omega) (fun a ha => by omega)) ⟨rfl, rfl, rfl, rfl, trivial⟩

set_option maxHeartbeats 4000000 in
set_option maxRecDepth 100000 in
theorem c_L_tryWith (N : Nat → Nat) (V : Nat → Nat → Int32) (K : Nat → Int32) (hP : PInv N V K) (s : Int32) (h9 : ¬ K 9 = 0) {row n c : Nat} {b : Option Nat} (hr : row < 4) (ih : TryH N V K s (row + 1) n) (I : Nat → Int32) (A : Nat → Nat → Int32) (v : Int32) (hL : LI N V K s I A) (hS : Lst N V K s b I A) (hTr : Trl N V s c (row + 1) (va_up A 26 (upd (A 26) row v))) (h0 : c % pw (row + 1) = 0) (ho : lok N V K s c (row + 1)) : AM kL_tryWith (3 * n + 4) [.ref 22, .int (nI row), .int v, .int (nI (lcst N V K s c (row + 1)))] (hC I A) (TrQ N V K s (lrun N V K s (pw (row + 1)) c b) c (row + 1)) := by
  refine AMet.of (by decide) (by simp [Value.category]) (Nat.le_of_ble_eq_true rfl) ?_
  show AN _ _ _ 0 [some _, some _, some _, some _] [] _
  refine aw_aload_r dL_tryWith_0 rfl ?_
  refine aw_get fg_L_21 dL_tryWith_1 rfl rfl ?_
  refine aw_iload_n dL_tryWith_4 rfl ?_
  refine aw_iload_n dL_tryWith_5 rfl ?_
  refine an_stC dL_tryWith_6 ac_26 rfl (by omega) (by decide) ?_
  refine aw_aload_r dL_tryWith_7 rfl ?_
  refine aw_iload_n dL_tryWith_8 rfl ?_
  refine aw_iconst (v := 1) dL_tryWith_9 (by decide) ?_
  refine aw_iadd dL_tryWith_10 ?_
  refine an_top (nI_1 row) ?_
  refine aw_iload_n dL_tryWith_11 rfl ?_
  refine an_callVx cg_L_34 (ih c b I (va_up A 26 (upd (A 26) row v)) (hL.tr _) (hS.tr _) hTr h0 ho) dL_tryWith_12 rfl rfl rfl rfl rfl (Nat.le_of_ble_eq_true rfl) (by omega) ?_
  rintro _ _ ⟨rfl, I1, A1, rfl, hL1, hS1, hT1⟩
  exact aw_vret rfl dL_tryWith_15 ⟨rfl, I1, A1, rfl, hL1, hS1, hT1⟩

set_option maxHeartbeats 4000000 in
set_option maxRecDepth 100000 in
theorem l_L_try (N : Nat → Nat) (V : Nat → Nat → Int32) (K : Nat → Int32) (hP : PInv N V K) (s : Int32) (h9 : ¬ K 9 = 0) {row n c : Nat} {b0 : Option Nat} (hrow : row + (n + 1) = 4) (ih : TryH N V K s (row + 1) n) (h0 : c % pw row = 0) (ho : lok N V K s c row) (hh : lhs N V s row) : ∀ (m p : Nat) (I : Nat → Int32) (A : Nat → Nat → Int32), p + m = 4 → LI N V K s I A → Lst N V K s (lrun N V K s (p * pw (row + 1)) c b0) I A → Trl N V s c row A → AN kL_tryPlaces (3 * n + 5) (TrQ N V K s (lrun N V K s (pw row) c b0) c row) 2 [some (.ref 22), some (.int (nI row)), some (.int (nI (lcst N V K s c row))), some (.int (nI p))] [] (hC I A) := by
  have hr : row < 4 := by omega
  intro m
  induction m with
  | zero =>
    intro p I A hpm hL hS hTr
    have hp4 : p = 4 := by omega
    subst hp4
    refine aw_iload_n dL_tryPlaces_2 rfl ?_
    refine aw_iconst (v := 4) dL_tryPlaces_3 (by decide) ?_
    refine aw_icmp_ge (tgt := 36) dL_tryPlaces_4 (by decide) (fun c4 => ?_) (fun c4 => absurd (by decide) c4)
    refine aw_aload_r dL_tryPlaces_36 rfl ?_
    refine aw_iload_n dL_tryPlaces_37 rfl ?_
    refine aw_iconst (v := 4) dL_tryPlaces_38 (by decide) ?_
    refine aw_iload_n dL_tryPlaces_39 rfl ?_
    refine aw_aload_r dL_tryPlaces_40 rfl ?_
    refine aw_get fg_L_15 dL_tryPlaces_41 rfl rfl ?_
    refine aw_iload_n dL_tryPlaces_44 rfl ?_
    refine an_ldC dL_tryPlaces_45 ac_24 rfl (by omega) (by decide) ?_
    refine an_top (y := nI (lw K row)) ((hL.2.2.1 row hr).trans (lw_n hP hr)) ?_
    refine aw_iadd dL_tryPlaces_46 ?_
    refine an_top (lcst_at4 hP hr h0 hh) ?_
    refine an_callVx cg_L_44 (c_L_tryWith N V K hP s h9 (c := c + 4 * pw (row + 1)) hr ih I A (nI 4) hL hS (Trl.put hr h0 (by decide) hh hTr) (pw_at hr h0) (ok_at hr h0 (by decide) ho hh (Or.inl rfl))) dL_tryPlaces_47 rfl rfl rfl rfl rfl (Nat.le_of_ble_eq_true rfl) (by omega) ?_
    rintro _ _ ⟨rfl, I1, A1, rfl, hL1, hS1, hT1⟩
    exact aw_vret rfl dL_tryPlaces_50 ⟨rfl, I1, A1, rfl, hL1, (by rw [lrun_last hr]; exact hS1), Trl.back hr h0 (by decide) hT1⟩
  | succ m ihm =>
    intro p I A hpm hL hS hTr
    have hp : p < 4 := by omega
    refine aw_iload_n dL_tryPlaces_2 rfl ?_
    refine aw_iconst (v := 4) dL_tryPlaces_3 (by decide) ?_
    refine aw_icmp_ge (tgt := 36) dL_tryPlaces_4 (by decide) (fun c4 => absurd c4 (nI_ge (b := 4) (by omega) (by omega))) (fun c4 => ?_)
    refine aw_aload_r dL_tryPlaces_7 rfl ?_
    refine aw_iload_n dL_tryPlaces_8 rfl ?_
    refine aw_iload_n dL_tryPlaces_9 rfl ?_
    refine an_callVb cg_L_51 (c_L_isFree N V K hP s h9 I A hr hp hL hTr hh) dL_tryPlaces_10 rfl rfl rfl rfl rfl (Nat.le_of_ble_eq_true rfl) (by omega) (fun p10 => ?_) (fun p10 => ?_)
    · refine aw_if_eq (tgt := 30) dL_tryPlaces_13 (by decide) (fun q => absurd q (by decide)) (fun _ => ?_)
      refine aw_aload_r dL_tryPlaces_16 rfl ?_
      refine aw_iload_n dL_tryPlaces_17 rfl ?_
      refine aw_iload_n dL_tryPlaces_18 rfl ?_
      refine aw_iload_n dL_tryPlaces_19 rfl ?_
      refine aw_iload_n dL_tryPlaces_20 rfl ?_
      refine aw_aload_r dL_tryPlaces_21 rfl ?_
      refine aw_get fg_L_28 dL_tryPlaces_22 rfl rfl ?_
      refine an_top (y := nI (rn (K 11))) (hL.2.2.2.2.trans (lt_n hP)) ?_
      refine aw_imul dL_tryPlaces_25 ?_
      refine an_top (pk_mul _ _) ?_
      refine aw_iadd dL_tryPlaces_26 ?_
      refine an_top (lcst_at hP hr h0 hp hh) ?_
      refine an_callVx cg_L_44 (c_L_tryWith N V K hP s h9 (c := c + p * pw (row + 1)) hr ih I A (nI p) hL hS (Trl.put hr h0 (by omega) hh hTr) (pw_at hr h0) (ok_at hr h0 (by omega) ho hh (Or.inr p10))) dL_tryPlaces_27 rfl rfl rfl rfl rfl (Nat.le_of_ble_eq_true rfl) (by omega) ?_
      rintro _ _ ⟨rfl, I1, A1, rfl, hL1, hS1, hT1⟩
      refine ic4_3 dL_tryPlaces_30 (nI_1 p) (by decide) ?_
      refine aw_goto (tgt := 2) dL_tryPlaces_33 (by decide) ?_
      exact an_weak (ihm (p + 1) I1 A1 (by omega) hL1 (by rw [show lrun N V K s ((p + 1) * pw (row + 1)) c b0 = _ from run_block hr p]; exact hS1) (Trl.back hr h0 (by omega) hT1)) ⟨rfl, rfl, rfl, rfl, trivial⟩
    · refine aw_if_eq (tgt := 30) dL_tryPlaces_13 (by decide) (fun _ => ?_) (fun q => absurd q (by decide))
      refine ic4_3 dL_tryPlaces_30 (nI_1 p) (by decide) ?_
      refine aw_goto (tgt := 2) dL_tryPlaces_33 (by decide) ?_
      exact an_weak (ihm (p + 1) I A (by omega) hL (by rw [show lrun N V K s ((p + 1) * pw (row + 1)) c b0 = lrun N V K s (p * pw (row + 1)) c b0 from (run_block hr p).trans (run_full hr h0 hp hh p10)]; exact hS) hTr) ⟨rfl, rfl, rfl, rfl, trivial⟩

set_option maxHeartbeats 4000000 in
set_option maxRecDepth 100000 in
theorem c_L_tryPlaces (N : Nat → Nat) (V : Nat → Nat → Int32) (K : Nat → Int32) (hP : PInv N V K) (s : Int32) (h9 : ¬ K 9 = 0) {row n c : Nat} {b : Option Nat} (hrow : row + (n + 1) = 4) (ih : TryH N V K s (row + 1) n) (h0 : c % pw row = 0) (ho : lok N V K s c row) (hh : lhs N V s row) (I : Nat → Int32) (A : Nat → Nat → Int32) (hL : LI N V K s I A) (hS : Lst N V K s b I A) (hTr : Trl N V s c row A) : AM kL_tryPlaces (3 * n + 5) [.ref 22, .int (nI row), .int (nI (lcst N V K s c row))] (hC I A) (TrQ N V K s (lrun N V K s (pw row) c b) c row) := by
  refine AMet.of (by decide) (by simp [Value.category]) (Nat.le_of_ble_eq_true rfl) ?_
  show AN _ _ _ 0 [some _, some _, some _, none] [] _
  refine aw_iconst (v := 0) dL_tryPlaces_0 (by decide) ?_
  refine si4_3 dL_tryPlaces_1 (by decide) ?_
  exact an_weak (l_L_try N V K hP s h9 (b0 := b) hrow ih h0 ho hh 4 0 I A (by omega) hL (by rw [Nat.zero_mul]; exact hS) hTr) ⟨rfl, rfl, rfl, rfl, trivial⟩

set_option maxHeartbeats 4000000 in
set_option maxRecDepth 100000 in
theorem c_L_tryFrom (N : Nat → Nat) (V : Nat → Nat → Int32) (K : Nat → Int32) (hP : PInv N V K) (s : Int32) (h9 : ¬ K 9 = 0) : ∀ (n row : Nat), row + n = 4 → TryH N V K s row n := by
  intro n
  induction n with
  | zero =>
    intro row hrow c b I A hL hS hTr h0 ho
    have hr4 : row = 4 := by omega
    subst hr4
    refine AMet.of (by decide) (by simp [Value.category]) (Nat.le_of_ble_eq_true rfl) ?_
    show AN _ _ _ 0 [some _, some _, some _] [] _
    refine aw_iload_n dL_tryFrom_0 rfl ?_
    refine aw_aload_r dL_tryFrom_1 rfl ?_
    refine aw_get fg_L_31 dL_tryFrom_2 rfl rfl ?_
    refine an_top (y := lsv N V K s 4001 b) hS.1 ?_
    refine aw_icmp_lt (tgt := 9) dL_tryFrom_5 (by decide) (fun c5 => ?_) (fun c5 => ?_)
    · refine aw_iload_n dL_tryFrom_9 rfl ?_
      refine aw_iconst (v := 4) dL_tryFrom_10 (by decide) ?_
      refine aw_icmp_lt (tgt := 36) dL_tryFrom_11 (by decide) (fun c11 => absurd c11 (by decide)) (fun c11 => ?_)
      refine aw_aload_r dL_tryFrom_14 rfl ?_
      refine aw_iload_n dL_tryFrom_15 rfl ?_
      refine an_putL fp_L_31 dL_tryFrom_16 (by decide) ?_
      refine aw_aload_r dL_tryFrom_19 rfl ?_
      refine aw_get fg_L_21 dL_tryFrom_20 rfl rfl ?_
      refine aw_iconst (v := 0) dL_tryFrom_23 (by decide) ?_
      refine aw_aload_r dL_tryFrom_24 rfl ?_
      refine aw_get fg_L_18 dL_tryFrom_25 rfl rfl ?_
      refine aw_iconst (v := 0) dL_tryFrom_28 (by decide) ?_
      refine aw_iconst (v := 4) dL_tryFrom_29 (by decide) ?_
      refine aw_copy cg_L_38 dL_tryFrom_30 rfl rfl (by decide) (by decide) (by decide) (by decide) (by decide) (Nat.le_of_ble_eq_true rfl) (Nat.le_of_ble_eq_true rfl) ?_
      refine an_heap (h' := hC (upd I 2206 (nI (lcst N V K s c 4))) (va_up A 25 (va_cpy (A 26) (A 25) 0 0 4))) rfl ?_
      refine aw_goto (tgt := 62) dL_tryFrom_33 (by decide) ?_
      exact aw_vret rfl dL_tryFrom_62 ⟨rfl, _, _, rfl, (hL.ls _).sl _, (by rw [show lrun N V K s (pw 4) c b = some c from leaf_ok hP ho c5]; exact ⟨rfl, fun c2 e r hr => (by cases e; exact (pk_cpy_in (Nat.zero_le _) (by omega)).trans ((congrArg (A 26) (by omega)).trans (hTr r hr)))⟩), hTr⟩
    · exact aw_vret rfl dL_tryFrom_8 ⟨rfl, I, A, rfl, hL, (by rw [prune_ok hP (by rw [z_4001]; omega) (by omega) h0 c5]; exact hS), hTr⟩
  | succ n ih =>
    intro row hrow c b I A hL hS hTr h0 ho
    have hr : row < 4 := by omega
    refine AMet.of (by decide) (by simp [Value.category]) (Nat.le_of_ble_eq_true rfl) ?_
    show AN _ _ _ 0 [some _, some _, some _] [] _
    refine aw_iload_n dL_tryFrom_0 rfl ?_
    refine aw_aload_r dL_tryFrom_1 rfl ?_
    refine aw_get fg_L_31 dL_tryFrom_2 rfl rfl ?_
    refine an_top (y := lsv N V K s 4001 b) hS.1 ?_
    refine aw_icmp_lt (tgt := 9) dL_tryFrom_5 (by decide) (fun c5 => ?_) (fun c5 => ?_)
    · refine aw_iload_n dL_tryFrom_9 rfl ?_
      refine aw_iconst (v := 4) dL_tryFrom_10 (by decide) ?_
      refine aw_icmp_lt (tgt := 36) dL_tryFrom_11 (by decide) (fun c11 => ?_) (fun c11 => absurd (nI_lt (b := 4) (by omega) (by omega)) c11)
      refine aw_aload_r dL_tryFrom_36 rfl ?_
      refine aw_get fg_L_9 dL_tryFrom_37 rfl rfl ?_
      refine aw_iload_n dL_tryFrom_40 rfl ?_
      refine an_ldC dL_tryFrom_41 ac_23 rfl (by omega) (by decide) ?_
      refine an_top (hL.2.1 row (by omega)) ?_
      refine aw_iconst (v := (-1)) dL_tryFrom_42 (by decide) ?_
      refine aw_icmp_ne (tgt := 56) dL_tryFrom_43 (by decide) (fun c43 => ?_) (fun c43 => ?_)
      · have hh : lhs N V s row := Classical.byContradiction fun q => c43 (hg_n q)
        refine aw_aload_r dL_tryFrom_56 rfl ?_
        refine aw_iload_n dL_tryFrom_57 rfl ?_
        refine aw_iload_n dL_tryFrom_58 rfl ?_
        refine an_callVx cg_L_48 (c_L_tryPlaces N V K hP s h9 hrow (ih (row + 1) (by omega)) h0 ho hh I A hL hS hTr) dL_tryFrom_59 rfl rfl rfl rfl rfl (Nat.le_of_ble_eq_true rfl) (by omega) ?_
        rintro _ _ ⟨rfl, I1, A1, rfl, hL1, hS1, hT1⟩
        exact aw_vret rfl dL_tryFrom_62 ⟨rfl, I1, A1, rfl, hL1, hS1, hT1⟩
      · have hn : ¬ lhs N V s row := (hg_iff hP h9).mp c43
        refine aw_aload_r dL_tryFrom_46 rfl ?_
        refine aw_iload_n dL_tryFrom_47 rfl ?_
        refine aw_iconst (v := (-1)) dL_tryFrom_48 (by decide) ?_
        refine aw_iload_n dL_tryFrom_49 rfl ?_
        refine an_top (y := nI (lcst N V K s c (row + 1))) (congrArg nI (cst_void hn).symm) ?_
        refine an_callVx cg_L_44 (c_L_tryWith N V K hP s h9 hr (ih (row + 1) (by omega)) I A (-1) hL hS (Trl.void hn hTr) (pw_void hr h0) (ok_void hr h0 ho hn)) dL_tryFrom_50 rfl rfl rfl rfl rfl (Nat.le_of_ble_eq_true rfl) (by omega) ?_
        rintro _ _ ⟨rfl, I1, A1, rfl, hL1, hS1, hT1⟩
        refine aw_goto (tgt := 62) dL_tryFrom_53 (by decide) ?_
        exact aw_vret rfl dL_tryFrom_62 ⟨rfl, I1, A1, rfl, hL1, (by rw [show lrun N V K s (pw row) c b = _ from run_void hr h0 hn]; exact hS1), fun r hr2 => hT1 r (by omega)⟩
    · exact aw_vret rfl dL_tryFrom_8 ⟨rfl, I, A, rfl, hL, (by rw [prune_ok hP (by rw [z_4001]; omega) (by omega) h0 c5]; exact hS), hTr⟩

set_option maxHeartbeats 4000000 in
set_option maxRecDepth 100000 in
theorem c_L_find (N : Nat → Nat) (V : Nat → Nat → Int32) (K : Nat → Int32) (hP : PInv N V K) (s : Int32) (h9 : ¬ K 9 = 0) (I : Nat → Int32) (A : Nat → Nat → Int32) (hI : CInv N V K I A) (e23 : ∀ r, r < 4 → A 23 r = hgtE N V K (nI r) s) (e24 : ∀ r, r < 4 → A 24 r = K (4 + r)) : AM kL_find 16 [.ref 22, .int (K 10), .int (K 11)] (hC I A) (fun v h' => v = none ∧ ∃ I' A', h' = hC I' A' ∧ LI N V K s I' A' ∧ Lst N V K s (some (lbest N V K s)) I' A') := by
  refine AMet.of (by decide) (by simp [Value.category]) (Nat.le_of_ble_eq_true rfl) ?_
  show AN _ _ _ 0 [some _, some _, some _] [] _
  refine aw_aload_r dL_find_0 rfl ?_
  refine aw_iload_n dL_find_1 rfl ?_
  refine an_putL fp_L_24 dL_find_2 (by decide) ?_
  refine aw_aload_r dL_find_5 rfl ?_
  refine aw_iload_n dL_find_6 rfl ?_
  refine an_putL fp_L_28 dL_find_7 (by decide) ?_
  refine aw_aload_r dL_find_10 rfl ?_
  refine aw_sipush (v := 4001) dL_find_11 (by decide) ?_
  refine an_putL fp_L_31 dL_find_14 (by decide) ?_
  refine aw_aload_r dL_find_17 rfl ?_
  refine aw_iconst (v := 0) dL_find_18 (by decide) ?_
  refine an_top (y := nI 0) rfl ?_
  refine aw_iconst (v := 0) dL_find_19 (by decide) ?_
  refine an_top (y := nI (lcst N V K s 0 0)) rfl ?_
  refine an_callVx cg_L_34 (c_L_tryFrom N V K hP s h9 4 0 (by omega) 0 none (upd (upd (upd I 2204 (K 10)) 2205 (K 11)) 2206 4001) A ⟨cinv_s (cinv_s (cinv_s hI (by decide) _) (by decide) _) (by decide) _, e23, e24, rfl, rfl⟩ ⟨rfl, fun c e => by cases e⟩ (fun r hr => by omega) (by decide) (fun r hr => by omega)) dL_find_20 rfl rfl rfl rfl rfl (Nat.le_of_ble_eq_true rfl) (Nat.le_of_ble_eq_true rfl) ?_
  rintro _ _ ⟨rfl, I1, A1, rfl, hL1, hS1, hT1⟩
  exact aw_vret rfl dL_find_23 ⟨rfl, I1, A1, rfl, hL1, (by rw [← lbest_some]; exact hS1)⟩

theorem kinF {f g : Nat → Int32} {i : Nat} (h : ∀ j, j < i → f j = g j) (j : Nat) (hj : j < i + 1) : upd f i (g i) j = g j := by
  by_cases e : j = i
  · subst e; rw [pk_us]
  · rw [pk_un e]; exact h j (by omega)

set_option maxHeartbeats 4000000 in
set_option maxRecDepth 100000 in
theorem l_E_readLaying (N : Nat → Nat) (V : Nat → Nat → Int32) (K : Nat → Int32) (hP : PInv N V K) (s : Int32) (h9 : ¬ K 9 = 0) (hc : CanL K s) (I : Nat → Int32) (A : Nat → Nat → Int32) : ∀ (n k : Nat) (A1 : Nat → Nat → Int32), k + n = 4 → CInv N V K I A1 → (∀ r, r < k → A1 23 r = hgtE N V K (nI r) s) → (∀ r, r < k → A1 24 r = K (4 + r)) → AN kE_readLaying 17 (RdQ N V K s) 27 [some (.ref 0), some (.int s), some (.int (lowA N V 4)), some (.int (nI k))] [] (hC I A1) := by
  intro n
  induction n with
  | zero =>
    intro k A1 hin hI e23 e24
    have hk4 : k = 4 := by omega
    subst hk4
    refine aw_iload_n dE_readLaying_27 rfl ?_
    refine aw_iconst (v := 4) dE_readLaying_28 (by decide) ?_
    refine aw_icmp_ge (tgt := 77) dE_readLaying_29 (by decide) (fun c29 => ?_) (fun c29 => absurd (by decide) c29)
    refine aw_aload_r dE_readLaying_77 rfl ?_
    refine aw_get fg_E_33 dE_readLaying_78 rfl rfl ?_
    refine aw_aload_r dE_readLaying_81 rfl ?_
    refine aw_get fg_E_48 dE_readLaying_82 rfl rfl ?_
    refine an_top (y := K 10) hI.2.2.2.1 ?_
    refine aw_aload_r dE_readLaying_85 rfl ?_
    refine aw_get fg_E_51 dE_readLaying_86 rfl rfl ?_
    refine an_top (y := K 11) hI.2.2.2.2.1 ?_
    refine an_callVx cg_E_206 (c_L_find N V K hP s h9 I A1 hI e23 e24) dE_readLaying_89 rfl rfl rfl rfl rfl (Nat.le_of_ble_eq_true rfl) (Nat.le_of_ble_eq_true rfl) ?_
    rintro _ _ ⟨rfl, I2, A2, rfl, hL2, hS2⟩
    refine aw_iconst (v := 1) dE_readLaying_92 (by decide) ?_
    exact aw_zret rfl (Or.inr rfl) dE_readLaying_93 ⟨I2, A2, rfl, hL2.1, Or.inl ⟨hc, rfl, hL2.2.1, hS2.1, hS2.2 _ rfl⟩⟩
  | succ n ih =>
    intro k A1 hin hI e23 e24
    have hk : k < 4 := by omega
    refine aw_iload_n dE_readLaying_27 rfl ?_
    refine aw_iconst (v := 4) dE_readLaying_28 (by decide) ?_
    refine aw_icmp_ge (tgt := 77) dE_readLaying_29 (by decide) (fun c29 => absurd c29 (nI_ge (b := 4) (by omega) (by omega))) (fun c29 => ?_)
    refine aw_aload_r dE_readLaying_32 rfl ?_
    refine aw_get fg_E_33 dE_readLaying_33 rfl rfl ?_
    refine aw_get fg_E_200 dE_readLaying_36 rfl rfl ?_
    refine aw_iload_n dE_readLaying_39 rfl ?_
    refine aw_aload_r dE_readLaying_40 rfl ?_
    refine aw_iload_n dE_readLaying_41 rfl ?_
    refine aw_aload_r dE_readLaying_42 rfl ?_
    refine aw_get fg_E_11 dE_readLaying_43 rfl rfl ?_
    refine aw_iload_n dE_readLaying_46 rfl ?_
    refine an_rows dE_readLaying_47 rfl hk ?_
    refine aw_iload_n dE_readLaying_48 rfl ?_
    refine an_callVr cg_E_141 (c_E_heightAbove N V K I A1 hI hP hk s) dE_readLaying_49 rfl rfl rfl rfl rfl (Nat.le_of_ble_eq_true rfl) (Nat.le_of_ble_eq_true rfl) ?_
    refine an_stC dE_readLaying_52 ac_23 rfl hk (by decide) ?_
    refine aw_aload_r dE_readLaying_53 rfl ?_
    refine aw_get fg_E_33 dE_readLaying_54 rfl rfl ?_
    refine aw_get fg_E_203 dE_readLaying_57 rfl rfl ?_
    refine aw_iload_n dE_readLaying_60 rfl ?_
    refine aw_aload_r dE_readLaying_61 rfl ?_
    refine aw_get fg_E_11 dE_readLaying_62 rfl rfl ?_
    refine aw_iload_n dE_readLaying_65 rfl ?_
    refine an_rows dE_readLaying_66 rfl hk ?_
    refine an_getR hk fg_E_145 dE_readLaying_67 rfl ?_
    refine an_top (y := K (4 + k)) (hI.1 k hk).2.2.2.1 ?_
    refine an_stC dE_readLaying_70 ac_24 rfl hk (by decide) ?_
    refine ic4_3 dE_readLaying_71 (nI_1 k) (by decide) ?_
    refine aw_goto (tgt := 27) dE_readLaying_74 (by decide) ?_
    exact an_weak (ih (k + 1) _ (by omega) (cinv_a (cinv_a hI (by decide) _) (by decide) _) (fun r hr => kinF (g := fun r => hgtE N V K (nI r) s) e23 r hr) (fun r hr => kinF (g := fun r => K (4 + r)) e24 r hr)) ⟨rfl, rfl, rfl, rfl, trivial⟩

set_option maxHeartbeats 4000000 in
set_option maxRecDepth 100000 in
theorem c_E_readLaying (N : Nat → Nat) (V : Nat → Nat → Int32) (K : Nat → Int32) (I : Nat → Int32) (A : Nat → Nat → Int32) (hI : CInv N V K I A) (hP : PInv N V K) (s : Int32) : AM kE_readLaying 17 [.ref 0, .int s] (hC I A) (RdQ N V K s) := by
  refine AMet.of (by decide) (by simp [Value.category]) (Nat.le_of_ble_eq_true rfl) ?_
  show AN _ _ _ 0 [some _, some _, none, none] [] _
  refine aw_aload_r dE_readLaying_0 rfl ?_
  refine aw_get fg_E_45 dE_readLaying_1 rfl rfl ?_
  refine an_top (y := K 9) hI.2.2.1 ?_
  refine aw_iconst (v := 1) dE_readLaying_4 (by decide) ?_
  refine aw_icmp_lt (tgt := 18) dE_readLaying_5 (by decide) (fun c5 => ?_) (fun c5 => ?_)
  · refine aw_iconst (v := 0) dE_readLaying_18 (by decide) ?_
    exact aw_zret rfl (Or.inl rfl) dE_readLaying_19 ⟨I, A, rfl, hI, Or.inr ⟨fun q => ((can_iff hP).mp q).1 c5, rfl⟩⟩
  · refine aw_iload_n dE_readLaying_8 rfl ?_
    refine aw_iconst (v := 0) dE_readLaying_9 (by decide) ?_
    refine aw_bipush (v := 39) dE_readLaying_10 (by decide) ?_
    refine an_callSb cg_E_82 (c_E_within _ _ _ _) dE_readLaying_12 rfl rfl (Nat.le_of_ble_eq_true rfl) (Nat.le_of_ble_eq_true rfl) (fun p12 => ?_) (fun p12 => ?_)
    · refine aw_if_ne (tgt := 20) dE_readLaying_15 (by decide) (fun _ => ?_) (fun q => absurd q (by decide))
      refine aw_aload_r dE_readLaying_20 rfl ?_
      refine an_callVr cg_E_134 (c_E_lowestValue _ _ _ _ _ hI) dE_readLaying_21 rfl rfl rfl rfl rfl (Nat.le_of_ble_eq_true rfl) (Nat.le_of_ble_eq_true rfl) ?_
      refine si4_2 dE_readLaying_24 (by decide) ?_
      refine aw_iconst (v := 0) dE_readLaying_25 (by decide) ?_
      refine si4_3 dE_readLaying_26 (by decide) ?_
      exact an_weak (l_E_readLaying N V K hP s (fun q => c5 ((k9_lt hP).mpr q)) ((can_iff hP).mpr ⟨c5, p12⟩) I A 4 0 A (by omega) hI (fun r hr => by omega) (fun r hr => by omega)) ⟨rfl, rfl, rfl, rfl, trivial⟩
    · refine aw_if_ne (tgt := 20) dE_readLaying_15 (by decide) (fun q => absurd q (by decide)) (fun _ => ?_)
      refine aw_iconst (v := 0) dE_readLaying_18 (by decide) ?_
      exact aw_zret rfl (Or.inl rfl) dE_readLaying_19 ⟨I, A, rfl, hI, Or.inr ⟨fun q => p12 ((can_iff hP).mp q).2, rfl⟩⟩

set_option maxHeartbeats 4000000 in
set_option maxRecDepth 100000 in
theorem c_E_lay (N : Nat → Nat) (V : Nat → Nat → Int32) (K : Nat → Int32) (I : Nat → Int32) (A : Nat → Nat → Int32) (hI : CInv N V K I A) (hP : PInv N V K) (s : Int32) : AM kE_lay 18 [.ref 0, .int s] (hC I A) (CR (sp_lay N V K s)) := by
  refine AMet.of (by decide) (by simp [Value.category]) (Nat.le_of_ble_eq_true rfl) ?_
  show AN _ _ _ 0 [some _, some _] [] _
  refine aw_aload_r dE_lay_0 rfl ?_
  refine aw_iload_n dE_lay_1 rfl ?_
  refine an_callVx cg_E_148 (c_E_readLaying N V K I A hI hP s) dE_lay_2 rfl rfl rfl rfl rfl (Nat.le_of_ble_eq_true rfl) (Nat.le_of_ble_eq_true rfl) ?_
  rintro _ _ ⟨I1, A1, rfl, h1, ⟨hc, rfl, e23, e26, e25⟩ | ⟨hc, rfl⟩⟩
  · refine aw_if_eq (tgt := 18) dE_lay_5 (by decide) (fun q => absurd q (by decide)) (fun _ => ?_)
    refine aw_aload_r dE_lay_8 rfl ?_
    refine aw_get fg_E_33 dE_lay_9 rfl rfl ?_
    refine aw_get fg_E_151 dE_lay_12 rfl rfl ?_
    refine an_top (y := nI (lcst N V K s (lbest N V K s) 4)) e26 ?_
    refine aw_goto (tgt := 19) dE_lay_15 (by decide) ?_
    exact aw_iret rfl dE_lay_19 (by unfold sp_lay; rw [cif_t hc]; exact ⟨rfl, I1, A1, rfl, h1⟩)
  · refine aw_if_eq (tgt := 18) dE_lay_5 (by decide) (fun _ => ?_) (fun q => absurd q (by decide))
    refine aw_iconst (v := (-1)) dE_lay_18 (by decide) ?_
    exact aw_iret rfl dE_lay_19 (by unfold sp_lay; rw [cif_f hc]; exact ⟨rfl, I1, A1, rfl, h1⟩)

set_option maxHeartbeats 4000000 in
set_option maxRecDepth 100000 in
theorem c_E_slot (N : Nat → Nat) (V : Nat → Nat → Int32) (K : Nat → Int32) (I : Nat → Int32) (A : Nat → Nat → Int32) (hI : CInv N V K I A) (hP : PInv N V K) (r s : Int32) : AM kE_slot 18 [.ref 0, .int r, .int s] (hC I A) (CR (sp_slot N V K s r)) := by
  refine AMet.of (by decide) (by simp [Value.category]) (Nat.le_of_ble_eq_true rfl) ?_
  show AN _ _ _ 0 [some _, some _, some _, none] [] _
  refine aw_aload_r dE_slot_0 rfl ?_
  refine aw_iload_n dE_slot_1 rfl ?_
  refine an_callVx cg_E_60 (c_E_rowOf _ _ _) dE_slot_2 rfl rfl rfl rfl rfl (Nat.le_of_ble_eq_true rfl) (Nat.le_of_ble_eq_true rfl) ?_
  rintro _ _ ⟨rfl, ⟨k, hk, ek, rfl⟩ | ⟨nk, rfl⟩⟩
  · refine sa4_3 dE_slot_5 (by decide) ?_
    refine aw_aload_r dE_slot_6 rfl ?_
    refine an_ifnull_r (tgt := 26) dE_slot_7 (by decide) ?_
    refine aw_aload_r dE_slot_10 rfl ?_
    refine aw_iload_n dE_slot_11 rfl ?_
    refine an_callVb cg_E_154 (c_R_hasValue _ _ _ _ _ hI hk _) dE_slot_12 rfl (hC_row _ _ hk) rfl rfl rfl (Nat.le_of_ble_eq_true rfl) (Nat.le_of_ble_eq_true rfl) (fun p12 => ?_) (fun p12 => ?_)
    · refine aw_if_eq (tgt := 26) dE_slot_15 (by decide) (fun q => absurd q (by decide)) (fun _ => ?_)
      refine aw_aload_r dE_slot_18 rfl ?_
      refine aw_iload_n dE_slot_19 rfl ?_
      refine an_callVx cg_E_148 (c_E_readLaying N V K I A hI hP s) dE_slot_20 rfl rfl rfl rfl rfl (Nat.le_of_ble_eq_true rfl) (Nat.le_of_ble_eq_true rfl) ?_
      rintro _ _ ⟨I1, A1, rfl, h1, ⟨hc, rfl, e23, e26, e25⟩ | ⟨hc, rfl⟩⟩
      · refine aw_if_ne (tgt := 28) dE_slot_23 (by decide) (fun _ => ?_) (fun q => absurd q (by decide))
        subst ek
        refine aw_aload_r dE_slot_28 rfl ?_
        refine aw_get fg_E_33 dE_slot_29 rfl rfl ?_
        refine aw_get fg_E_157 dE_slot_32 rfl rfl ?_
        refine aw_iload_n dE_slot_35 rfl ?_
        refine an_ldC dE_slot_36 ac_25 rfl hk (by decide) ?_
        refine an_top (e25 k hk) ?_
        exact aw_iret rfl dE_slot_37 (by unfold sp_slot; rw [cif_t ⟨hc, p12⟩, rn_n (by omega), sl_t p12]; exact ⟨rfl, I1, A1, rfl, h1⟩)
      · refine aw_if_ne (tgt := 28) dE_slot_23 (by decide) (fun q => absurd q (by decide)) (fun _ => ?_)
        refine aw_iconst (v := (-1)) dE_slot_26 (by decide) ?_
        exact aw_iret rfl dE_slot_27 (by unfold sp_slot; rw [cif_f (fun q => hc q.1)]; exact ⟨rfl, I1, A1, rfl, h1⟩)
    · refine aw_if_eq (tgt := 26) dE_slot_15 (by decide) (fun _ => ?_) (fun q => absurd q (by decide))
      refine aw_iconst (v := (-1)) dE_slot_26 (by decide) ?_
      exact aw_iret rfl dE_slot_27 (by subst ek; unfold sp_slot; rw [cif_f (fun q => p12 q.2)]; exact ⟨rfl, I, A, rfl, hI⟩)
  · refine an_astore_0 dE_slot_5 (by decide) ?_
    refine an_aload_0 dE_slot_6 rfl ?_
    refine an_ifnull_0 (tgt := 26) dE_slot_7 (by decide) ?_
    refine aw_iconst (v := (-1)) dE_slot_26 (by decide) ?_
    exact aw_iret rfl dE_slot_27 (by unfold sp_slot; rw [cif_f (fun q => nk (hv_row q.2))]; exact ⟨rfl, I, A, rfl, hI⟩)

theorem nI_m1 {b : Nat} (h : b < 2 ^ 31) : ¬ nI b = -1 := by
  intro q
  have := congrArg Int32.toInt q
  rw [nI_toInt h, z_m1] at this
  omega

set_option maxHeartbeats 4000000 in
set_option maxRecDepth 100000 in
theorem c_L_isHeard (N : Nat → Nat) (V : Nat → Nat → Int32) (K : Nat → Int32) (I : Nat → Int32) (A : Nat → Nat → Int32) (hI : CInv N V K I A) (s : Int32) (e25 : ∀ r, r < 4 → A 25 r = sl N V s (lbest N V K s) r) {k : Nat} (hk : k < 4) : AM kL_isHeard 1 [.ref 22, .int (nI k)] (hC I A) (BQ (Heard N V K s (nI k)) (hC I A)) := by
  refine AMet.of (by decide) (by simp [Value.category]) (Nat.le_of_ble_eq_true rfl) ?_
  show AN _ _ _ 0 [some _, some _] [] _
  refine aw_aload_r dL_isHeard_0 rfl ?_
  refine aw_get fg_L_18 dL_isHeard_1 rfl rfl ?_
  refine aw_iload_n dL_isHeard_4 rfl ?_
  refine an_ldC dL_isHeard_5 ac_25 rfl hk (by decide) ?_
  refine an_top (e25 k hk) ?_
  refine aw_iconst (v := (-1)) dL_isHeard_6 (by decide) ?_
  refine aw_icmp_eq (tgt := 24) dL_isHeard_7 (by decide) (fun c7 => ?_) (fun c7 => ?_)
  · refine aw_iconst (v := 0) dL_isHeard_24 (by decide) ?_
    exact aw_zret rfl (Or.inl rfl) dL_isHeard_25 ⟨rfl, Or.inr ⟨fun q => (by rw [sl_t q.1] at c7; exact nI_m1 (by have := dig_lt (lbest N V K s) k; omega) c7), rfl⟩⟩
  · refine aw_aload_r dL_isHeard_10 rfl ?_
    refine aw_get fg_L_18 dL_isHeard_11 rfl rfl ?_
    refine aw_iload_n dL_isHeard_14 rfl ?_
    refine an_ldC dL_isHeard_15 ac_25 rfl hk (by decide) ?_
    refine an_top (e25 k hk) ?_
    refine aw_iconst (v := 4) dL_isHeard_16 (by decide) ?_
    refine aw_icmp_eq (tgt := 24) dL_isHeard_17 (by decide) (fun c17 => ?_) (fun c17 => ?_)
    · refine aw_iconst (v := 0) dL_isHeard_24 (by decide) ?_
      exact aw_zret rfl (Or.inl rfl) dL_isHeard_25 ⟨rfl, Or.inr ⟨fun q => q.2 (by rw [rn_n (by omega)]; exact (sl_eq (p := 4) (by decide) c17).2), rfl⟩⟩
    · refine aw_iconst (v := 1) dL_isHeard_20 (by decide) ?_
      refine aw_goto (tgt := 25) dL_isHeard_21 (by decide) ?_
      exact aw_zret rfl (Or.inr rfl) dL_isHeard_25 ⟨rfl, Or.inl ⟨⟨Classical.byContradiction fun q => c7 (sl_f q), fun q => c17 (by rw [rn_n (by omega)] at q; rw [sl_t (Classical.byContradiction fun z => c7 (sl_f z)), q]; rfl)⟩, rfl⟩⟩

set_option maxHeartbeats 4000000 in
set_option maxRecDepth 100000 in
theorem c_E_soundsAbove (N : Nat → Nat) (V : Nat → Nat → Int32) (K : Nat → Int32) (I : Nat → Int32) (A : Nat → Nat → Int32) (hI : CInv N V K I A) (s : Int32) (e23 : ∀ r, r < 4 → A 23 r = hgtE N V K (nI r) s) {k j : Nat} (hk : k < 4) (hj : j < 4) : AM kE_soundsAbove 1 [.ref 0, .int (nI k), .int (nI j)] (hC I A) (BQ (Above N V K s (nI k) (nI j)) (hC I A)) := by
  refine AMet.of (by decide) (by simp [Value.category]) (Nat.le_of_ble_eq_true rfl) ?_
  show AN _ _ _ 0 [some _, some _, some _, none, none] [] _
  refine aw_aload_r dE_soundsAbove_0 rfl ?_
  refine aw_get fg_E_45 dE_soundsAbove_1 rfl rfl ?_
  refine an_top (y := K 9) hI.2.2.1 ?_
  refine aw_aload_r dE_soundsAbove_4 rfl ?_
  refine aw_get fg_E_33 dE_soundsAbove_5 rfl rfl ?_
  refine aw_get fg_E_200 dE_soundsAbove_8 rfl rfl ?_
  refine aw_iload_n dE_soundsAbove_11 rfl ?_
  refine an_ldC dE_soundsAbove_12 ac_23 rfl hk (by decide) ?_
  refine an_top (e23 k hk) ?_
  refine aw_imul dE_soundsAbove_13 ?_
  refine aw_aload_r dE_soundsAbove_14 rfl ?_
  refine aw_get fg_E_11 dE_soundsAbove_15 rfl rfl ?_
  refine aw_iload_n dE_soundsAbove_18 rfl ?_
  refine an_rows dE_soundsAbove_19 rfl hk ?_
  refine an_getR hk fg_E_86 dE_soundsAbove_20 rfl ?_
  refine an_top (y := K k) (hI.1 k hk).2.2.1 ?_
  refine aw_isub dE_soundsAbove_23 ?_
  refine si5_3 dE_soundsAbove_24 (by decide) ?_
  refine aw_aload_r dE_soundsAbove_25 rfl ?_
  refine aw_get fg_E_45 dE_soundsAbove_26 rfl rfl ?_
  refine an_top (y := K 9) hI.2.2.1 ?_
  refine aw_aload_r dE_soundsAbove_29 rfl ?_
  refine aw_get fg_E_33 dE_soundsAbove_30 rfl rfl ?_
  refine aw_get fg_E_200 dE_soundsAbove_33 rfl rfl ?_
  refine aw_iload_n dE_soundsAbove_36 rfl ?_
  refine an_ldC dE_soundsAbove_37 ac_23 rfl hj (by decide) ?_
  refine an_top (e23 j hj) ?_
  refine aw_imul dE_soundsAbove_38 ?_
  refine aw_aload_r dE_soundsAbove_39 rfl ?_
  refine aw_get fg_E_45 dE_soundsAbove_40 rfl rfl ?_
  refine an_top (y := K 9) hI.2.2.1 ?_
  refine aw_iadd dE_soundsAbove_43 ?_
  refine aw_iconst (v := 1) dE_soundsAbove_44 (by decide) ?_
  refine aw_isub dE_soundsAbove_45 ?_
  refine aw_aload_r dE_soundsAbove_46 rfl ?_
  refine aw_get fg_E_11 dE_soundsAbove_47 rfl rfl ?_
  refine aw_iload_n dE_soundsAbove_50 rfl ?_
  refine an_rows dE_soundsAbove_51 rfl hj ?_
  refine an_getR hj fg_E_86 dE_soundsAbove_52 rfl ?_
  refine an_top (y := K j) (hI.1 j hj).2.2.1 ?_
  refine aw_iadd dE_soundsAbove_55 ?_
  refine si5_4 dE_soundsAbove_56 (by decide) ?_
  refine aw_iload_n dE_soundsAbove_58 rfl ?_
  refine aw_iload dE_soundsAbove_59 rfl ?_
  refine aw_icmp_le (tgt := 68) dE_soundsAbove_61 (by decide) (fun c61 => ?_) (fun c61 => ?_)
  · refine aw_iconst (v := 0) dE_soundsAbove_68 (by decide) ?_
    exact aw_zret rfl (Or.inl rfl) dE_soundsAbove_69 ⟨rfl, Or.inr ⟨(by unfold Above; rw [rn_n (by omega), rn_n (by omega)]; exact Int32.not_lt.mpr c61), rfl⟩⟩
  · refine aw_iconst (v := 1) dE_soundsAbove_64 (by decide) ?_
    refine aw_goto (tgt := 69) dE_soundsAbove_65 (by decide) ?_
    exact aw_zret rfl (Or.inr rfl) dE_soundsAbove_69 ⟨rfl, Or.inl ⟨(by unfold Above; rw [rn_n (by omega), rn_n (by omega)]; exact Int32.not_le.mp c61), rfl⟩⟩

set_option maxHeartbeats 4000000 in
set_option maxRecDepth 100000 in
theorem c_E_hears (N : Nat → Nat) (V : Nat → Nat → Int32) (K : Nat → Int32) (I : Nat → Int32) (A : Nat → Nat → Int32) (hI : CInv N V K I A) (hP : PInv N V K) (a b s : Int32) : AM kE_hears 18 [.ref 0, .int a, .int b, .int s] (hC I A) (CR (sp_hears N V K s a b)) := by
  refine AMet.of (by decide) (by simp [Value.category]) (Nat.le_of_ble_eq_true rfl) ?_
  show AN _ _ _ 0 [some _, some _, some _, some _] [] _
  refine aw_iload_n dE_hears_0 rfl ?_
  refine aw_iload_n dE_hears_1 rfl ?_
  refine an_callSb cg_E_119 (c_E_areTwoRows _ _ _) dE_hears_2 rfl rfl (Nat.le_of_ble_eq_true rfl) (Nat.le_of_ble_eq_true rfl) (fun p2 => ?_) (fun p2 => ?_)
  · refine aw_if_eq (tgt := 16) dE_hears_5 (by decide) (fun q => absurd q (by decide)) (fun _ => ?_)
    refine aw_aload_r dE_hears_8 rfl ?_
    refine aw_iload_n dE_hears_9 rfl ?_
    refine an_callVx cg_E_148 (c_E_readLaying N V K I A hI hP s) dE_hears_10 rfl rfl rfl rfl rfl (Nat.le_of_ble_eq_true rfl) (Nat.le_of_ble_eq_true rfl) ?_
    rintro _ _ ⟨I1, A1, rfl, h1, ⟨hc, rfl, e23, e26, e25⟩ | ⟨hc, rfl⟩⟩
    · refine aw_if_ne (tgt := 19) dE_hears_13 (by decide) (fun _ => ?_) (fun q => absurd q (by decide))
      obtain ⟨k, hk, rfl⟩ := isRow_k p2.2.1
      obtain ⟨j, hj, rfl⟩ := isRow_k p2.2.2
      refine aw_aload_r dE_hears_19 rfl ?_
      refine aw_get fg_E_33 dE_hears_20 rfl rfl ?_
      refine aw_iload_n dE_hears_23 rfl ?_
      refine an_callVb cg_E_160 (c_L_isHeard N V K I1 A1 h1 s e25 hk) dE_hears_24 rfl rfl rfl rfl rfl (Nat.le_of_ble_eq_true rfl) (Nat.le_of_ble_eq_true rfl) (fun p24 => ?_) (fun p24 => ?_)
      · refine aw_if_eq (tgt := 41) dE_hears_27 (by decide) (fun q => absurd q (by decide)) (fun _ => ?_)
        refine aw_aload_r dE_hears_30 rfl ?_
        refine aw_get fg_E_33 dE_hears_31 rfl rfl ?_
        refine aw_iload_n dE_hears_34 rfl ?_
        refine an_callVb cg_E_160 (c_L_isHeard N V K I1 A1 h1 s e25 hj) dE_hears_35 rfl rfl rfl rfl rfl (Nat.le_of_ble_eq_true rfl) (Nat.le_of_ble_eq_true rfl) (fun p35 => ?_) (fun p35 => ?_)
        · refine aw_if_ne (tgt := 43) dE_hears_38 (by decide) (fun _ => ?_) (fun q => absurd q (by decide))
          refine aw_aload_r dE_hears_43 rfl ?_
          refine aw_iload_n dE_hears_44 rfl ?_
          refine aw_iload_n dE_hears_45 rfl ?_
          refine an_callVb cg_E_163 (c_E_soundsAbove N V K I1 A1 h1 s e23 hk hj) dE_hears_46 rfl rfl rfl rfl rfl (Nat.le_of_ble_eq_true rfl) (Nat.le_of_ble_eq_true rfl) (fun p46 => ?_) (fun p46 => ?_)
          · refine aw_if_eq (tgt := 54) dE_hears_49 (by decide) (fun q => absurd q (by decide)) (fun _ => ?_)
            refine aw_iconst (v := 1) dE_hears_52 (by decide) ?_
            exact aw_iret rfl dE_hears_53 (by unfold sp_hears; rw [cif_t ⟨p2.1, p2.2.1, p2.2.2, hc⟩, cif_t ⟨p24, p35⟩, cif_t p46]; exact ⟨rfl, I1, A1, rfl, h1⟩)
          · refine aw_if_eq (tgt := 54) dE_hears_49 (by decide) (fun _ => ?_) (fun q => absurd q (by decide))
            refine aw_aload_r dE_hears_54 rfl ?_
            refine aw_iload_n dE_hears_55 rfl ?_
            refine aw_iload_n dE_hears_56 rfl ?_
            refine an_callVb cg_E_163 (c_E_soundsAbove N V K I1 A1 h1 s e23 hj hk) dE_hears_57 rfl rfl rfl rfl rfl (Nat.le_of_ble_eq_true rfl) (Nat.le_of_ble_eq_true rfl) (fun p57 => ?_) (fun p57 => ?_)
            · refine aw_if_eq (tgt := 67) dE_hears_60 (by decide) (fun q => absurd q (by decide)) (fun _ => ?_)
              refine aw_iconst (v := (-1)) dE_hears_63 (by decide) ?_
              refine aw_goto (tgt := 68) dE_hears_64 (by decide) ?_
              exact aw_iret rfl dE_hears_68 (by unfold sp_hears; rw [cif_t ⟨p2.1, p2.2.1, p2.2.2, hc⟩, cif_t ⟨p24, p35⟩, cif_f p46, cif_t p57]; exact ⟨rfl, I1, A1, rfl, h1⟩)
            · refine aw_if_eq (tgt := 67) dE_hears_60 (by decide) (fun _ => ?_) (fun q => absurd q (by decide))
              refine aw_iconst (v := 0) dE_hears_67 (by decide) ?_
              exact aw_iret rfl dE_hears_68 (by unfold sp_hears; rw [cif_t ⟨p2.1, p2.2.1, p2.2.2, hc⟩, cif_t ⟨p24, p35⟩, cif_f p46, cif_f p57]; exact ⟨rfl, I1, A1, rfl, h1⟩)
        · refine aw_if_ne (tgt := 43) dE_hears_38 (by decide) (fun q => absurd q (by decide)) (fun _ => ?_)
          refine aw_iconst (v := 0) dE_hears_41 (by decide) ?_
          exact aw_iret rfl dE_hears_42 (by unfold sp_hears; rw [cif_t ⟨p2.1, p2.2.1, p2.2.2, hc⟩, cif_f (fun q => p35 q.2)]; exact ⟨rfl, I1, A1, rfl, h1⟩)
      · refine aw_if_eq (tgt := 41) dE_hears_27 (by decide) (fun _ => ?_) (fun q => absurd q (by decide))
        refine aw_iconst (v := 0) dE_hears_41 (by decide) ?_
        exact aw_iret rfl dE_hears_42 (by unfold sp_hears; rw [cif_t ⟨p2.1, p2.2.1, p2.2.2, hc⟩, cif_f (fun q => p24 q.1)]; exact ⟨rfl, I1, A1, rfl, h1⟩)
    · refine aw_if_ne (tgt := 19) dE_hears_13 (by decide) (fun q => absurd q (by decide)) (fun _ => ?_)
      refine aw_bipush (v := (-2)) dE_hears_16 (by decide) ?_
      exact aw_iret rfl dE_hears_18 (by unfold sp_hears; rw [cif_f (fun q => hc q.2.2.2)]; exact ⟨rfl, I1, A1, rfl, h1⟩)
  · refine aw_if_eq (tgt := 16) dE_hears_5 (by decide) (fun _ => ?_) (fun q => absurd q (by decide))
    refine aw_bipush (v := (-2)) dE_hears_16 (by decide) ?_
    exact aw_iret rfl dE_hears_18 (by unfold sp_hears; rw [cif_f (fun q => p2 ⟨q.1, q.2.1, q.2.2.1⟩)]; exact ⟨rfl, I, A, rfl, hI⟩)
