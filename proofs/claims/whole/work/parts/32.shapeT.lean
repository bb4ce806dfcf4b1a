set_option maxHeartbeats 4000000 in
set_option maxRecDepth 100000 in
theorem c_T_isWay (N : Nat → Nat) (V : Nat → Nat → Int32) (K : Nat → Int32) (J : Nat → Int32) (B : Nat → Nat → Int32) (hI : TInv N V K J B) {k i : Nat} (hk : k < 4) (hi : i < 1000) : AM kT_isWay 4 [.ref 0, .int (nI k), .int (nI i)] (hT J B) (BQ (wy (V k) (N k) i) (hT J B)) := by
  refine AMet.of (by decide) (by simp [Value.category]) (Nat.le_of_ble_eq_true rfl) ?_
  show AN _ _ _ 0 [some _, some _, some _] [] _
  refine aw_aload_r dT_isWay_0 rfl ?_
  refine aw_iload_n dT_isWay_1 rfl ?_
  refine aw_iload_n dT_isWay_2 rfl ?_
  refine an_callVb cg_T_91 (c_T_hasValue _ _ _ _ _ hI _ _) dT_isWay_3 rfl rfl rfl rfl rfl (Nat.le_of_ble_eq_true rfl) (Nat.le_of_ble_eq_true rfl) (fun p3 => ?_) (fun p3 => ?_)
  · refine aw_if_eq (tgt := 24) dT_isWay_6 (by decide) (fun q => absurd q (by decide)) (fun _ => ?_)
    refine aw_aload_r dT_isWay_9 rfl ?_
    refine aw_iload_n dT_isWay_10 rfl ?_
    refine aw_iload_n dT_isWay_11 rfl ?_
    refine aw_iconst (v := 1) dT_isWay_12 (by decide) ?_
    refine aw_iadd dT_isWay_13 ?_
    refine an_top (nI_1 i) ?_
    refine an_callVb cg_T_91 (c_T_hasValue _ _ _ _ _ hI _ _) dT_isWay_14 rfl rfl rfl rfl rfl (Nat.le_of_ble_eq_true rfl) (Nat.le_of_ble_eq_true rfl) (fun p14 => ?_) (fun p14 => ?_)
    · refine aw_if_eq (tgt := 24) dT_isWay_17 (by decide) (fun q => absurd q (by decide)) (fun _ => ?_)
      refine aw_iconst (v := 1) dT_isWay_20 (by decide) ?_
      refine aw_goto (tgt := 25) dT_isWay_21 (by decide) ?_
      exact aw_zret rfl (Or.inr rfl) dT_isWay_25 ⟨rfl, Or.inl ⟨(wy_hv hI.n hk hi).mp ⟨p3, p14⟩, rfl⟩⟩
    · refine aw_if_eq (tgt := 24) dT_isWay_17 (by decide) (fun _ => ?_) (fun q => absurd q (by decide))
      refine aw_iconst (v := 0) dT_isWay_24 (by decide) ?_
      exact aw_zret rfl (Or.inl rfl) dT_isWay_25 ⟨rfl, Or.inr ⟨fun q => p14 ((wy_hv hI.n hk hi).mpr q).2, rfl⟩⟩
  · refine aw_if_eq (tgt := 24) dT_isWay_6 (by decide) (fun _ => ?_) (fun q => absurd q (by decide))
    refine aw_iconst (v := 0) dT_isWay_24 (by decide) ?_
    exact aw_zret rfl (Or.inl rfl) dT_isWay_25 ⟨rfl, Or.inr ⟨fun q => p3 ((wy_hv hI.n hk hi).mpr q).1, rfl⟩⟩

set_option maxHeartbeats 4000000 in
set_option maxRecDepth 100000 in
theorem c_T_wayCost1 (N : Nat → Nat) (V : Nat → Nat → Int32) (K : Nat → Int32) (J : Nat → Int32) (B : Nat → Nat → Int32) (hI : TInv N V K J B) {k i : Nat} (hk : k < 4) (hi : i + 1 < 40) : AM kT_wayCost 2 [.ref 0, .int (nI k), .int (nI i), .int 1] (hT J B) (RQ (wc (V k) i 1) (hT J B)) := by
  refine AMet.of (by decide) (by simp [Value.category]) (Nat.le_of_ble_eq_true rfl) ?_
  show AN _ _ _ 0 [some _, some _, some _, some _, none] [] _
  refine aw_aload_r dT_wayCost_0 rfl ?_
  refine aw_iload_n dT_wayCost_1 rfl ?_
  refine aw_iload_n dT_wayCost_2 rfl ?_
  refine aw_iconst (v := 1) dT_wayCost_3 (by decide) ?_
  refine aw_iadd dT_wayCost_4 ?_
  refine an_top (nI_1 i) ?_
  refine an_callVr cg_T_88 (c_T_valueAt _ _ _ _ _ hI hk hi) dT_wayCost_5 rfl rfl rfl rfl rfl (Nat.le_of_ble_eq_true rfl) (Nat.le_of_ble_eq_true rfl) ?_
  refine aw_aload_r dT_wayCost_8 rfl ?_
  refine aw_iload_n dT_wayCost_9 rfl ?_
  refine aw_iload_n dT_wayCost_10 rfl ?_
  refine an_callVr cg_T_88 (c_T_valueAt _ _ _ _ _ hI hk (by omega)) dT_wayCost_11 rfl rfl rfl rfl rfl (Nat.le_of_ble_eq_true rfl) (Nat.le_of_ble_eq_true rfl) ?_
  refine aw_isub dT_wayCost_14 ?_
  refine si5_4 dT_wayCost_15 (by decide) ?_
  refine aw_iload_n dT_wayCost_17 rfl ?_
  refine aw_iconst (v := 1) dT_wayCost_18 (by decide) ?_
  refine aw_icmp_ne (tgt := 35) dT_wayCost_19 (by decide) (fun q => absurd q (by decide)) (fun _ => ?_)
  refine aw_iload dT_wayCost_22 rfl ?_
  refine aw_if_ge (tgt := 33) dT_wayCost_24 (by decide) (fun c24 => ?_) (fun c24 => ?_)
  · refine aw_iconst (v := 0) dT_wayCost_33 (by decide) ?_
    exact aw_iret rfl dT_wayCost_34 (by unfold wc; rw [if_pos rfl, if_neg (Int32.not_lt.mpr c24)]; exact ⟨rfl, rfl⟩)
  · refine aw_iload dT_wayCost_27 rfl ?_
    refine aw_ineg dT_wayCost_29 ?_
    refine aw_goto (tgt := 34) dT_wayCost_30 (by decide) ?_
    exact aw_iret rfl dT_wayCost_34 (by unfold wc; rw [if_pos rfl, if_pos (Int32.not_le.mp c24)]; exact ⟨rfl, rfl⟩)

set_option maxHeartbeats 4000000 in
set_option maxRecDepth 100000 in
theorem c_T_wayCost2 (N : Nat → Nat) (V : Nat → Nat → Int32) (K : Nat → Int32) (J : Nat → Int32) (B : Nat → Nat → Int32) (hI : TInv N V K J B) {k i : Nat} (hk : k < 4) (hi : i + 1 < 40) : AM kT_wayCost 2 [.ref 0, .int (nI k), .int (nI i), .int 2] (hT J B) (RQ (wc (V k) i 2) (hT J B)) := by
  refine AMet.of (by decide) (by simp [Value.category]) (Nat.le_of_ble_eq_true rfl) ?_
  show AN _ _ _ 0 [some _, some _, some _, some _, none] [] _
  refine aw_aload_r dT_wayCost_0 rfl ?_
  refine aw_iload_n dT_wayCost_1 rfl ?_
  refine aw_iload_n dT_wayCost_2 rfl ?_
  refine aw_iconst (v := 1) dT_wayCost_3 (by decide) ?_
  refine aw_iadd dT_wayCost_4 ?_
  refine an_top (nI_1 i) ?_
  refine an_callVr cg_T_88 (c_T_valueAt _ _ _ _ _ hI hk hi) dT_wayCost_5 rfl rfl rfl rfl rfl (Nat.le_of_ble_eq_true rfl) (Nat.le_of_ble_eq_true rfl) ?_
  refine aw_aload_r dT_wayCost_8 rfl ?_
  refine aw_iload_n dT_wayCost_9 rfl ?_
  refine aw_iload_n dT_wayCost_10 rfl ?_
  refine an_callVr cg_T_88 (c_T_valueAt _ _ _ _ _ hI hk (by omega)) dT_wayCost_11 rfl rfl rfl rfl rfl (Nat.le_of_ble_eq_true rfl) (Nat.le_of_ble_eq_true rfl) ?_
  refine aw_isub dT_wayCost_14 ?_
  refine si5_4 dT_wayCost_15 (by decide) ?_
  refine aw_iload_n dT_wayCost_17 rfl ?_
  refine aw_iconst (v := 1) dT_wayCost_18 (by decide) ?_
  refine aw_icmp_ne (tgt := 35) dT_wayCost_19 (by decide) (fun _ => ?_) (fun q => absurd q (by decide))
  refine aw_iload_n dT_wayCost_35 rfl ?_
  refine aw_iconst (v := 2) dT_wayCost_36 (by decide) ?_
  refine aw_icmp_ne (tgt := 52) dT_wayCost_37 (by decide) (fun q => absurd q (by decide)) (fun _ => ?_)
  refine aw_iload dT_wayCost_40 rfl ?_
  refine aw_if_le (tgt := 50) dT_wayCost_42 (by decide) (fun c42 => ?_) (fun c42 => ?_)
  · refine aw_iconst (v := 0) dT_wayCost_50 (by decide) ?_
    exact aw_iret rfl dT_wayCost_51 (by unfold wc; rw [if_neg (by decide), if_pos rfl, if_neg (Int32.not_lt.mpr c42)]; exact ⟨rfl, rfl⟩)
  · refine aw_iload dT_wayCost_45 rfl ?_
    refine aw_goto (tgt := 51) dT_wayCost_47 (by decide) ?_
    exact aw_iret rfl dT_wayCost_51 (by unfold wc; rw [if_neg (by decide), if_pos rfl, if_pos (Int32.not_le.mp c42)]; exact ⟨rfl, rfl⟩)

set_option maxHeartbeats 4000000 in
set_option maxRecDepth 100000 in
theorem c_T_wayCost3 (N : Nat → Nat) (V : Nat → Nat → Int32) (K : Nat → Int32) (J : Nat → Int32) (B : Nat → Nat → Int32) (hI : TInv N V K J B) {k i : Nat} (hk : k < 4) (hi : i + 1 < 40) : AM kT_wayCost 2 [.ref 0, .int (nI k), .int (nI i), .int 3] (hT J B) (RQ (wc (V k) i 3) (hT J B)) := by
  refine AMet.of (by decide) (by simp [Value.category]) (Nat.le_of_ble_eq_true rfl) ?_
  show AN _ _ _ 0 [some _, some _, some _, some _, none] [] _
  refine aw_aload_r dT_wayCost_0 rfl ?_
  refine aw_iload_n dT_wayCost_1 rfl ?_
  refine aw_iload_n dT_wayCost_2 rfl ?_
  refine aw_iconst (v := 1) dT_wayCost_3 (by decide) ?_
  refine aw_iadd dT_wayCost_4 ?_
  refine an_top (nI_1 i) ?_
  refine an_callVr cg_T_88 (c_T_valueAt _ _ _ _ _ hI hk hi) dT_wayCost_5 rfl rfl rfl rfl rfl (Nat.le_of_ble_eq_true rfl) (Nat.le_of_ble_eq_true rfl) ?_
  refine aw_aload_r dT_wayCost_8 rfl ?_
  refine aw_iload_n dT_wayCost_9 rfl ?_
  refine aw_iload_n dT_wayCost_10 rfl ?_
  refine an_callVr cg_T_88 (c_T_valueAt _ _ _ _ _ hI hk (by omega)) dT_wayCost_11 rfl rfl rfl rfl rfl (Nat.le_of_ble_eq_true rfl) (Nat.le_of_ble_eq_true rfl) ?_
  refine aw_isub dT_wayCost_14 ?_
  refine si5_4 dT_wayCost_15 (by decide) ?_
  refine aw_iload_n dT_wayCost_17 rfl ?_
  refine aw_iconst (v := 1) dT_wayCost_18 (by decide) ?_
  refine aw_icmp_ne (tgt := 35) dT_wayCost_19 (by decide) (fun _ => ?_) (fun q => absurd q (by decide))
  refine aw_iload_n dT_wayCost_35 rfl ?_
  refine aw_iconst (v := 2) dT_wayCost_36 (by decide) ?_
  refine aw_icmp_ne (tgt := 52) dT_wayCost_37 (by decide) (fun _ => ?_) (fun q => absurd q (by decide))
  refine aw_iload dT_wayCost_52 rfl ?_
  refine aw_if_ge (tgt := 63) dT_wayCost_54 (by decide) (fun c54 => ?_) (fun c54 => ?_)
  · refine aw_iload dT_wayCost_63 rfl ?_
    exact aw_iret rfl dT_wayCost_65 (by unfold wc; rw [if_neg (by decide), if_neg (by decide), if_neg (Int32.not_lt.mpr c54)]; exact ⟨rfl, rfl⟩)
  · refine aw_iload dT_wayCost_57 rfl ?_
    refine aw_ineg dT_wayCost_59 ?_
    refine aw_goto (tgt := 65) dT_wayCost_60 (by decide) ?_
    exact aw_iret rfl dT_wayCost_65 (by unfold wc; rw [if_neg (by decide), if_neg (by decide), if_pos (Int32.not_le.mp c54)]; exact ⟨rfl, rfl⟩)

theorem c_T_wayCost (N : Nat → Nat) (V : Nat → Nat → Int32) (K : Nat → Int32) (J : Nat → Int32) (B : Nat → Nat → Int32) (hI : TInv N V K J B) {k i kd : Nat} (hk : k < 4) (hi : i + 1 < 40) (h1 : 1 ≤ kd) (h3 : kd ≤ 3) : AM kT_wayCost 2 [.ref 0, .int (nI k), .int (nI i), .int (nI kd)] (hT J B) (RQ (wc (V k) i kd) (hT J B)) := by
  rcases (show kd = 1 ∨ kd = 2 ∨ kd = 3 by omega) with rfl | rfl | rfl
  · exact c_T_wayCost1 N V K J B hI hk hi
  · exact c_T_wayCost2 N V K J B hI hk hi
  · exact c_T_wayCost3 N V K J B hI hk hi

theorem g_T_w77 {d : Nat} {Q : QT} {a0 a1 a2 a3 a5 : Option Value} {st : List Value} {h : List AC} {x b : Int32} (kk : AN kT_weighs d Q 88 [a0, a1, a2, a3, some (.int (if x < b then x else b)), a5, some (.int x)] st h) : AN kT_weighs d Q 77 [a0, a1, a2, a3, some (.int b), a5, some (.int x)] st h := by
  refine aw_iload dT_weighs_77 rfl ?_
  refine aw_iload dT_weighs_79 rfl ?_
  refine aw_icmp_ge (tgt := 88) dT_weighs_81 (by decide) (fun c => ?_) (fun c => ?_)
  · rw [if_neg (Int32.not_lt.mpr c)] at kk; exact kk
  · refine aw_iload dT_weighs_84 rfl ?_
    refine si7_4 dT_weighs_86 (by decide) ?_
    rw [if_pos (Int32.not_le.mp c)] at kk; exact kk

def WQT (N : Nat → Nat) (V : Nat → Nat → Int32) (K J : Nat → Int32) (k : Nat) : QT := fun r h' => r = none ∧ ∃ B', h' = hT J B' ∧ TInv N V K J B' ∧ tblD (B' 6) (V k) (N k) (K 8) 0
set_option maxHeartbeats 4000000 in
set_option maxRecDepth 100000 in
theorem l_T_weighs (N : Nat → Nat) (V : Nat → Nat → Int32) (K : Nat → Int32) (J : Nat → Int32) (B : Nat → Nat → Int32) (hI : TInv N V K J B) (hP : PInv N V K) {k : Nat} (hk : k < 4) : ∀ (m : Nat) (B1 : Nat → Nat → Int32), m ≤ N k → TInv N V K J B1 → tblD (B1 6) (V k) (N k) (K 8) m → AN kT_weighs 5 (WQT N V K J k) 9 [some (.ref 0), some (.int (nI k)), some (.int (nI m - 1)), none, none, none, none] [] (hT J B1) := by
  have hv := hP.vb hk
  have hp := hP.part
  intro m
  induction m with
  | zero =>
    intro B1 hm h1 hD
    refine aw_iload_n dT_weighs_9 rfl ?_
    refine aw_if_lt (tgt := 139) dT_weighs_10 (by decide) (fun c10 => ?_) (fun c10 => absurd (by decide) c10)
    exact aw_vret rfl dT_weighs_139 ⟨rfl, B1, rfl, h1, hD⟩
  | succ m ih =>
    intro B1 hm h1 hD
    have h40 := hI.n k hk
    rw [nI_pred m]
    by_cases w1 : wy (V k) (N k) m
    · by_cases w2 : wy (V k) (N k) (m + 1)
      · refine aw_iload_n dT_weighs_9 rfl ?_
        refine aw_if_lt (tgt := 139) dT_weighs_10 (by decide) (fun c10 => absurd c10 (nI_pos (by omega))) (fun c10 => ?_)
        refine aw_iconst (v := 1) dT_weighs_13 (by decide) ?_
        refine si7_3 dT_weighs_14 (by decide) ?_
        refine aw_iload_n dT_weighs_15 rfl ?_
        refine aw_iconst (v := 4) dT_weighs_16 (by decide) ?_
        refine aw_icmp_ge (tgt := 133) dT_weighs_17 (by decide) (fun q => absurd q (by decide)) (fun _ => ?_)
        refine aw_iconst (v := 0) dT_weighs_20 (by decide) ?_
        refine si7_4 dT_weighs_21 (by decide) ?_
        refine aw_aload_r dT_weighs_23 rfl ?_
        refine aw_iload_n dT_weighs_24 rfl ?_
        refine aw_iload_n dT_weighs_25 rfl ?_
        refine aw_iconst (v := 1) dT_weighs_26 (by decide) ?_
        refine aw_iadd dT_weighs_27 ?_
        refine an_top (nI_1 m) ?_
        refine an_callVb cg_T_94 (c_T_isWay N V K _ _ (by exact h1) hk (by omega)) dT_weighs_28 rfl rfl rfl rfl rfl (Nat.le_of_ble_eq_true rfl) (Nat.le_of_ble_eq_true rfl) (fun p28 => ?_) (fun q9 => absurd (w2) q9)
        refine aw_if_eq (tgt := 94) dT_weighs_31 (by decide) (fun q => absurd q (by decide)) (fun _ => ?_)
        refine aw_ldc (v := 1000000000) (k_at 682 (by decide +kernel) (by decide +kernel)) dT_weighs_34 ?_
        refine si7_4 dT_weighs_36 (by decide) ?_
        refine aw_iconst (v := 1) dT_weighs_38 (by decide) ?_
        refine si7_5 dT_weighs_39 (by decide) ?_
        refine aw_iload dT_weighs_41 rfl ?_
        refine aw_iconst (v := 4) dT_weighs_43 (by decide) ?_
        refine aw_icmp_ge (tgt := 94) dT_weighs_44 (by decide) (fun q => absurd q (by decide)) (fun _ => ?_)
        refine aw_aload_r dT_weighs_47 rfl ?_
        refine aw_get fg_T_32 dT_weighs_48 rfl rfl ?_
        refine aw_iconst (v := 4) dT_weighs_51 (by decide) ?_
        refine aw_iload_n dT_weighs_52 rfl ?_
        refine aw_iconst (v := 1) dT_weighs_53 (by decide) ?_
        refine aw_iadd dT_weighs_54 ?_
        refine an_top (nI_1 m) ?_
        refine aw_imul dT_weighs_55 ?_
        refine aw_iload dT_weighs_56 rfl ?_
        refine aw_iadd dT_weighs_58 ?_
        refine an_ldT dT_weighs_59 at_6 ix4_1 (by omega) (by decide) ?_
        refine an_top (y := DP (V k) (N k) (K 8) (m + 1) 1) (hD (m + 1) (by omega) (by have := w2.1; omega) 1 (by decide) (by decide)) ?_
        refine aw_iload dT_weighs_60 rfl ?_
        refine aw_iload_n dT_weighs_62 rfl ?_
        refine aw_icmp_ne (tgt := 70) dT_weighs_63 (by decide) (fun q => absurd q (by decide)) (fun _ => ?_)
        refine aw_iconst (v := 0) dT_weighs_66 (by decide) ?_
        refine aw_goto (tgt := 74) dT_weighs_67 (by decide) ?_
        refine aw_iadd dT_weighs_74 ?_
        refine an_top (cb_same (DP (V k) (N k) (K 8) (m + 1)) (K 8) 1) ?_
        refine si7_6 dT_weighs_75 (by decide) ?_
        refine g_T_w77 ?_
        rw [if_pos (cb_far hv hp)]
        refine ic7_5 (w := 2) dT_weighs_88 (by decide) (by decide) ?_
        refine aw_goto (tgt := 41) dT_weighs_91 (by decide) ?_
        refine aw_iload dT_weighs_41 rfl ?_
        refine aw_iconst (v := 4) dT_weighs_43 (by decide) ?_
        refine aw_icmp_ge (tgt := 94) dT_weighs_44 (by decide) (fun q => absurd q (by decide)) (fun _ => ?_)
        refine aw_aload_r dT_weighs_47 rfl ?_
        refine aw_get fg_T_32 dT_weighs_48 rfl rfl ?_
        refine aw_iconst (v := 4) dT_weighs_51 (by decide) ?_
        refine aw_iload_n dT_weighs_52 rfl ?_
        refine aw_iconst (v := 1) dT_weighs_53 (by decide) ?_
        refine aw_iadd dT_weighs_54 ?_
        refine an_top (nI_1 m) ?_
        refine aw_imul dT_weighs_55 ?_
        refine aw_iload dT_weighs_56 rfl ?_
        refine aw_iadd dT_weighs_58 ?_
        refine an_ldT dT_weighs_59 at_6 ix4_2 (by omega) (by decide) ?_
        refine an_top (y := DP (V k) (N k) (K 8) (m + 1) 2) (hD (m + 1) (by omega) (by have := w2.1; omega) 2 (by decide) (by decide)) ?_
        refine aw_iload dT_weighs_60 rfl ?_
        refine aw_iload_n dT_weighs_62 rfl ?_
        refine aw_icmp_ne (tgt := 70) dT_weighs_63 (by decide) (fun _ => ?_) (fun q => absurd q (by decide))
        refine aw_aload_r dT_weighs_70 rfl ?_
        refine aw_get fg_T_22 dT_weighs_71 rfl rfl ?_
        show AN _ _ _ _ _ (.int (J 4) :: _) _
        rw [h1.2.1]
        refine aw_iadd dT_weighs_74 ?_
        refine an_top (show DP (V k) (N k) (K 8) (m + 1) 2 + K 8 = cb (DP (V k) (N k) (K 8) (m + 1)) (K 8) 1 2 from rfl) ?_
        refine si7_6 dT_weighs_75 (by decide) ?_
        refine g_T_w77 ?_
        refine ic7_5 (w := 3) dT_weighs_88 (by decide) (by decide) ?_
        refine aw_goto (tgt := 41) dT_weighs_91 (by decide) ?_
        refine aw_iload dT_weighs_41 rfl ?_
        refine aw_iconst (v := 4) dT_weighs_43 (by decide) ?_
        refine aw_icmp_ge (tgt := 94) dT_weighs_44 (by decide) (fun q => absurd q (by decide)) (fun _ => ?_)
        refine aw_aload_r dT_weighs_47 rfl ?_
        refine aw_get fg_T_32 dT_weighs_48 rfl rfl ?_
        refine aw_iconst (v := 4) dT_weighs_51 (by decide) ?_
        refine aw_iload_n dT_weighs_52 rfl ?_
        refine aw_iconst (v := 1) dT_weighs_53 (by decide) ?_
        refine aw_iadd dT_weighs_54 ?_
        refine an_top (nI_1 m) ?_
        refine aw_imul dT_weighs_55 ?_
        refine aw_iload dT_weighs_56 rfl ?_
        refine aw_iadd dT_weighs_58 ?_
        refine an_ldT dT_weighs_59 at_6 ix4_3 (by omega) (by decide) ?_
        refine an_top (y := DP (V k) (N k) (K 8) (m + 1) 3) (hD (m + 1) (by omega) (by have := w2.1; omega) 3 (by decide) (by decide)) ?_
        refine aw_iload dT_weighs_60 rfl ?_
        refine aw_iload_n dT_weighs_62 rfl ?_
        refine aw_icmp_ne (tgt := 70) dT_weighs_63 (by decide) (fun _ => ?_) (fun q => absurd q (by decide))
        refine aw_aload_r dT_weighs_70 rfl ?_
        refine aw_get fg_T_22 dT_weighs_71 rfl rfl ?_
        show AN _ _ _ _ _ (.int (J 4) :: _) _
        rw [h1.2.1]
        refine aw_iadd dT_weighs_74 ?_
        refine an_top (show DP (V k) (N k) (K 8) (m + 1) 3 + K 8 = cb (DP (V k) (N k) (K 8) (m + 1)) (K 8) 1 3 from rfl) ?_
        refine si7_6 dT_weighs_75 (by decide) ?_
        refine g_T_w77 ?_
        refine ic7_5 (w := 4) dT_weighs_88 (by decide) (by decide) ?_
        refine aw_goto (tgt := 41) dT_weighs_91 (by decide) ?_
        refine aw_iload dT_weighs_41 rfl ?_
        refine aw_iconst (v := 4) dT_weighs_43 (by decide) ?_
        refine aw_icmp_ge (tgt := 94) dT_weighs_44 (by decide) (fun _ => ?_) (fun q => absurd q (by decide))
        refine aw_aload_r dT_weighs_94 rfl ?_
        refine aw_get fg_T_32 dT_weighs_95 rfl rfl ?_
        refine aw_iconst (v := 4) dT_weighs_98 (by decide) ?_
        refine aw_iload_n dT_weighs_99 rfl ?_
        refine aw_imul dT_weighs_100 ?_
        refine aw_iload_n dT_weighs_101 rfl ?_
        refine aw_iadd dT_weighs_102 ?_
        refine aw_aload_r dT_weighs_103 rfl ?_
        refine aw_iload_n dT_weighs_104 rfl ?_
        refine aw_iload_n dT_weighs_105 rfl ?_
        refine an_callVb cg_T_94 (c_T_isWay N V K _ _ (by exact h1) hk (by omega)) dT_weighs_106 rfl rfl rfl rfl rfl (Nat.le_of_ble_eq_true rfl) (Nat.le_of_ble_eq_true rfl) (fun p106 => ?_) (fun q9 => absurd (w1) q9)
        refine aw_if_eq (tgt := 125) dT_weighs_109 (by decide) (fun q => absurd q (by decide)) (fun _ => ?_)
        refine aw_aload_r dT_weighs_112 rfl ?_
        refine aw_iload_n dT_weighs_113 rfl ?_
        refine aw_iload_n dT_weighs_114 rfl ?_
        refine aw_iload_n dT_weighs_115 rfl ?_
        refine an_callVr cg_T_98 (c_T_wayCost1 N V K _ _ (by exact h1) hk (by have := w1.1; omega)) dT_weighs_116 rfl rfl rfl rfl rfl (Nat.le_of_ble_eq_true rfl) (Nat.le_of_ble_eq_true rfl) ?_
        refine aw_iload dT_weighs_119 rfl ?_
        refine aw_iadd dT_weighs_121 ?_
        refine aw_goto (tgt := 126) dT_weighs_122 (by decide) ?_
        refine an_stT dT_weighs_126 at_6 ix4_1 (by omega) (by decide) ?_
        refine ic7_3 (w := 2) dT_weighs_127 (by decide) (by decide) ?_
        refine aw_goto (tgt := 15) dT_weighs_130 (by decide) ?_
        refine aw_iload_n dT_weighs_15 rfl ?_
        refine aw_iconst (v := 4) dT_weighs_16 (by decide) ?_
        refine aw_icmp_ge (tgt := 133) dT_weighs_17 (by decide) (fun q => absurd q (by decide)) (fun _ => ?_)
        refine aw_iconst (v := 0) dT_weighs_20 (by decide) ?_
        refine si7_4 dT_weighs_21 (by decide) ?_
        refine aw_aload_r dT_weighs_23 rfl ?_
        refine aw_iload_n dT_weighs_24 rfl ?_
        refine aw_iload_n dT_weighs_25 rfl ?_
        refine aw_iconst (v := 1) dT_weighs_26 (by decide) ?_
        refine aw_iadd dT_weighs_27 ?_
        refine an_top (nI_1 m) ?_
        refine an_callVb cg_T_94 (c_T_isWay N V K _ _ (by exact h1) hk (by omega)) dT_weighs_28 rfl rfl rfl rfl rfl (Nat.le_of_ble_eq_true rfl) (Nat.le_of_ble_eq_true rfl) (fun p28 => ?_) (fun q9 => absurd (w2) q9)
        refine aw_if_eq (tgt := 94) dT_weighs_31 (by decide) (fun q => absurd q (by decide)) (fun _ => ?_)
        refine aw_ldc (v := 1000000000) (k_at 682 (by decide +kernel) (by decide +kernel)) dT_weighs_34 ?_
        refine si7_4 dT_weighs_36 (by decide) ?_
        refine aw_iconst (v := 1) dT_weighs_38 (by decide) ?_
        refine si7_5 dT_weighs_39 (by decide) ?_
        refine aw_iload dT_weighs_41 rfl ?_
        refine aw_iconst (v := 4) dT_weighs_43 (by decide) ?_
        refine aw_icmp_ge (tgt := 94) dT_weighs_44 (by decide) (fun q => absurd q (by decide)) (fun _ => ?_)
        refine aw_aload_r dT_weighs_47 rfl ?_
        refine aw_get fg_T_32 dT_weighs_48 rfl rfl ?_
        refine aw_iconst (v := 4) dT_weighs_51 (by decide) ?_
        refine aw_iload_n dT_weighs_52 rfl ?_
        refine aw_iconst (v := 1) dT_weighs_53 (by decide) ?_
        refine aw_iadd dT_weighs_54 ?_
        refine an_top (nI_1 m) ?_
        refine aw_imul dT_weighs_55 ?_
        refine aw_iload dT_weighs_56 rfl ?_
        refine aw_iadd dT_weighs_58 ?_
        refine an_ldT dT_weighs_59 at_6 ix4_1 (by omega) (by decide) ?_
        refine an_top (y := DP (V k) (N k) (K 8) (m + 1) 1) (by simp only [up_s, pk_un (show 4 * (m + 1) + 1 ≠ 4 * m + 1 by omega), pk_un (show 4 * (m + 1) + 1 ≠ 4 * m + 2 by omega)]; exact hD (m + 1) (by omega) (by have := w2.1; omega) 1 (by decide) (by decide)) ?_
        refine aw_iload dT_weighs_60 rfl ?_
        refine aw_iload_n dT_weighs_62 rfl ?_
        refine aw_icmp_ne (tgt := 70) dT_weighs_63 (by decide) (fun _ => ?_) (fun q => absurd q (by decide))
        refine aw_aload_r dT_weighs_70 rfl ?_
        refine aw_get fg_T_22 dT_weighs_71 rfl rfl ?_
        show AN _ _ _ _ _ (.int (J 4) :: _) _
        rw [h1.2.1]
        refine aw_iadd dT_weighs_74 ?_
        refine an_top (show DP (V k) (N k) (K 8) (m + 1) 1 + K 8 = cb (DP (V k) (N k) (K 8) (m + 1)) (K 8) 2 1 from rfl) ?_
        refine si7_6 dT_weighs_75 (by decide) ?_
        refine g_T_w77 ?_
        rw [if_pos (cb_far hv hp)]
        refine ic7_5 (w := 2) dT_weighs_88 (by decide) (by decide) ?_
        refine aw_goto (tgt := 41) dT_weighs_91 (by decide) ?_
        refine aw_iload dT_weighs_41 rfl ?_
        refine aw_iconst (v := 4) dT_weighs_43 (by decide) ?_
        refine aw_icmp_ge (tgt := 94) dT_weighs_44 (by decide) (fun q => absurd q (by decide)) (fun _ => ?_)
        refine aw_aload_r dT_weighs_47 rfl ?_
        refine aw_get fg_T_32 dT_weighs_48 rfl rfl ?_
        refine aw_iconst (v := 4) dT_weighs_51 (by decide) ?_
        refine aw_iload_n dT_weighs_52 rfl ?_
        refine aw_iconst (v := 1) dT_weighs_53 (by decide) ?_
        refine aw_iadd dT_weighs_54 ?_
        refine an_top (nI_1 m) ?_
        refine aw_imul dT_weighs_55 ?_
        refine aw_iload dT_weighs_56 rfl ?_
        refine aw_iadd dT_weighs_58 ?_
        refine an_ldT dT_weighs_59 at_6 ix4_2 (by omega) (by decide) ?_
        refine an_top (y := DP (V k) (N k) (K 8) (m + 1) 2) (by simp only [up_s, pk_un (show 4 * (m + 1) + 2 ≠ 4 * m + 1 by omega), pk_un (show 4 * (m + 1) + 2 ≠ 4 * m + 2 by omega)]; exact hD (m + 1) (by omega) (by have := w2.1; omega) 2 (by decide) (by decide)) ?_
        refine aw_iload dT_weighs_60 rfl ?_
        refine aw_iload_n dT_weighs_62 rfl ?_
        refine aw_icmp_ne (tgt := 70) dT_weighs_63 (by decide) (fun q => absurd q (by decide)) (fun _ => ?_)
        refine aw_iconst (v := 0) dT_weighs_66 (by decide) ?_
        refine aw_goto (tgt := 74) dT_weighs_67 (by decide) ?_
        refine aw_iadd dT_weighs_74 ?_
        refine an_top (cb_same (DP (V k) (N k) (K 8) (m + 1)) (K 8) 2) ?_
        refine si7_6 dT_weighs_75 (by decide) ?_
        refine g_T_w77 ?_
        refine ic7_5 (w := 3) dT_weighs_88 (by decide) (by decide) ?_
        refine aw_goto (tgt := 41) dT_weighs_91 (by decide) ?_
        refine aw_iload dT_weighs_41 rfl ?_
        refine aw_iconst (v := 4) dT_weighs_43 (by decide) ?_
        refine aw_icmp_ge (tgt := 94) dT_weighs_44 (by decide) (fun q => absurd q (by decide)) (fun _ => ?_)
        refine aw_aload_r dT_weighs_47 rfl ?_
        refine aw_get fg_T_32 dT_weighs_48 rfl rfl ?_
        refine aw_iconst (v := 4) dT_weighs_51 (by decide) ?_
        refine aw_iload_n dT_weighs_52 rfl ?_
        refine aw_iconst (v := 1) dT_weighs_53 (by decide) ?_
        refine aw_iadd dT_weighs_54 ?_
        refine an_top (nI_1 m) ?_
        refine aw_imul dT_weighs_55 ?_
        refine aw_iload dT_weighs_56 rfl ?_
        refine aw_iadd dT_weighs_58 ?_
        refine an_ldT dT_weighs_59 at_6 ix4_3 (by omega) (by decide) ?_
        refine an_top (y := DP (V k) (N k) (K 8) (m + 1) 3) (by simp only [up_s, pk_un (show 4 * (m + 1) + 3 ≠ 4 * m + 1 by omega), pk_un (show 4 * (m + 1) + 3 ≠ 4 * m + 2 by omega)]; exact hD (m + 1) (by omega) (by have := w2.1; omega) 3 (by decide) (by decide)) ?_
        refine aw_iload dT_weighs_60 rfl ?_
        refine aw_iload_n dT_weighs_62 rfl ?_
        refine aw_icmp_ne (tgt := 70) dT_weighs_63 (by decide) (fun _ => ?_) (fun q => absurd q (by decide))
        refine aw_aload_r dT_weighs_70 rfl ?_
        refine aw_get fg_T_22 dT_weighs_71 rfl rfl ?_
        show AN _ _ _ _ _ (.int (J 4) :: _) _
        rw [h1.2.1]
        refine aw_iadd dT_weighs_74 ?_
        refine an_top (show DP (V k) (N k) (K 8) (m + 1) 3 + K 8 = cb (DP (V k) (N k) (K 8) (m + 1)) (K 8) 2 3 from rfl) ?_
        refine si7_6 dT_weighs_75 (by decide) ?_
        refine g_T_w77 ?_
        refine ic7_5 (w := 4) dT_weighs_88 (by decide) (by decide) ?_
        refine aw_goto (tgt := 41) dT_weighs_91 (by decide) ?_
        refine aw_iload dT_weighs_41 rfl ?_
        refine aw_iconst (v := 4) dT_weighs_43 (by decide) ?_
        refine aw_icmp_ge (tgt := 94) dT_weighs_44 (by decide) (fun _ => ?_) (fun q => absurd q (by decide))
        refine aw_aload_r dT_weighs_94 rfl ?_
        refine aw_get fg_T_32 dT_weighs_95 rfl rfl ?_
        refine aw_iconst (v := 4) dT_weighs_98 (by decide) ?_
        refine aw_iload_n dT_weighs_99 rfl ?_
        refine aw_imul dT_weighs_100 ?_
        refine aw_iload_n dT_weighs_101 rfl ?_
        refine aw_iadd dT_weighs_102 ?_
        refine aw_aload_r dT_weighs_103 rfl ?_
        refine aw_iload_n dT_weighs_104 rfl ?_
        refine aw_iload_n dT_weighs_105 rfl ?_
        refine an_callVb cg_T_94 (c_T_isWay N V K _ _ (by exact h1) hk (by omega)) dT_weighs_106 rfl rfl rfl rfl rfl (Nat.le_of_ble_eq_true rfl) (Nat.le_of_ble_eq_true rfl) (fun p106 => ?_) (fun q9 => absurd (w1) q9)
        refine aw_if_eq (tgt := 125) dT_weighs_109 (by decide) (fun q => absurd q (by decide)) (fun _ => ?_)
        refine aw_aload_r dT_weighs_112 rfl ?_
        refine aw_iload_n dT_weighs_113 rfl ?_
        refine aw_iload_n dT_weighs_114 rfl ?_
        refine aw_iload_n dT_weighs_115 rfl ?_
        refine an_callVr cg_T_98 (c_T_wayCost2 N V K _ _ (by exact h1) hk (by have := w1.1; omega)) dT_weighs_116 rfl rfl rfl rfl rfl (Nat.le_of_ble_eq_true rfl) (Nat.le_of_ble_eq_true rfl) ?_
        refine aw_iload dT_weighs_119 rfl ?_
        refine aw_iadd dT_weighs_121 ?_
        refine aw_goto (tgt := 126) dT_weighs_122 (by decide) ?_
        refine an_stT dT_weighs_126 at_6 ix4_2 (by omega) (by decide) ?_
        refine ic7_3 (w := 3) dT_weighs_127 (by decide) (by decide) ?_
        refine aw_goto (tgt := 15) dT_weighs_130 (by decide) ?_
        refine aw_iload_n dT_weighs_15 rfl ?_
        refine aw_iconst (v := 4) dT_weighs_16 (by decide) ?_
        refine aw_icmp_ge (tgt := 133) dT_weighs_17 (by decide) (fun q => absurd q (by decide)) (fun _ => ?_)
        refine aw_iconst (v := 0) dT_weighs_20 (by decide) ?_
        refine si7_4 dT_weighs_21 (by decide) ?_
        refine aw_aload_r dT_weighs_23 rfl ?_
        refine aw_iload_n dT_weighs_24 rfl ?_
        refine aw_iload_n dT_weighs_25 rfl ?_
        refine aw_iconst (v := 1) dT_weighs_26 (by decide) ?_
        refine aw_iadd dT_weighs_27 ?_
        refine an_top (nI_1 m) ?_
        refine an_callVb cg_T_94 (c_T_isWay N V K _ _ (by exact h1) hk (by omega)) dT_weighs_28 rfl rfl rfl rfl rfl (Nat.le_of_ble_eq_true rfl) (Nat.le_of_ble_eq_true rfl) (fun p28 => ?_) (fun q9 => absurd (w2) q9)
        refine aw_if_eq (tgt := 94) dT_weighs_31 (by decide) (fun q => absurd q (by decide)) (fun _ => ?_)
        refine aw_ldc (v := 1000000000) (k_at 682 (by decide +kernel) (by decide +kernel)) dT_weighs_34 ?_
        refine si7_4 dT_weighs_36 (by decide) ?_
        refine aw_iconst (v := 1) dT_weighs_38 (by decide) ?_
        refine si7_5 dT_weighs_39 (by decide) ?_
        refine aw_iload dT_weighs_41 rfl ?_
        refine aw_iconst (v := 4) dT_weighs_43 (by decide) ?_
        refine aw_icmp_ge (tgt := 94) dT_weighs_44 (by decide) (fun q => absurd q (by decide)) (fun _ => ?_)
        refine aw_aload_r dT_weighs_47 rfl ?_
        refine aw_get fg_T_32 dT_weighs_48 rfl rfl ?_
        refine aw_iconst (v := 4) dT_weighs_51 (by decide) ?_
        refine aw_iload_n dT_weighs_52 rfl ?_
        refine aw_iconst (v := 1) dT_weighs_53 (by decide) ?_
        refine aw_iadd dT_weighs_54 ?_
        refine an_top (nI_1 m) ?_
        refine aw_imul dT_weighs_55 ?_
        refine aw_iload dT_weighs_56 rfl ?_
        refine aw_iadd dT_weighs_58 ?_
        refine an_ldT dT_weighs_59 at_6 ix4_1 (by omega) (by decide) ?_
        refine an_top (y := DP (V k) (N k) (K 8) (m + 1) 1) (by simp only [up_s, pk_un (show 4 * (m + 1) + 1 ≠ 4 * m + 1 by omega), pk_un (show 4 * (m + 1) + 1 ≠ 4 * m + 2 by omega)]; exact hD (m + 1) (by omega) (by have := w2.1; omega) 1 (by decide) (by decide)) ?_
        refine aw_iload dT_weighs_60 rfl ?_
        refine aw_iload_n dT_weighs_62 rfl ?_
        refine aw_icmp_ne (tgt := 70) dT_weighs_63 (by decide) (fun _ => ?_) (fun q => absurd q (by decide))
        refine aw_aload_r dT_weighs_70 rfl ?_
        refine aw_get fg_T_22 dT_weighs_71 rfl rfl ?_
        show AN _ _ _ _ _ (.int (J 4) :: _) _
        rw [h1.2.1]
        refine aw_iadd dT_weighs_74 ?_
        refine an_top (show DP (V k) (N k) (K 8) (m + 1) 1 + K 8 = cb (DP (V k) (N k) (K 8) (m + 1)) (K 8) 3 1 from rfl) ?_
        refine si7_6 dT_weighs_75 (by decide) ?_
        refine g_T_w77 ?_
        rw [if_pos (cb_far hv hp)]
        refine ic7_5 (w := 2) dT_weighs_88 (by decide) (by decide) ?_
        refine aw_goto (tgt := 41) dT_weighs_91 (by decide) ?_
        refine aw_iload dT_weighs_41 rfl ?_
        refine aw_iconst (v := 4) dT_weighs_43 (by decide) ?_
        refine aw_icmp_ge (tgt := 94) dT_weighs_44 (by decide) (fun q => absurd q (by decide)) (fun _ => ?_)
        refine aw_aload_r dT_weighs_47 rfl ?_
        refine aw_get fg_T_32 dT_weighs_48 rfl rfl ?_
        refine aw_iconst (v := 4) dT_weighs_51 (by decide) ?_
        refine aw_iload_n dT_weighs_52 rfl ?_
        refine aw_iconst (v := 1) dT_weighs_53 (by decide) ?_
        refine aw_iadd dT_weighs_54 ?_
        refine an_top (nI_1 m) ?_
        refine aw_imul dT_weighs_55 ?_
        refine aw_iload dT_weighs_56 rfl ?_
        refine aw_iadd dT_weighs_58 ?_
        refine an_ldT dT_weighs_59 at_6 ix4_2 (by omega) (by decide) ?_
        refine an_top (y := DP (V k) (N k) (K 8) (m + 1) 2) (by simp only [up_s, pk_un (show 4 * (m + 1) + 2 ≠ 4 * m + 1 by omega), pk_un (show 4 * (m + 1) + 2 ≠ 4 * m + 2 by omega)]; exact hD (m + 1) (by omega) (by have := w2.1; omega) 2 (by decide) (by decide)) ?_
        refine aw_iload dT_weighs_60 rfl ?_
        refine aw_iload_n dT_weighs_62 rfl ?_
        refine aw_icmp_ne (tgt := 70) dT_weighs_63 (by decide) (fun _ => ?_) (fun q => absurd q (by decide))
        refine aw_aload_r dT_weighs_70 rfl ?_
        refine aw_get fg_T_22 dT_weighs_71 rfl rfl ?_
        show AN _ _ _ _ _ (.int (J 4) :: _) _
        rw [h1.2.1]
        refine aw_iadd dT_weighs_74 ?_
        refine an_top (show DP (V k) (N k) (K 8) (m + 1) 2 + K 8 = cb (DP (V k) (N k) (K 8) (m + 1)) (K 8) 3 2 from rfl) ?_
        refine si7_6 dT_weighs_75 (by decide) ?_
        refine g_T_w77 ?_
        refine ic7_5 (w := 3) dT_weighs_88 (by decide) (by decide) ?_
        refine aw_goto (tgt := 41) dT_weighs_91 (by decide) ?_
        refine aw_iload dT_weighs_41 rfl ?_
        refine aw_iconst (v := 4) dT_weighs_43 (by decide) ?_
        refine aw_icmp_ge (tgt := 94) dT_weighs_44 (by decide) (fun q => absurd q (by decide)) (fun _ => ?_)
        refine aw_aload_r dT_weighs_47 rfl ?_
        refine aw_get fg_T_32 dT_weighs_48 rfl rfl ?_
        refine aw_iconst (v := 4) dT_weighs_51 (by decide) ?_
        refine aw_iload_n dT_weighs_52 rfl ?_
        refine aw_iconst (v := 1) dT_weighs_53 (by decide) ?_
        refine aw_iadd dT_weighs_54 ?_
        refine an_top (nI_1 m) ?_
        refine aw_imul dT_weighs_55 ?_
        refine aw_iload dT_weighs_56 rfl ?_
        refine aw_iadd dT_weighs_58 ?_
        refine an_ldT dT_weighs_59 at_6 ix4_3 (by omega) (by decide) ?_
        refine an_top (y := DP (V k) (N k) (K 8) (m + 1) 3) (by simp only [up_s, pk_un (show 4 * (m + 1) + 3 ≠ 4 * m + 1 by omega), pk_un (show 4 * (m + 1) + 3 ≠ 4 * m + 2 by omega)]; exact hD (m + 1) (by omega) (by have := w2.1; omega) 3 (by decide) (by decide)) ?_
        refine aw_iload dT_weighs_60 rfl ?_
        refine aw_iload_n dT_weighs_62 rfl ?_
        refine aw_icmp_ne (tgt := 70) dT_weighs_63 (by decide) (fun q => absurd q (by decide)) (fun _ => ?_)
        refine aw_iconst (v := 0) dT_weighs_66 (by decide) ?_
        refine aw_goto (tgt := 74) dT_weighs_67 (by decide) ?_
        refine aw_iadd dT_weighs_74 ?_
        refine an_top (cb_same (DP (V k) (N k) (K 8) (m + 1)) (K 8) 3) ?_
        refine si7_6 dT_weighs_75 (by decide) ?_
        refine g_T_w77 ?_
        refine ic7_5 (w := 4) dT_weighs_88 (by decide) (by decide) ?_
        refine aw_goto (tgt := 41) dT_weighs_91 (by decide) ?_
        refine aw_iload dT_weighs_41 rfl ?_
        refine aw_iconst (v := 4) dT_weighs_43 (by decide) ?_
        refine aw_icmp_ge (tgt := 94) dT_weighs_44 (by decide) (fun _ => ?_) (fun q => absurd q (by decide))
        refine aw_aload_r dT_weighs_94 rfl ?_
        refine aw_get fg_T_32 dT_weighs_95 rfl rfl ?_
        refine aw_iconst (v := 4) dT_weighs_98 (by decide) ?_
        refine aw_iload_n dT_weighs_99 rfl ?_
        refine aw_imul dT_weighs_100 ?_
        refine aw_iload_n dT_weighs_101 rfl ?_
        refine aw_iadd dT_weighs_102 ?_
        refine aw_aload_r dT_weighs_103 rfl ?_
        refine aw_iload_n dT_weighs_104 rfl ?_
        refine aw_iload_n dT_weighs_105 rfl ?_
        refine an_callVb cg_T_94 (c_T_isWay N V K _ _ (by exact h1) hk (by omega)) dT_weighs_106 rfl rfl rfl rfl rfl (Nat.le_of_ble_eq_true rfl) (Nat.le_of_ble_eq_true rfl) (fun p106 => ?_) (fun q9 => absurd (w1) q9)
        refine aw_if_eq (tgt := 125) dT_weighs_109 (by decide) (fun q => absurd q (by decide)) (fun _ => ?_)
        refine aw_aload_r dT_weighs_112 rfl ?_
        refine aw_iload_n dT_weighs_113 rfl ?_
        refine aw_iload_n dT_weighs_114 rfl ?_
        refine aw_iload_n dT_weighs_115 rfl ?_
        refine an_callVr cg_T_98 (c_T_wayCost3 N V K _ _ (by exact h1) hk (by have := w1.1; omega)) dT_weighs_116 rfl rfl rfl rfl rfl (Nat.le_of_ble_eq_true rfl) (Nat.le_of_ble_eq_true rfl) ?_
        refine aw_iload dT_weighs_119 rfl ?_
        refine aw_iadd dT_weighs_121 ?_
        refine aw_goto (tgt := 126) dT_weighs_122 (by decide) ?_
        refine an_stT dT_weighs_126 at_6 ix4_3 (by omega) (by decide) ?_
        refine ic7_3 (w := 4) dT_weighs_127 (by decide) (by decide) ?_
        refine aw_goto (tgt := 15) dT_weighs_130 (by decide) ?_
        refine aw_iload_n dT_weighs_15 rfl ?_
        refine aw_iconst (v := 4) dT_weighs_16 (by decide) ?_
        refine aw_icmp_ge (tgt := 133) dT_weighs_17 (by decide) (fun _ => ?_) (fun q => absurd q (by decide))
        refine ic7_2 dT_weighs_133 (show nI m + Int32.ofInt (-1) = nI m - 1 by rw [Int32.sub_eq_add_neg]; rfl) (by decide) ?_
        refine aw_goto (tgt := 9) dT_weighs_136 (by decide) ?_
        exact an_weak (ih _ (by omega) (by exact h1) (tbl_step hD (by rw [DP_eq (by omega), if_pos w1, if_pos w2]; rfl) (by rw [DP_eq (by omega), if_pos w1, if_pos w2]; rfl) (by rw [DP_eq (by omega), if_pos w1, if_pos w2]; rfl))) ⟨rfl, rfl, rfl, trivial⟩
      · refine aw_iload_n dT_weighs_9 rfl ?_
        refine aw_if_lt (tgt := 139) dT_weighs_10 (by decide) (fun c10 => absurd c10 (nI_pos (by omega))) (fun c10 => ?_)
        refine aw_iconst (v := 1) dT_weighs_13 (by decide) ?_
        refine si7_3 dT_weighs_14 (by decide) ?_
        refine aw_iload_n dT_weighs_15 rfl ?_
        refine aw_iconst (v := 4) dT_weighs_16 (by decide) ?_
        refine aw_icmp_ge (tgt := 133) dT_weighs_17 (by decide) (fun q => absurd q (by decide)) (fun _ => ?_)
        refine aw_iconst (v := 0) dT_weighs_20 (by decide) ?_
        refine si7_4 dT_weighs_21 (by decide) ?_
        refine aw_aload_r dT_weighs_23 rfl ?_
        refine aw_iload_n dT_weighs_24 rfl ?_
        refine aw_iload_n dT_weighs_25 rfl ?_
        refine aw_iconst (v := 1) dT_weighs_26 (by decide) ?_
        refine aw_iadd dT_weighs_27 ?_
        refine an_top (nI_1 m) ?_
        refine an_callVb cg_T_94 (c_T_isWay N V K _ _ (by exact h1) hk (by omega)) dT_weighs_28 rfl rfl rfl rfl rfl (Nat.le_of_ble_eq_true rfl) (Nat.le_of_ble_eq_true rfl) (fun q9 => absurd q9 (w2)) (fun p28 => ?_)
        refine aw_if_eq (tgt := 94) dT_weighs_31 (by decide) (fun _ => ?_) (fun q => absurd q (by decide))
        refine aw_aload_r dT_weighs_94 rfl ?_
        refine aw_get fg_T_32 dT_weighs_95 rfl rfl ?_
        refine aw_iconst (v := 4) dT_weighs_98 (by decide) ?_
        refine aw_iload_n dT_weighs_99 rfl ?_
        refine aw_imul dT_weighs_100 ?_
        refine aw_iload_n dT_weighs_101 rfl ?_
        refine aw_iadd dT_weighs_102 ?_
        refine aw_aload_r dT_weighs_103 rfl ?_
        refine aw_iload_n dT_weighs_104 rfl ?_
        refine aw_iload_n dT_weighs_105 rfl ?_
        refine an_callVb cg_T_94 (c_T_isWay N V K _ _ (by exact h1) hk (by omega)) dT_weighs_106 rfl rfl rfl rfl rfl (Nat.le_of_ble_eq_true rfl) (Nat.le_of_ble_eq_true rfl) (fun p106 => ?_) (fun q9 => absurd (w1) q9)
        refine aw_if_eq (tgt := 125) dT_weighs_109 (by decide) (fun q => absurd q (by decide)) (fun _ => ?_)
        refine aw_aload_r dT_weighs_112 rfl ?_
        refine aw_iload_n dT_weighs_113 rfl ?_
        refine aw_iload_n dT_weighs_114 rfl ?_
        refine aw_iload_n dT_weighs_115 rfl ?_
        refine an_callVr cg_T_98 (c_T_wayCost1 N V K _ _ (by exact h1) hk (by have := w1.1; omega)) dT_weighs_116 rfl rfl rfl rfl rfl (Nat.le_of_ble_eq_true rfl) (Nat.le_of_ble_eq_true rfl) ?_
        refine aw_iload dT_weighs_119 rfl ?_
        refine aw_iadd dT_weighs_121 ?_
        refine aw_goto (tgt := 126) dT_weighs_122 (by decide) ?_
        refine an_stT dT_weighs_126 at_6 ix4_1 (by omega) (by decide) ?_
        refine ic7_3 (w := 2) dT_weighs_127 (by decide) (by decide) ?_
        refine aw_goto (tgt := 15) dT_weighs_130 (by decide) ?_
        refine aw_iload_n dT_weighs_15 rfl ?_
        refine aw_iconst (v := 4) dT_weighs_16 (by decide) ?_
        refine aw_icmp_ge (tgt := 133) dT_weighs_17 (by decide) (fun q => absurd q (by decide)) (fun _ => ?_)
        refine aw_iconst (v := 0) dT_weighs_20 (by decide) ?_
        refine si7_4 dT_weighs_21 (by decide) ?_
        refine aw_aload_r dT_weighs_23 rfl ?_
        refine aw_iload_n dT_weighs_24 rfl ?_
        refine aw_iload_n dT_weighs_25 rfl ?_
        refine aw_iconst (v := 1) dT_weighs_26 (by decide) ?_
        refine aw_iadd dT_weighs_27 ?_
        refine an_top (nI_1 m) ?_
        refine an_callVb cg_T_94 (c_T_isWay N V K _ _ (by exact h1) hk (by omega)) dT_weighs_28 rfl rfl rfl rfl rfl (Nat.le_of_ble_eq_true rfl) (Nat.le_of_ble_eq_true rfl) (fun q9 => absurd q9 (w2)) (fun p28 => ?_)
        refine aw_if_eq (tgt := 94) dT_weighs_31 (by decide) (fun _ => ?_) (fun q => absurd q (by decide))
        refine aw_aload_r dT_weighs_94 rfl ?_
        refine aw_get fg_T_32 dT_weighs_95 rfl rfl ?_
        refine aw_iconst (v := 4) dT_weighs_98 (by decide) ?_
        refine aw_iload_n dT_weighs_99 rfl ?_
        refine aw_imul dT_weighs_100 ?_
        refine aw_iload_n dT_weighs_101 rfl ?_
        refine aw_iadd dT_weighs_102 ?_
        refine aw_aload_r dT_weighs_103 rfl ?_
        refine aw_iload_n dT_weighs_104 rfl ?_
        refine aw_iload_n dT_weighs_105 rfl ?_
        refine an_callVb cg_T_94 (c_T_isWay N V K _ _ (by exact h1) hk (by omega)) dT_weighs_106 rfl rfl rfl rfl rfl (Nat.le_of_ble_eq_true rfl) (Nat.le_of_ble_eq_true rfl) (fun p106 => ?_) (fun q9 => absurd (w1) q9)
        refine aw_if_eq (tgt := 125) dT_weighs_109 (by decide) (fun q => absurd q (by decide)) (fun _ => ?_)
        refine aw_aload_r dT_weighs_112 rfl ?_
        refine aw_iload_n dT_weighs_113 rfl ?_
        refine aw_iload_n dT_weighs_114 rfl ?_
        refine aw_iload_n dT_weighs_115 rfl ?_
        refine an_callVr cg_T_98 (c_T_wayCost2 N V K _ _ (by exact h1) hk (by have := w1.1; omega)) dT_weighs_116 rfl rfl rfl rfl rfl (Nat.le_of_ble_eq_true rfl) (Nat.le_of_ble_eq_true rfl) ?_
        refine aw_iload dT_weighs_119 rfl ?_
        refine aw_iadd dT_weighs_121 ?_
        refine aw_goto (tgt := 126) dT_weighs_122 (by decide) ?_
        refine an_stT dT_weighs_126 at_6 ix4_2 (by omega) (by decide) ?_
        refine ic7_3 (w := 3) dT_weighs_127 (by decide) (by decide) ?_
        refine aw_goto (tgt := 15) dT_weighs_130 (by decide) ?_
        refine aw_iload_n dT_weighs_15 rfl ?_
        refine aw_iconst (v := 4) dT_weighs_16 (by decide) ?_
        refine aw_icmp_ge (tgt := 133) dT_weighs_17 (by decide) (fun q => absurd q (by decide)) (fun _ => ?_)
        refine aw_iconst (v := 0) dT_weighs_20 (by decide) ?_
        refine si7_4 dT_weighs_21 (by decide) ?_
        refine aw_aload_r dT_weighs_23 rfl ?_
        refine aw_iload_n dT_weighs_24 rfl ?_
        refine aw_iload_n dT_weighs_25 rfl ?_
        refine aw_iconst (v := 1) dT_weighs_26 (by decide) ?_
        refine aw_iadd dT_weighs_27 ?_
        refine an_top (nI_1 m) ?_
        refine an_callVb cg_T_94 (c_T_isWay N V K _ _ (by exact h1) hk (by omega)) dT_weighs_28 rfl rfl rfl rfl rfl (Nat.le_of_ble_eq_true rfl) (Nat.le_of_ble_eq_true rfl) (fun q9 => absurd q9 (w2)) (fun p28 => ?_)
        refine aw_if_eq (tgt := 94) dT_weighs_31 (by decide) (fun _ => ?_) (fun q => absurd q (by decide))
        refine aw_aload_r dT_weighs_94 rfl ?_
        refine aw_get fg_T_32 dT_weighs_95 rfl rfl ?_
        refine aw_iconst (v := 4) dT_weighs_98 (by decide) ?_
        refine aw_iload_n dT_weighs_99 rfl ?_
        refine aw_imul dT_weighs_100 ?_
        refine aw_iload_n dT_weighs_101 rfl ?_
        refine aw_iadd dT_weighs_102 ?_
        refine aw_aload_r dT_weighs_103 rfl ?_
        refine aw_iload_n dT_weighs_104 rfl ?_
        refine aw_iload_n dT_weighs_105 rfl ?_
        refine an_callVb cg_T_94 (c_T_isWay N V K _ _ (by exact h1) hk (by omega)) dT_weighs_106 rfl rfl rfl rfl rfl (Nat.le_of_ble_eq_true rfl) (Nat.le_of_ble_eq_true rfl) (fun p106 => ?_) (fun q9 => absurd (w1) q9)
        refine aw_if_eq (tgt := 125) dT_weighs_109 (by decide) (fun q => absurd q (by decide)) (fun _ => ?_)
        refine aw_aload_r dT_weighs_112 rfl ?_
        refine aw_iload_n dT_weighs_113 rfl ?_
        refine aw_iload_n dT_weighs_114 rfl ?_
        refine aw_iload_n dT_weighs_115 rfl ?_
        refine an_callVr cg_T_98 (c_T_wayCost3 N V K _ _ (by exact h1) hk (by have := w1.1; omega)) dT_weighs_116 rfl rfl rfl rfl rfl (Nat.le_of_ble_eq_true rfl) (Nat.le_of_ble_eq_true rfl) ?_
        refine aw_iload dT_weighs_119 rfl ?_
        refine aw_iadd dT_weighs_121 ?_
        refine aw_goto (tgt := 126) dT_weighs_122 (by decide) ?_
        refine an_stT dT_weighs_126 at_6 ix4_3 (by omega) (by decide) ?_
        refine ic7_3 (w := 4) dT_weighs_127 (by decide) (by decide) ?_
        refine aw_goto (tgt := 15) dT_weighs_130 (by decide) ?_
        refine aw_iload_n dT_weighs_15 rfl ?_
        refine aw_iconst (v := 4) dT_weighs_16 (by decide) ?_
        refine aw_icmp_ge (tgt := 133) dT_weighs_17 (by decide) (fun _ => ?_) (fun q => absurd q (by decide))
        refine ic7_2 dT_weighs_133 (show nI m + Int32.ofInt (-1) = nI m - 1 by rw [Int32.sub_eq_add_neg]; rfl) (by decide) ?_
        refine aw_goto (tgt := 9) dT_weighs_136 (by decide) ?_
        exact an_weak (ih _ (by omega) (by exact h1) (tbl_step hD (by rw [DP_eq (by omega), if_pos w1, if_neg w2]) (by rw [DP_eq (by omega), if_pos w1, if_neg w2]) (by rw [DP_eq (by omega), if_pos w1, if_neg w2]))) ⟨rfl, rfl, rfl, trivial⟩
    · by_cases w2 : wy (V k) (N k) (m + 1)
      · refine aw_iload_n dT_weighs_9 rfl ?_
        refine aw_if_lt (tgt := 139) dT_weighs_10 (by decide) (fun c10 => absurd c10 (nI_pos (by omega))) (fun c10 => ?_)
        refine aw_iconst (v := 1) dT_weighs_13 (by decide) ?_
        refine si7_3 dT_weighs_14 (by decide) ?_
        refine aw_iload_n dT_weighs_15 rfl ?_
        refine aw_iconst (v := 4) dT_weighs_16 (by decide) ?_
        refine aw_icmp_ge (tgt := 133) dT_weighs_17 (by decide) (fun q => absurd q (by decide)) (fun _ => ?_)
        refine aw_iconst (v := 0) dT_weighs_20 (by decide) ?_
        refine si7_4 dT_weighs_21 (by decide) ?_
        refine aw_aload_r dT_weighs_23 rfl ?_
        refine aw_iload_n dT_weighs_24 rfl ?_
        refine aw_iload_n dT_weighs_25 rfl ?_
        refine aw_iconst (v := 1) dT_weighs_26 (by decide) ?_
        refine aw_iadd dT_weighs_27 ?_
        refine an_top (nI_1 m) ?_
        refine an_callVb cg_T_94 (c_T_isWay N V K _ _ (by exact h1) hk (by omega)) dT_weighs_28 rfl rfl rfl rfl rfl (Nat.le_of_ble_eq_true rfl) (Nat.le_of_ble_eq_true rfl) (fun p28 => ?_) (fun q9 => absurd (w2) q9)
        refine aw_if_eq (tgt := 94) dT_weighs_31 (by decide) (fun q => absurd q (by decide)) (fun _ => ?_)
        refine aw_ldc (v := 1000000000) (k_at 682 (by decide +kernel) (by decide +kernel)) dT_weighs_34 ?_
        refine si7_4 dT_weighs_36 (by decide) ?_
        refine aw_iconst (v := 1) dT_weighs_38 (by decide) ?_
        refine si7_5 dT_weighs_39 (by decide) ?_
        refine aw_iload dT_weighs_41 rfl ?_
        refine aw_iconst (v := 4) dT_weighs_43 (by decide) ?_
        refine aw_icmp_ge (tgt := 94) dT_weighs_44 (by decide) (fun q => absurd q (by decide)) (fun _ => ?_)
        refine aw_aload_r dT_weighs_47 rfl ?_
        refine aw_get fg_T_32 dT_weighs_48 rfl rfl ?_
        refine aw_iconst (v := 4) dT_weighs_51 (by decide) ?_
        refine aw_iload_n dT_weighs_52 rfl ?_
        refine aw_iconst (v := 1) dT_weighs_53 (by decide) ?_
        refine aw_iadd dT_weighs_54 ?_
        refine an_top (nI_1 m) ?_
        refine aw_imul dT_weighs_55 ?_
        refine aw_iload dT_weighs_56 rfl ?_
        refine aw_iadd dT_weighs_58 ?_
        refine an_ldT dT_weighs_59 at_6 ix4_1 (by omega) (by decide) ?_
        refine an_top (y := DP (V k) (N k) (K 8) (m + 1) 1) (hD (m + 1) (by omega) (by have := w2.1; omega) 1 (by decide) (by decide)) ?_
        refine aw_iload dT_weighs_60 rfl ?_
        refine aw_iload_n dT_weighs_62 rfl ?_
        refine aw_icmp_ne (tgt := 70) dT_weighs_63 (by decide) (fun q => absurd q (by decide)) (fun _ => ?_)
        refine aw_iconst (v := 0) dT_weighs_66 (by decide) ?_
        refine aw_goto (tgt := 74) dT_weighs_67 (by decide) ?_
        refine aw_iadd dT_weighs_74 ?_
        refine an_top (cb_same (DP (V k) (N k) (K 8) (m + 1)) (K 8) 1) ?_
        refine si7_6 dT_weighs_75 (by decide) ?_
        refine g_T_w77 ?_
        rw [if_pos (cb_far hv hp)]
        refine ic7_5 (w := 2) dT_weighs_88 (by decide) (by decide) ?_
        refine aw_goto (tgt := 41) dT_weighs_91 (by decide) ?_
        refine aw_iload dT_weighs_41 rfl ?_
        refine aw_iconst (v := 4) dT_weighs_43 (by decide) ?_
        refine aw_icmp_ge (tgt := 94) dT_weighs_44 (by decide) (fun q => absurd q (by decide)) (fun _ => ?_)
        refine aw_aload_r dT_weighs_47 rfl ?_
        refine aw_get fg_T_32 dT_weighs_48 rfl rfl ?_
        refine aw_iconst (v := 4) dT_weighs_51 (by decide) ?_
        refine aw_iload_n dT_weighs_52 rfl ?_
        refine aw_iconst (v := 1) dT_weighs_53 (by decide) ?_
        refine aw_iadd dT_weighs_54 ?_
        refine an_top (nI_1 m) ?_
        refine aw_imul dT_weighs_55 ?_
        refine aw_iload dT_weighs_56 rfl ?_
        refine aw_iadd dT_weighs_58 ?_
        refine an_ldT dT_weighs_59 at_6 ix4_2 (by omega) (by decide) ?_
        refine an_top (y := DP (V k) (N k) (K 8) (m + 1) 2) (hD (m + 1) (by omega) (by have := w2.1; omega) 2 (by decide) (by decide)) ?_
        refine aw_iload dT_weighs_60 rfl ?_
        refine aw_iload_n dT_weighs_62 rfl ?_
        refine aw_icmp_ne (tgt := 70) dT_weighs_63 (by decide) (fun _ => ?_) (fun q => absurd q (by decide))
        refine aw_aload_r dT_weighs_70 rfl ?_
        refine aw_get fg_T_22 dT_weighs_71 rfl rfl ?_
        show AN _ _ _ _ _ (.int (J 4) :: _) _
        rw [h1.2.1]
        refine aw_iadd dT_weighs_74 ?_
        refine an_top (show DP (V k) (N k) (K 8) (m + 1) 2 + K 8 = cb (DP (V k) (N k) (K 8) (m + 1)) (K 8) 1 2 from rfl) ?_
        refine si7_6 dT_weighs_75 (by decide) ?_
        refine g_T_w77 ?_
        refine ic7_5 (w := 3) dT_weighs_88 (by decide) (by decide) ?_
        refine aw_goto (tgt := 41) dT_weighs_91 (by decide) ?_
        refine aw_iload dT_weighs_41 rfl ?_
        refine aw_iconst (v := 4) dT_weighs_43 (by decide) ?_
        refine aw_icmp_ge (tgt := 94) dT_weighs_44 (by decide) (fun q => absurd q (by decide)) (fun _ => ?_)
        refine aw_aload_r dT_weighs_47 rfl ?_
        refine aw_get fg_T_32 dT_weighs_48 rfl rfl ?_
        refine aw_iconst (v := 4) dT_weighs_51 (by decide) ?_
        refine aw_iload_n dT_weighs_52 rfl ?_
        refine aw_iconst (v := 1) dT_weighs_53 (by decide) ?_
        refine aw_iadd dT_weighs_54 ?_
        refine an_top (nI_1 m) ?_
        refine aw_imul dT_weighs_55 ?_
        refine aw_iload dT_weighs_56 rfl ?_
        refine aw_iadd dT_weighs_58 ?_
        refine an_ldT dT_weighs_59 at_6 ix4_3 (by omega) (by decide) ?_
        refine an_top (y := DP (V k) (N k) (K 8) (m + 1) 3) (hD (m + 1) (by omega) (by have := w2.1; omega) 3 (by decide) (by decide)) ?_
        refine aw_iload dT_weighs_60 rfl ?_
        refine aw_iload_n dT_weighs_62 rfl ?_
        refine aw_icmp_ne (tgt := 70) dT_weighs_63 (by decide) (fun _ => ?_) (fun q => absurd q (by decide))
        refine aw_aload_r dT_weighs_70 rfl ?_
        refine aw_get fg_T_22 dT_weighs_71 rfl rfl ?_
        show AN _ _ _ _ _ (.int (J 4) :: _) _
        rw [h1.2.1]
        refine aw_iadd dT_weighs_74 ?_
        refine an_top (show DP (V k) (N k) (K 8) (m + 1) 3 + K 8 = cb (DP (V k) (N k) (K 8) (m + 1)) (K 8) 1 3 from rfl) ?_
        refine si7_6 dT_weighs_75 (by decide) ?_
        refine g_T_w77 ?_
        refine ic7_5 (w := 4) dT_weighs_88 (by decide) (by decide) ?_
        refine aw_goto (tgt := 41) dT_weighs_91 (by decide) ?_
        refine aw_iload dT_weighs_41 rfl ?_
        refine aw_iconst (v := 4) dT_weighs_43 (by decide) ?_
        refine aw_icmp_ge (tgt := 94) dT_weighs_44 (by decide) (fun _ => ?_) (fun q => absurd q (by decide))
        refine aw_aload_r dT_weighs_94 rfl ?_
        refine aw_get fg_T_32 dT_weighs_95 rfl rfl ?_
        refine aw_iconst (v := 4) dT_weighs_98 (by decide) ?_
        refine aw_iload_n dT_weighs_99 rfl ?_
        refine aw_imul dT_weighs_100 ?_
        refine aw_iload_n dT_weighs_101 rfl ?_
        refine aw_iadd dT_weighs_102 ?_
        refine aw_aload_r dT_weighs_103 rfl ?_
        refine aw_iload_n dT_weighs_104 rfl ?_
        refine aw_iload_n dT_weighs_105 rfl ?_
        refine an_callVb cg_T_94 (c_T_isWay N V K _ _ (by exact h1) hk (by omega)) dT_weighs_106 rfl rfl rfl rfl rfl (Nat.le_of_ble_eq_true rfl) (Nat.le_of_ble_eq_true rfl) (fun q9 => absurd q9 (w1)) (fun p106 => ?_)
        refine aw_if_eq (tgt := 125) dT_weighs_109 (by decide) (fun _ => ?_) (fun q => absurd q (by decide))
        refine aw_iconst (v := 0) dT_weighs_125 (by decide) ?_
        refine an_stT dT_weighs_126 at_6 ix4_1 (by omega) (by decide) ?_
        refine ic7_3 (w := 2) dT_weighs_127 (by decide) (by decide) ?_
        refine aw_goto (tgt := 15) dT_weighs_130 (by decide) ?_
        refine aw_iload_n dT_weighs_15 rfl ?_
        refine aw_iconst (v := 4) dT_weighs_16 (by decide) ?_
        refine aw_icmp_ge (tgt := 133) dT_weighs_17 (by decide) (fun q => absurd q (by decide)) (fun _ => ?_)
        refine aw_iconst (v := 0) dT_weighs_20 (by decide) ?_
        refine si7_4 dT_weighs_21 (by decide) ?_
        refine aw_aload_r dT_weighs_23 rfl ?_
        refine aw_iload_n dT_weighs_24 rfl ?_
        refine aw_iload_n dT_weighs_25 rfl ?_
        refine aw_iconst (v := 1) dT_weighs_26 (by decide) ?_
        refine aw_iadd dT_weighs_27 ?_
        refine an_top (nI_1 m) ?_
        refine an_callVb cg_T_94 (c_T_isWay N V K _ _ (by exact h1) hk (by omega)) dT_weighs_28 rfl rfl rfl rfl rfl (Nat.le_of_ble_eq_true rfl) (Nat.le_of_ble_eq_true rfl) (fun p28 => ?_) (fun q9 => absurd (w2) q9)
        refine aw_if_eq (tgt := 94) dT_weighs_31 (by decide) (fun q => absurd q (by decide)) (fun _ => ?_)
        refine aw_ldc (v := 1000000000) (k_at 682 (by decide +kernel) (by decide +kernel)) dT_weighs_34 ?_
        refine si7_4 dT_weighs_36 (by decide) ?_
        refine aw_iconst (v := 1) dT_weighs_38 (by decide) ?_
        refine si7_5 dT_weighs_39 (by decide) ?_
        refine aw_iload dT_weighs_41 rfl ?_
        refine aw_iconst (v := 4) dT_weighs_43 (by decide) ?_
        refine aw_icmp_ge (tgt := 94) dT_weighs_44 (by decide) (fun q => absurd q (by decide)) (fun _ => ?_)
        refine aw_aload_r dT_weighs_47 rfl ?_
        refine aw_get fg_T_32 dT_weighs_48 rfl rfl ?_
        refine aw_iconst (v := 4) dT_weighs_51 (by decide) ?_
        refine aw_iload_n dT_weighs_52 rfl ?_
        refine aw_iconst (v := 1) dT_weighs_53 (by decide) ?_
        refine aw_iadd dT_weighs_54 ?_
        refine an_top (nI_1 m) ?_
        refine aw_imul dT_weighs_55 ?_
        refine aw_iload dT_weighs_56 rfl ?_
        refine aw_iadd dT_weighs_58 ?_
        refine an_ldT dT_weighs_59 at_6 ix4_1 (by omega) (by decide) ?_
        refine an_top (y := DP (V k) (N k) (K 8) (m + 1) 1) (by simp only [up_s, pk_un (show 4 * (m + 1) + 1 ≠ 4 * m + 1 by omega), pk_un (show 4 * (m + 1) + 1 ≠ 4 * m + 2 by omega)]; exact hD (m + 1) (by omega) (by have := w2.1; omega) 1 (by decide) (by decide)) ?_
        refine aw_iload dT_weighs_60 rfl ?_
        refine aw_iload_n dT_weighs_62 rfl ?_
        refine aw_icmp_ne (tgt := 70) dT_weighs_63 (by decide) (fun _ => ?_) (fun q => absurd q (by decide))
        refine aw_aload_r dT_weighs_70 rfl ?_
        refine aw_get fg_T_22 dT_weighs_71 rfl rfl ?_
        show AN _ _ _ _ _ (.int (J 4) :: _) _
        rw [h1.2.1]
        refine aw_iadd dT_weighs_74 ?_
        refine an_top (show DP (V k) (N k) (K 8) (m + 1) 1 + K 8 = cb (DP (V k) (N k) (K 8) (m + 1)) (K 8) 2 1 from rfl) ?_
        refine si7_6 dT_weighs_75 (by decide) ?_
        refine g_T_w77 ?_
        rw [if_pos (cb_far hv hp)]
        refine ic7_5 (w := 2) dT_weighs_88 (by decide) (by decide) ?_
        refine aw_goto (tgt := 41) dT_weighs_91 (by decide) ?_
        refine aw_iload dT_weighs_41 rfl ?_
        refine aw_iconst (v := 4) dT_weighs_43 (by decide) ?_
        refine aw_icmp_ge (tgt := 94) dT_weighs_44 (by decide) (fun q => absurd q (by decide)) (fun _ => ?_)
        refine aw_aload_r dT_weighs_47 rfl ?_
        refine aw_get fg_T_32 dT_weighs_48 rfl rfl ?_
        refine aw_iconst (v := 4) dT_weighs_51 (by decide) ?_
        refine aw_iload_n dT_weighs_52 rfl ?_
        refine aw_iconst (v := 1) dT_weighs_53 (by decide) ?_
        refine aw_iadd dT_weighs_54 ?_
        refine an_top (nI_1 m) ?_
        refine aw_imul dT_weighs_55 ?_
        refine aw_iload dT_weighs_56 rfl ?_
        refine aw_iadd dT_weighs_58 ?_
        refine an_ldT dT_weighs_59 at_6 ix4_2 (by omega) (by decide) ?_
        refine an_top (y := DP (V k) (N k) (K 8) (m + 1) 2) (by simp only [up_s, pk_un (show 4 * (m + 1) + 2 ≠ 4 * m + 1 by omega), pk_un (show 4 * (m + 1) + 2 ≠ 4 * m + 2 by omega)]; exact hD (m + 1) (by omega) (by have := w2.1; omega) 2 (by decide) (by decide)) ?_
        refine aw_iload dT_weighs_60 rfl ?_
        refine aw_iload_n dT_weighs_62 rfl ?_
        refine aw_icmp_ne (tgt := 70) dT_weighs_63 (by decide) (fun q => absurd q (by decide)) (fun _ => ?_)
        refine aw_iconst (v := 0) dT_weighs_66 (by decide) ?_
        refine aw_goto (tgt := 74) dT_weighs_67 (by decide) ?_
        refine aw_iadd dT_weighs_74 ?_
        refine an_top (cb_same (DP (V k) (N k) (K 8) (m + 1)) (K 8) 2) ?_
        refine si7_6 dT_weighs_75 (by decide) ?_
        refine g_T_w77 ?_
        refine ic7_5 (w := 3) dT_weighs_88 (by decide) (by decide) ?_
        refine aw_goto (tgt := 41) dT_weighs_91 (by decide) ?_
        refine aw_iload dT_weighs_41 rfl ?_
        refine aw_iconst (v := 4) dT_weighs_43 (by decide) ?_
        refine aw_icmp_ge (tgt := 94) dT_weighs_44 (by decide) (fun q => absurd q (by decide)) (fun _ => ?_)
        refine aw_aload_r dT_weighs_47 rfl ?_
        refine aw_get fg_T_32 dT_weighs_48 rfl rfl ?_
        refine aw_iconst (v := 4) dT_weighs_51 (by decide) ?_
        refine aw_iload_n dT_weighs_52 rfl ?_
        refine aw_iconst (v := 1) dT_weighs_53 (by decide) ?_
        refine aw_iadd dT_weighs_54 ?_
        refine an_top (nI_1 m) ?_
        refine aw_imul dT_weighs_55 ?_
        refine aw_iload dT_weighs_56 rfl ?_
        refine aw_iadd dT_weighs_58 ?_
        refine an_ldT dT_weighs_59 at_6 ix4_3 (by omega) (by decide) ?_
        refine an_top (y := DP (V k) (N k) (K 8) (m + 1) 3) (by simp only [up_s, pk_un (show 4 * (m + 1) + 3 ≠ 4 * m + 1 by omega), pk_un (show 4 * (m + 1) + 3 ≠ 4 * m + 2 by omega)]; exact hD (m + 1) (by omega) (by have := w2.1; omega) 3 (by decide) (by decide)) ?_
        refine aw_iload dT_weighs_60 rfl ?_
        refine aw_iload_n dT_weighs_62 rfl ?_
        refine aw_icmp_ne (tgt := 70) dT_weighs_63 (by decide) (fun _ => ?_) (fun q => absurd q (by decide))
        refine aw_aload_r dT_weighs_70 rfl ?_
        refine aw_get fg_T_22 dT_weighs_71 rfl rfl ?_
        show AN _ _ _ _ _ (.int (J 4) :: _) _
        rw [h1.2.1]
        refine aw_iadd dT_weighs_74 ?_
        refine an_top (show DP (V k) (N k) (K 8) (m + 1) 3 + K 8 = cb (DP (V k) (N k) (K 8) (m + 1)) (K 8) 2 3 from rfl) ?_
        refine si7_6 dT_weighs_75 (by decide) ?_
        refine g_T_w77 ?_
        refine ic7_5 (w := 4) dT_weighs_88 (by decide) (by decide) ?_
        refine aw_goto (tgt := 41) dT_weighs_91 (by decide) ?_
        refine aw_iload dT_weighs_41 rfl ?_
        refine aw_iconst (v := 4) dT_weighs_43 (by decide) ?_
        refine aw_icmp_ge (tgt := 94) dT_weighs_44 (by decide) (fun _ => ?_) (fun q => absurd q (by decide))
        refine aw_aload_r dT_weighs_94 rfl ?_
        refine aw_get fg_T_32 dT_weighs_95 rfl rfl ?_
        refine aw_iconst (v := 4) dT_weighs_98 (by decide) ?_
        refine aw_iload_n dT_weighs_99 rfl ?_
        refine aw_imul dT_weighs_100 ?_
        refine aw_iload_n dT_weighs_101 rfl ?_
        refine aw_iadd dT_weighs_102 ?_
        refine aw_aload_r dT_weighs_103 rfl ?_
        refine aw_iload_n dT_weighs_104 rfl ?_
        refine aw_iload_n dT_weighs_105 rfl ?_
        refine an_callVb cg_T_94 (c_T_isWay N V K _ _ (by exact h1) hk (by omega)) dT_weighs_106 rfl rfl rfl rfl rfl (Nat.le_of_ble_eq_true rfl) (Nat.le_of_ble_eq_true rfl) (fun q9 => absurd q9 (w1)) (fun p106 => ?_)
        refine aw_if_eq (tgt := 125) dT_weighs_109 (by decide) (fun _ => ?_) (fun q => absurd q (by decide))
        refine aw_iconst (v := 0) dT_weighs_125 (by decide) ?_
        refine an_stT dT_weighs_126 at_6 ix4_2 (by omega) (by decide) ?_
        refine ic7_3 (w := 3) dT_weighs_127 (by decide) (by decide) ?_
        refine aw_goto (tgt := 15) dT_weighs_130 (by decide) ?_
        refine aw_iload_n dT_weighs_15 rfl ?_
        refine aw_iconst (v := 4) dT_weighs_16 (by decide) ?_
        refine aw_icmp_ge (tgt := 133) dT_weighs_17 (by decide) (fun q => absurd q (by decide)) (fun _ => ?_)
        refine aw_iconst (v := 0) dT_weighs_20 (by decide) ?_
        refine si7_4 dT_weighs_21 (by decide) ?_
        refine aw_aload_r dT_weighs_23 rfl ?_
        refine aw_iload_n dT_weighs_24 rfl ?_
        refine aw_iload_n dT_weighs_25 rfl ?_
        refine aw_iconst (v := 1) dT_weighs_26 (by decide) ?_
        refine aw_iadd dT_weighs_27 ?_
        refine an_top (nI_1 m) ?_
        refine an_callVb cg_T_94 (c_T_isWay N V K _ _ (by exact h1) hk (by omega)) dT_weighs_28 rfl rfl rfl rfl rfl (Nat.le_of_ble_eq_true rfl) (Nat.le_of_ble_eq_true rfl) (fun p28 => ?_) (fun q9 => absurd (w2) q9)
        refine aw_if_eq (tgt := 94) dT_weighs_31 (by decide) (fun q => absurd q (by decide)) (fun _ => ?_)
        refine aw_ldc (v := 1000000000) (k_at 682 (by decide +kernel) (by decide +kernel)) dT_weighs_34 ?_
        refine si7_4 dT_weighs_36 (by decide) ?_
        refine aw_iconst (v := 1) dT_weighs_38 (by decide) ?_
        refine si7_5 dT_weighs_39 (by decide) ?_
        refine aw_iload dT_weighs_41 rfl ?_
        refine aw_iconst (v := 4) dT_weighs_43 (by decide) ?_
        refine aw_icmp_ge (tgt := 94) dT_weighs_44 (by decide) (fun q => absurd q (by decide)) (fun _ => ?_)
        refine aw_aload_r dT_weighs_47 rfl ?_
        refine aw_get fg_T_32 dT_weighs_48 rfl rfl ?_
        refine aw_iconst (v := 4) dT_weighs_51 (by decide) ?_
        refine aw_iload_n dT_weighs_52 rfl ?_
        refine aw_iconst (v := 1) dT_weighs_53 (by decide) ?_
        refine aw_iadd dT_weighs_54 ?_
        refine an_top (nI_1 m) ?_
        refine aw_imul dT_weighs_55 ?_
        refine aw_iload dT_weighs_56 rfl ?_
        refine aw_iadd dT_weighs_58 ?_
        refine an_ldT dT_weighs_59 at_6 ix4_1 (by omega) (by decide) ?_
        refine an_top (y := DP (V k) (N k) (K 8) (m + 1) 1) (by simp only [up_s, pk_un (show 4 * (m + 1) + 1 ≠ 4 * m + 1 by omega), pk_un (show 4 * (m + 1) + 1 ≠ 4 * m + 2 by omega)]; exact hD (m + 1) (by omega) (by have := w2.1; omega) 1 (by decide) (by decide)) ?_
        refine aw_iload dT_weighs_60 rfl ?_
        refine aw_iload_n dT_weighs_62 rfl ?_
        refine aw_icmp_ne (tgt := 70) dT_weighs_63 (by decide) (fun _ => ?_) (fun q => absurd q (by decide))
        refine aw_aload_r dT_weighs_70 rfl ?_
        refine aw_get fg_T_22 dT_weighs_71 rfl rfl ?_
        show AN _ _ _ _ _ (.int (J 4) :: _) _
        rw [h1.2.1]
        refine aw_iadd dT_weighs_74 ?_
        refine an_top (show DP (V k) (N k) (K 8) (m + 1) 1 + K 8 = cb (DP (V k) (N k) (K 8) (m + 1)) (K 8) 3 1 from rfl) ?_
        refine si7_6 dT_weighs_75 (by decide) ?_
        refine g_T_w77 ?_
        rw [if_pos (cb_far hv hp)]
        refine ic7_5 (w := 2) dT_weighs_88 (by decide) (by decide) ?_
        refine aw_goto (tgt := 41) dT_weighs_91 (by decide) ?_
        refine aw_iload dT_weighs_41 rfl ?_
        refine aw_iconst (v := 4) dT_weighs_43 (by decide) ?_
        refine aw_icmp_ge (tgt := 94) dT_weighs_44 (by decide) (fun q => absurd q (by decide)) (fun _ => ?_)
        refine aw_aload_r dT_weighs_47 rfl ?_
        refine aw_get fg_T_32 dT_weighs_48 rfl rfl ?_
        refine aw_iconst (v := 4) dT_weighs_51 (by decide) ?_
        refine aw_iload_n dT_weighs_52 rfl ?_
        refine aw_iconst (v := 1) dT_weighs_53 (by decide) ?_
        refine aw_iadd dT_weighs_54 ?_
        refine an_top (nI_1 m) ?_
        refine aw_imul dT_weighs_55 ?_
        refine aw_iload dT_weighs_56 rfl ?_
        refine aw_iadd dT_weighs_58 ?_
        refine an_ldT dT_weighs_59 at_6 ix4_2 (by omega) (by decide) ?_
        refine an_top (y := DP (V k) (N k) (K 8) (m + 1) 2) (by simp only [up_s, pk_un (show 4 * (m + 1) + 2 ≠ 4 * m + 1 by omega), pk_un (show 4 * (m + 1) + 2 ≠ 4 * m + 2 by omega)]; exact hD (m + 1) (by omega) (by have := w2.1; omega) 2 (by decide) (by decide)) ?_
        refine aw_iload dT_weighs_60 rfl ?_
        refine aw_iload_n dT_weighs_62 rfl ?_
        refine aw_icmp_ne (tgt := 70) dT_weighs_63 (by decide) (fun _ => ?_) (fun q => absurd q (by decide))
        refine aw_aload_r dT_weighs_70 rfl ?_
        refine aw_get fg_T_22 dT_weighs_71 rfl rfl ?_
        show AN _ _ _ _ _ (.int (J 4) :: _) _
        rw [h1.2.1]
        refine aw_iadd dT_weighs_74 ?_
        refine an_top (show DP (V k) (N k) (K 8) (m + 1) 2 + K 8 = cb (DP (V k) (N k) (K 8) (m + 1)) (K 8) 3 2 from rfl) ?_
        refine si7_6 dT_weighs_75 (by decide) ?_
        refine g_T_w77 ?_
        refine ic7_5 (w := 3) dT_weighs_88 (by decide) (by decide) ?_
        refine aw_goto (tgt := 41) dT_weighs_91 (by decide) ?_
        refine aw_iload dT_weighs_41 rfl ?_
        refine aw_iconst (v := 4) dT_weighs_43 (by decide) ?_
        refine aw_icmp_ge (tgt := 94) dT_weighs_44 (by decide) (fun q => absurd q (by decide)) (fun _ => ?_)
        refine aw_aload_r dT_weighs_47 rfl ?_
        refine aw_get fg_T_32 dT_weighs_48 rfl rfl ?_
        refine aw_iconst (v := 4) dT_weighs_51 (by decide) ?_
        refine aw_iload_n dT_weighs_52 rfl ?_
        refine aw_iconst (v := 1) dT_weighs_53 (by decide) ?_
        refine aw_iadd dT_weighs_54 ?_
        refine an_top (nI_1 m) ?_
        refine aw_imul dT_weighs_55 ?_
        refine aw_iload dT_weighs_56 rfl ?_
        refine aw_iadd dT_weighs_58 ?_
        refine an_ldT dT_weighs_59 at_6 ix4_3 (by omega) (by decide) ?_
        refine an_top (y := DP (V k) (N k) (K 8) (m + 1) 3) (by simp only [up_s, pk_un (show 4 * (m + 1) + 3 ≠ 4 * m + 1 by omega), pk_un (show 4 * (m + 1) + 3 ≠ 4 * m + 2 by omega)]; exact hD (m + 1) (by omega) (by have := w2.1; omega) 3 (by decide) (by decide)) ?_
        refine aw_iload dT_weighs_60 rfl ?_
        refine aw_iload_n dT_weighs_62 rfl ?_
        refine aw_icmp_ne (tgt := 70) dT_weighs_63 (by decide) (fun q => absurd q (by decide)) (fun _ => ?_)
        refine aw_iconst (v := 0) dT_weighs_66 (by decide) ?_
        refine aw_goto (tgt := 74) dT_weighs_67 (by decide) ?_
        refine aw_iadd dT_weighs_74 ?_
        refine an_top (cb_same (DP (V k) (N k) (K 8) (m + 1)) (K 8) 3) ?_
        refine si7_6 dT_weighs_75 (by decide) ?_
        refine g_T_w77 ?_
        refine ic7_5 (w := 4) dT_weighs_88 (by decide) (by decide) ?_
        refine aw_goto (tgt := 41) dT_weighs_91 (by decide) ?_
        refine aw_iload dT_weighs_41 rfl ?_
        refine aw_iconst (v := 4) dT_weighs_43 (by decide) ?_
        refine aw_icmp_ge (tgt := 94) dT_weighs_44 (by decide) (fun _ => ?_) (fun q => absurd q (by decide))
        refine aw_aload_r dT_weighs_94 rfl ?_
        refine aw_get fg_T_32 dT_weighs_95 rfl rfl ?_
        refine aw_iconst (v := 4) dT_weighs_98 (by decide) ?_
        refine aw_iload_n dT_weighs_99 rfl ?_
        refine aw_imul dT_weighs_100 ?_
        refine aw_iload_n dT_weighs_101 rfl ?_
        refine aw_iadd dT_weighs_102 ?_
        refine aw_aload_r dT_weighs_103 rfl ?_
        refine aw_iload_n dT_weighs_104 rfl ?_
        refine aw_iload_n dT_weighs_105 rfl ?_
        refine an_callVb cg_T_94 (c_T_isWay N V K _ _ (by exact h1) hk (by omega)) dT_weighs_106 rfl rfl rfl rfl rfl (Nat.le_of_ble_eq_true rfl) (Nat.le_of_ble_eq_true rfl) (fun q9 => absurd q9 (w1)) (fun p106 => ?_)
        refine aw_if_eq (tgt := 125) dT_weighs_109 (by decide) (fun _ => ?_) (fun q => absurd q (by decide))
        refine aw_iconst (v := 0) dT_weighs_125 (by decide) ?_
        refine an_stT dT_weighs_126 at_6 ix4_3 (by omega) (by decide) ?_
        refine ic7_3 (w := 4) dT_weighs_127 (by decide) (by decide) ?_
        refine aw_goto (tgt := 15) dT_weighs_130 (by decide) ?_
        refine aw_iload_n dT_weighs_15 rfl ?_
        refine aw_iconst (v := 4) dT_weighs_16 (by decide) ?_
        refine aw_icmp_ge (tgt := 133) dT_weighs_17 (by decide) (fun _ => ?_) (fun q => absurd q (by decide))
        refine ic7_2 dT_weighs_133 (show nI m + Int32.ofInt (-1) = nI m - 1 by rw [Int32.sub_eq_add_neg]; rfl) (by decide) ?_
        refine aw_goto (tgt := 9) dT_weighs_136 (by decide) ?_
        exact an_weak (ih _ (by omega) (by exact h1) (tbl_step hD (by rw [DP_eq (by omega), if_neg w1]) (by rw [DP_eq (by omega), if_neg w1]) (by rw [DP_eq (by omega), if_neg w1]))) ⟨rfl, rfl, rfl, trivial⟩
      · refine aw_iload_n dT_weighs_9 rfl ?_
        refine aw_if_lt (tgt := 139) dT_weighs_10 (by decide) (fun c10 => absurd c10 (nI_pos (by omega))) (fun c10 => ?_)
        refine aw_iconst (v := 1) dT_weighs_13 (by decide) ?_
        refine si7_3 dT_weighs_14 (by decide) ?_
        refine aw_iload_n dT_weighs_15 rfl ?_
        refine aw_iconst (v := 4) dT_weighs_16 (by decide) ?_
        refine aw_icmp_ge (tgt := 133) dT_weighs_17 (by decide) (fun q => absurd q (by decide)) (fun _ => ?_)
        refine aw_iconst (v := 0) dT_weighs_20 (by decide) ?_
        refine si7_4 dT_weighs_21 (by decide) ?_
        refine aw_aload_r dT_weighs_23 rfl ?_
        refine aw_iload_n dT_weighs_24 rfl ?_
        refine aw_iload_n dT_weighs_25 rfl ?_
        refine aw_iconst (v := 1) dT_weighs_26 (by decide) ?_
        refine aw_iadd dT_weighs_27 ?_
        refine an_top (nI_1 m) ?_
        refine an_callVb cg_T_94 (c_T_isWay N V K _ _ (by exact h1) hk (by omega)) dT_weighs_28 rfl rfl rfl rfl rfl (Nat.le_of_ble_eq_true rfl) (Nat.le_of_ble_eq_true rfl) (fun q9 => absurd q9 (w2)) (fun p28 => ?_)
        refine aw_if_eq (tgt := 94) dT_weighs_31 (by decide) (fun _ => ?_) (fun q => absurd q (by decide))
        refine aw_aload_r dT_weighs_94 rfl ?_
        refine aw_get fg_T_32 dT_weighs_95 rfl rfl ?_
        refine aw_iconst (v := 4) dT_weighs_98 (by decide) ?_
        refine aw_iload_n dT_weighs_99 rfl ?_
        refine aw_imul dT_weighs_100 ?_
        refine aw_iload_n dT_weighs_101 rfl ?_
        refine aw_iadd dT_weighs_102 ?_
        refine aw_aload_r dT_weighs_103 rfl ?_
        refine aw_iload_n dT_weighs_104 rfl ?_
        refine aw_iload_n dT_weighs_105 rfl ?_
        refine an_callVb cg_T_94 (c_T_isWay N V K _ _ (by exact h1) hk (by omega)) dT_weighs_106 rfl rfl rfl rfl rfl (Nat.le_of_ble_eq_true rfl) (Nat.le_of_ble_eq_true rfl) (fun q9 => absurd q9 (w1)) (fun p106 => ?_)
        refine aw_if_eq (tgt := 125) dT_weighs_109 (by decide) (fun _ => ?_) (fun q => absurd q (by decide))
        refine aw_iconst (v := 0) dT_weighs_125 (by decide) ?_
        refine an_stT dT_weighs_126 at_6 ix4_1 (by omega) (by decide) ?_
        refine ic7_3 (w := 2) dT_weighs_127 (by decide) (by decide) ?_
        refine aw_goto (tgt := 15) dT_weighs_130 (by decide) ?_
        refine aw_iload_n dT_weighs_15 rfl ?_
        refine aw_iconst (v := 4) dT_weighs_16 (by decide) ?_
        refine aw_icmp_ge (tgt := 133) dT_weighs_17 (by decide) (fun q => absurd q (by decide)) (fun _ => ?_)
        refine aw_iconst (v := 0) dT_weighs_20 (by decide) ?_
        refine si7_4 dT_weighs_21 (by decide) ?_
        refine aw_aload_r dT_weighs_23 rfl ?_
        refine aw_iload_n dT_weighs_24 rfl ?_
        refine aw_iload_n dT_weighs_25 rfl ?_
        refine aw_iconst (v := 1) dT_weighs_26 (by decide) ?_
        refine aw_iadd dT_weighs_27 ?_
        refine an_top (nI_1 m) ?_
        refine an_callVb cg_T_94 (c_T_isWay N V K _ _ (by exact h1) hk (by omega)) dT_weighs_28 rfl rfl rfl rfl rfl (Nat.le_of_ble_eq_true rfl) (Nat.le_of_ble_eq_true rfl) (fun q9 => absurd q9 (w2)) (fun p28 => ?_)
        refine aw_if_eq (tgt := 94) dT_weighs_31 (by decide) (fun _ => ?_) (fun q => absurd q (by decide))
        refine aw_aload_r dT_weighs_94 rfl ?_
        refine aw_get fg_T_32 dT_weighs_95 rfl rfl ?_
        refine aw_iconst (v := 4) dT_weighs_98 (by decide) ?_
        refine aw_iload_n dT_weighs_99 rfl ?_
        refine aw_imul dT_weighs_100 ?_
        refine aw_iload_n dT_weighs_101 rfl ?_
        refine aw_iadd dT_weighs_102 ?_
        refine aw_aload_r dT_weighs_103 rfl ?_
        refine aw_iload_n dT_weighs_104 rfl ?_
        refine aw_iload_n dT_weighs_105 rfl ?_
        refine an_callVb cg_T_94 (c_T_isWay N V K _ _ (by exact h1) hk (by omega)) dT_weighs_106 rfl rfl rfl rfl rfl (Nat.le_of_ble_eq_true rfl) (Nat.le_of_ble_eq_true rfl) (fun q9 => absurd q9 (w1)) (fun p106 => ?_)
        refine aw_if_eq (tgt := 125) dT_weighs_109 (by decide) (fun _ => ?_) (fun q => absurd q (by decide))
        refine aw_iconst (v := 0) dT_weighs_125 (by decide) ?_
        refine an_stT dT_weighs_126 at_6 ix4_2 (by omega) (by decide) ?_
        refine ic7_3 (w := 3) dT_weighs_127 (by decide) (by decide) ?_
        refine aw_goto (tgt := 15) dT_weighs_130 (by decide) ?_
        refine aw_iload_n dT_weighs_15 rfl ?_
        refine aw_iconst (v := 4) dT_weighs_16 (by decide) ?_
        refine aw_icmp_ge (tgt := 133) dT_weighs_17 (by decide) (fun q => absurd q (by decide)) (fun _ => ?_)
        refine aw_iconst (v := 0) dT_weighs_20 (by decide) ?_
        refine si7_4 dT_weighs_21 (by decide) ?_
        refine aw_aload_r dT_weighs_23 rfl ?_
        refine aw_iload_n dT_weighs_24 rfl ?_
        refine aw_iload_n dT_weighs_25 rfl ?_
        refine aw_iconst (v := 1) dT_weighs_26 (by decide) ?_
        refine aw_iadd dT_weighs_27 ?_
        refine an_top (nI_1 m) ?_
        refine an_callVb cg_T_94 (c_T_isWay N V K _ _ (by exact h1) hk (by omega)) dT_weighs_28 rfl rfl rfl rfl rfl (Nat.le_of_ble_eq_true rfl) (Nat.le_of_ble_eq_true rfl) (fun q9 => absurd q9 (w2)) (fun p28 => ?_)
        refine aw_if_eq (tgt := 94) dT_weighs_31 (by decide) (fun _ => ?_) (fun q => absurd q (by decide))
        refine aw_aload_r dT_weighs_94 rfl ?_
        refine aw_get fg_T_32 dT_weighs_95 rfl rfl ?_
        refine aw_iconst (v := 4) dT_weighs_98 (by decide) ?_
        refine aw_iload_n dT_weighs_99 rfl ?_
        refine aw_imul dT_weighs_100 ?_
        refine aw_iload_n dT_weighs_101 rfl ?_
        refine aw_iadd dT_weighs_102 ?_
        refine aw_aload_r dT_weighs_103 rfl ?_
        refine aw_iload_n dT_weighs_104 rfl ?_
        refine aw_iload_n dT_weighs_105 rfl ?_
        refine an_callVb cg_T_94 (c_T_isWay N V K _ _ (by exact h1) hk (by omega)) dT_weighs_106 rfl rfl rfl rfl rfl (Nat.le_of_ble_eq_true rfl) (Nat.le_of_ble_eq_true rfl) (fun q9 => absurd q9 (w1)) (fun p106 => ?_)
        refine aw_if_eq (tgt := 125) dT_weighs_109 (by decide) (fun _ => ?_) (fun q => absurd q (by decide))
        refine aw_iconst (v := 0) dT_weighs_125 (by decide) ?_
        refine an_stT dT_weighs_126 at_6 ix4_3 (by omega) (by decide) ?_
        refine ic7_3 (w := 4) dT_weighs_127 (by decide) (by decide) ?_
        refine aw_goto (tgt := 15) dT_weighs_130 (by decide) ?_
        refine aw_iload_n dT_weighs_15 rfl ?_
        refine aw_iconst (v := 4) dT_weighs_16 (by decide) ?_
        refine aw_icmp_ge (tgt := 133) dT_weighs_17 (by decide) (fun _ => ?_) (fun q => absurd q (by decide))
        refine ic7_2 dT_weighs_133 (show nI m + Int32.ofInt (-1) = nI m - 1 by rw [Int32.sub_eq_add_neg]; rfl) (by decide) ?_
        refine aw_goto (tgt := 9) dT_weighs_136 (by decide) ?_
        exact an_weak (ih _ (by omega) (by exact h1) (tbl_step hD (by rw [DP_eq (by omega), if_neg w1]) (by rw [DP_eq (by omega), if_neg w1]) (by rw [DP_eq (by omega), if_neg w1]))) ⟨rfl, rfl, rfl, trivial⟩

set_option maxHeartbeats 4000000 in
set_option maxRecDepth 100000 in
theorem c_T_weighs (N : Nat → Nat) (V : Nat → Nat → Int32) (K : Nat → Int32) (J : Nat → Int32) (B : Nat → Nat → Int32) (hI : TInv N V K J B) (hP : PInv N V K) {k : Nat} (hk : k < 4) : AM kT_weighs 5 [.ref 0, .int (nI k)] (hT J B) (WQT N V K J k) := by
  refine AMet.of (by decide) (by simp [Value.category]) (Nat.le_of_ble_eq_true rfl) ?_
  show AN _ _ _ 0 [some _, some _, none, none, none, none, none] [] _
  refine aw_aload_r dT_weighs_0 rfl ?_
  refine aw_get fg_T_7 dT_weighs_1 rfl rfl ?_
  refine aw_iload_n dT_weighs_4 rfl ?_
  refine an_ldT dT_weighs_5 at_1 rfl hk (by decide) ?_
  rw [(hI.1 k hk).2.1]
  refine aw_iconst (v := 1) dT_weighs_6 (by decide) ?_
  refine aw_isub dT_weighs_7 ?_
  refine si7_2 dT_weighs_8 (by decide) ?_
  exact an_weak (l_T_weighs N V K J B hI hP hk (N k) B (by omega) hI (fun i a b => by omega)) ⟨rfl, rfl, rfl, trivial⟩
