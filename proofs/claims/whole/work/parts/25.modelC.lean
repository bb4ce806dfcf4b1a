
set_option maxHeartbeats 4000000 in
set_option maxRecDepth 100000 in
theorem l_T_ends1 (N : Nat → Nat) (V : Nat → Nat → Int32) (K : Nat → Int32) (J : Nat → Int32) (B : Nat → Nat → Int32) (hI : TInv N V K J B) (hP : PInv N V K) {Q : QT} {k : Nat} (hk : k < 4) : ∀ (n : Nat) (i : Nat) (a : Int32) (J1 : Nat → Int32), i + n = N k → SameL J J1 → EInv N V k i a J1 → (∀ (a2 : Int32) (J2 : Nat → Int32), SameL J J2 → EInv N V k (N k) a2 J2 → AN kT_ends 4 Q 87 [some (.ref 0), some (.int a2), some (.int (nI k)), none, none] [] (hT J2 B)) → AN kT_ends 4 Q 11 [some (.ref 0), some (.int a), some (.int (nI k)), some (.int (nI i)), none] [] (hT J1 B) := by
  intro n
  induction n with
  | zero =>
    intro i a J1 hin hS hE kk
    have hN := hI.n k hk
    have h1 := tinv_sl hI hS
    refine aw_iload_n dT_ends_11 rfl ?_
    refine aw_aload_r dT_ends_12 rfl ?_
    refine aw_get fg_T_7 dT_ends_13 rfl rfl ?_
    refine aw_iload_n dT_ends_16 rfl ?_
    refine an_ldT dT_ends_17 at_1 rfl hk (by decide) ?_
    rw [(h1.1 k hk).2.1]
    refine aw_icmp_ge (tgt := 87) dT_ends_18 (by decide) (fun c18 => ?_) (fun c18 => absurd (by rw [show i = N k by omega]; exact Int32.le_refl _) c18)
    exact an_weak (kk a J1 hS (by rw [← show i = N k by omega]; exact hE)) ⟨rfl, rfl, rfl, trivial⟩
  | succ n ih =>
    intro i a J1 hin hS hE kk
    have hN := hI.n k hk
    have h1 := tinv_sl hI hS
    have hil : i < N k := by omega
    rcases id hE with ⟨rfl, -⟩ | ⟨rfl, -⟩
    · refine aw_iload_n dT_ends_11 rfl ?_
      refine aw_aload_r dT_ends_12 rfl ?_
      refine aw_get fg_T_7 dT_ends_13 rfl rfl ?_
      refine aw_iload_n dT_ends_16 rfl ?_
      refine an_ldT dT_ends_17 at_1 rfl hk (by decide) ?_
      rw [(h1.1 k hk).2.1]
      refine aw_icmp_ge (tgt := 87) dT_ends_18 (by decide) (fun c18 => absurd c18 (nI_ge (by omega) (by omega))) (fun c18 => ?_)
      refine aw_aload_r dT_ends_21 rfl ?_
      refine aw_iload_n dT_ends_22 rfl ?_
      refine aw_iload_n dT_ends_23 rfl ?_
      refine an_callVb cg_T_91 (c_T_hasValue _ _ _ _ _ h1 _ _) dT_ends_24 rfl rfl rfl rfl rfl (Nat.le_of_ble_eq_true rfl) (Nat.le_of_ble_eq_true rfl) (fun p24 => ?_) (fun p24 => ?_)
      · refine aw_if_ne (tgt := 33) dT_ends_27 (by decide) (fun _ => ?_) (fun q => absurd q (by decide))
        have hv : ¬ V k i = -5000 := by
          obtain ⟨i2, hi2, e2, hv2⟩ := hv_i hI.n hk p24
          rw [nI_inj (by omega) (by omega) e2]; exact hv2
        refine aw_aload_r dT_ends_33 rfl ?_
        refine aw_iload_n dT_ends_34 rfl ?_
        refine aw_iload_n dT_ends_35 rfl ?_
        refine an_callVr cg_T_88 (c_T_valueAt _ _ _ _ _ h1 hk (by omega)) dT_ends_36 rfl rfl rfl rfl rfl (Nat.le_of_ble_eq_true rfl) (Nat.le_of_ble_eq_true rfl) ?_
        refine aw_istore dT_ends_39 (by decide) ?_
        refine aw_iload_n dT_ends_41 rfl ?_
        refine aw_if_eq (tgt := 54) dT_ends_42 (by decide) (fun q => absurd q (by decide)) (fun _ => ?_)
        refine aw_iload dT_ends_45 rfl ?_
        refine aw_aload_r dT_ends_47 rfl ?_
        refine aw_get fg_T_135 dT_ends_48 rfl rfl ?_
        refine aw_icmp_ge (tgt := 60) dT_ends_51 (by decide) (fun c51 => ?_) (fun c51 => ?_)
        · refine aw_iload_n dT_ends_60 rfl ?_
          refine aw_if_eq (tgt := 73) dT_ends_61 (by decide) (fun q => absurd q (by decide)) (fun _ => ?_)
          refine aw_iload dT_ends_64 rfl ?_
          refine aw_aload_r dT_ends_66 rfl ?_
          refine aw_get fg_T_138 dT_ends_67 rfl rfl ?_
          refine aw_icmp_le (tgt := 79) dT_ends_70 (by decide) (fun c70 => ?_) (fun c70 => ?_)
          · refine aw_iconst (v := 1) dT_ends_79 (by decide) ?_
            refine aw_istore_n dT_ends_80 (by decide) ?_
            refine aw_iinc dT_ends_81 rfl (nI_1 i) (by decide) ?_
            refine aw_goto (tgt := 11) dT_ends_84 (by decide) ?_
            exact an_weak (ih (i + 1) 1 J1 (by omega) hS (e_val (J2 := J1) hil hv (hP.val hk hil hv) hE (if_neg (fun q => q.elim (by decide) (fun z => absurd c51 (Int32.not_le.mpr z)))).symm (if_neg (fun q => q.elim (by decide) (fun z => absurd c70 (Int32.not_le.mpr z)))).symm) kk) ⟨rfl, rfl, rfl, rfl, trivial⟩
          · refine aw_aload_r dT_ends_73 rfl ?_
            refine aw_iload dT_ends_74 rfl ?_
            refine an_putT fp_T_138 dT_ends_76 (by decide) ?_
            refine aw_iconst (v := 1) dT_ends_79 (by decide) ?_
            refine aw_istore_n dT_ends_80 (by decide) ?_
            refine aw_iinc dT_ends_81 rfl (nI_1 i) (by decide) ?_
            refine aw_goto (tgt := 11) dT_ends_84 (by decide) ?_
            exact an_weak (ih (i + 1) 1 (upd J1 22 (V k i)) (by omega) (hS.u22 _) (e_val (J2 := (upd J1 22 (V k i))) hil hv (hP.val hk hil hv) hE (if_neg (fun q => q.elim (by decide) (fun z => absurd c51 (Int32.not_le.mpr z)))).symm (if_pos (Or.inr (Int32.not_le.mp c70))).symm) kk) ⟨rfl, rfl, rfl, rfl, trivial⟩
        · refine aw_aload_r dT_ends_54 rfl ?_
          refine aw_iload dT_ends_55 rfl ?_
          refine an_putT fp_T_135 dT_ends_57 (by decide) ?_
          refine aw_iload_n dT_ends_60 rfl ?_
          refine aw_if_eq (tgt := 73) dT_ends_61 (by decide) (fun q => absurd q (by decide)) (fun _ => ?_)
          refine aw_iload dT_ends_64 rfl ?_
          refine aw_aload_r dT_ends_66 rfl ?_
          refine aw_get fg_T_138 dT_ends_67 rfl rfl ?_
          refine aw_icmp_le (tgt := 79) dT_ends_70 (by decide) (fun c70 => ?_) (fun c70 => ?_)
          · refine aw_iconst (v := 1) dT_ends_79 (by decide) ?_
            refine aw_istore_n dT_ends_80 (by decide) ?_
            refine aw_iinc dT_ends_81 rfl (nI_1 i) (by decide) ?_
            refine aw_goto (tgt := 11) dT_ends_84 (by decide) ?_
            exact an_weak (ih (i + 1) 1 (upd J1 21 (V k i)) (by omega) (hS.u21 _) (e_val (J2 := (upd J1 21 (V k i))) hil hv (hP.val hk hil hv) hE (if_pos (Or.inr (Int32.not_le.mp c51))).symm (if_neg (fun q => q.elim (by decide) (fun z => absurd c70 (Int32.not_le.mpr z)))).symm) kk) ⟨rfl, rfl, rfl, rfl, trivial⟩
          · refine aw_aload_r dT_ends_73 rfl ?_
            refine aw_iload dT_ends_74 rfl ?_
            refine an_putT fp_T_138 dT_ends_76 (by decide) ?_
            refine aw_iconst (v := 1) dT_ends_79 (by decide) ?_
            refine aw_istore_n dT_ends_80 (by decide) ?_
            refine aw_iinc dT_ends_81 rfl (nI_1 i) (by decide) ?_
            refine aw_goto (tgt := 11) dT_ends_84 (by decide) ?_
            exact an_weak (ih (i + 1) 1 (upd (upd J1 21 (V k i)) 22 (V k i)) (by omega) ((hS.u21 _).u22 _) (e_val (J2 := (upd (upd J1 21 (V k i)) 22 (V k i))) hil hv (hP.val hk hil hv) hE (if_pos (Or.inr (Int32.not_le.mp c51))).symm (if_pos (Or.inr (Int32.not_le.mp c70))).symm) kk) ⟨rfl, rfl, rfl, rfl, trivial⟩
      · refine aw_if_ne (tgt := 33) dT_ends_27 (by decide) (fun q => absurd q (by decide)) (fun _ => ?_)
        refine aw_goto (tgt := 81) dT_ends_30 (by decide) ?_
        refine aw_iinc dT_ends_81 rfl (nI_1 i) (by decide) ?_
        refine aw_goto (tgt := 11) dT_ends_84 (by decide) ?_
        exact an_weak (ih (i + 1) _ J1 (by omega) hS (e_skip (Classical.byContradiction fun q => p24 ⟨k, i, hk, hil, rfl, rfl, q⟩) hE) kk) ⟨rfl, rfl, rfl, rfl, trivial⟩
    · refine aw_iload_n dT_ends_11 rfl ?_
      refine aw_aload_r dT_ends_12 rfl ?_
      refine aw_get fg_T_7 dT_ends_13 rfl rfl ?_
      refine aw_iload_n dT_ends_16 rfl ?_
      refine an_ldT dT_ends_17 at_1 rfl hk (by decide) ?_
      rw [(h1.1 k hk).2.1]
      refine aw_icmp_ge (tgt := 87) dT_ends_18 (by decide) (fun c18 => absurd c18 (nI_ge (by omega) (by omega))) (fun c18 => ?_)
      refine aw_aload_r dT_ends_21 rfl ?_
      refine aw_iload_n dT_ends_22 rfl ?_
      refine aw_iload_n dT_ends_23 rfl ?_
      refine an_callVb cg_T_91 (c_T_hasValue _ _ _ _ _ h1 _ _) dT_ends_24 rfl rfl rfl rfl rfl (Nat.le_of_ble_eq_true rfl) (Nat.le_of_ble_eq_true rfl) (fun p24 => ?_) (fun p24 => ?_)
      · refine aw_if_ne (tgt := 33) dT_ends_27 (by decide) (fun _ => ?_) (fun q => absurd q (by decide))
        have hv : ¬ V k i = -5000 := by
          obtain ⟨i2, hi2, e2, hv2⟩ := hv_i hI.n hk p24
          rw [nI_inj (by omega) (by omega) e2]; exact hv2
        refine aw_aload_r dT_ends_33 rfl ?_
        refine aw_iload_n dT_ends_34 rfl ?_
        refine aw_iload_n dT_ends_35 rfl ?_
        refine an_callVr cg_T_88 (c_T_valueAt _ _ _ _ _ h1 hk (by omega)) dT_ends_36 rfl rfl rfl rfl rfl (Nat.le_of_ble_eq_true rfl) (Nat.le_of_ble_eq_true rfl) ?_
        refine aw_istore dT_ends_39 (by decide) ?_
        refine aw_iload_n dT_ends_41 rfl ?_
        refine aw_if_eq (tgt := 54) dT_ends_42 (by decide) (fun _ => ?_) (fun q => absurd q (by decide))
        refine aw_aload_r dT_ends_54 rfl ?_
        refine aw_iload dT_ends_55 rfl ?_
        refine an_putT fp_T_135 dT_ends_57 (by decide) ?_
        refine aw_iload_n dT_ends_60 rfl ?_
        refine aw_if_eq (tgt := 73) dT_ends_61 (by decide) (fun _ => ?_) (fun q => absurd q (by decide))
        refine aw_aload_r dT_ends_73 rfl ?_
        refine aw_iload dT_ends_74 rfl ?_
        refine an_putT fp_T_138 dT_ends_76 (by decide) ?_
        refine aw_iconst (v := 1) dT_ends_79 (by decide) ?_
        refine aw_istore_n dT_ends_80 (by decide) ?_
        refine aw_iinc dT_ends_81 rfl (nI_1 i) (by decide) ?_
        refine aw_goto (tgt := 11) dT_ends_84 (by decide) ?_
        exact an_weak (ih (i + 1) 1 (upd (upd J1 21 (V k i)) 22 (V k i)) (by omega) ((hS.u21 _).u22 _) (e_val (J2 := (upd (upd J1 21 (V k i)) 22 (V k i))) hil hv (hP.val hk hil hv) hE (if_pos (Or.inl rfl)).symm (if_pos (Or.inl rfl)).symm) kk) ⟨rfl, rfl, rfl, rfl, trivial⟩
      · refine aw_if_ne (tgt := 33) dT_ends_27 (by decide) (fun q => absurd q (by decide)) (fun _ => ?_)
        refine aw_goto (tgt := 81) dT_ends_30 (by decide) ?_
        refine aw_iinc dT_ends_81 rfl (nI_1 i) (by decide) ?_
        refine aw_goto (tgt := 11) dT_ends_84 (by decide) ?_
        exact an_weak (ih (i + 1) _ J1 (by omega) hS (e_skip (Classical.byContradiction fun q => p24 ⟨k, i, hk, hil, rfl, rfl, q⟩) hE) kk) ⟨rfl, rfl, rfl, rfl, trivial⟩

set_option maxHeartbeats 4000000 in
set_option maxRecDepth 100000 in
theorem l_T_ends2 (N : Nat → Nat) (V : Nat → Nat → Int32) (K : Nat → Int32) (J : Nat → Int32) (B : Nat → Nat → Int32) (hI : TInv N V K J B) (hP : PInv N V K) : ∀ (n : Nat) (k : Nat) (a : Int32) (J1 : Nat → Int32), k + n = 4 → SameL J J1 → EInv N V k 0 a J1 → AN kT_ends 4 (EQ N V J B) 4 [some (.ref 0), some (.int a), some (.int (nI k)), none, none] [] (hT J1 B) := by
  intro n
  induction n with
  | zero =>
    intro k a J1 hin hS hE
    have hk4 : k = 4 := by omega
    subst hk4
    rcases e_end hE with ⟨rfl, h2, h3, h4⟩ | ⟨rfl, h2⟩
    · refine aw_iload_n dT_ends_4 rfl ?_
      refine aw_iconst (v := 4) dT_ends_5 (by decide) ?_
      refine aw_icmp_ge (tgt := 93) dT_ends_6 (by decide) (fun c6 => ?_) (fun c6 => absurd (by decide) c6)
      refine aw_iload_n dT_ends_93 rfl ?_
      exact aw_zret rfl (Or.inr rfl) dT_ends_94 ⟨J1, rfl, hS, Or.inl ⟨rfl, h2, h3, h4⟩⟩
    · refine aw_iload_n dT_ends_4 rfl ?_
      refine aw_iconst (v := 4) dT_ends_5 (by decide) ?_
      refine aw_icmp_ge (tgt := 93) dT_ends_6 (by decide) (fun c6 => ?_) (fun c6 => absurd (by decide) c6)
      refine aw_iload_n dT_ends_93 rfl ?_
      exact aw_zret rfl (Or.inl rfl) dT_ends_94 ⟨J1, rfl, hS, Or.inr ⟨rfl, h2⟩⟩
  | succ n ih =>
    intro k a J1 hin hS hE
    have hk : k < 4 := by omega
    refine aw_iload_n dT_ends_4 rfl ?_
    refine aw_iconst (v := 4) dT_ends_5 (by decide) ?_
    refine aw_icmp_ge (tgt := 93) dT_ends_6 (by decide) (fun c6 => absurd c6 (nI_ge (b := 4) (by omega) (by omega))) (fun c6 => ?_)
    refine aw_iconst (v := 0) dT_ends_9 (by decide) ?_
    refine aw_istore_n dT_ends_10 (by decide) ?_
    refine an_weak (l_T_ends1 N V K J B hI hP hk (N k) 0 a J1 (by omega) hS hE (fun a2 J2 hS2 hE2 => ?_)) ⟨rfl, rfl, rfl, rfl, trivial⟩
    refine aw_iinc dT_ends_87 rfl (nI_1 k) (by decide) ?_
    refine aw_goto (tgt := 4) dT_ends_90 (by decide) ?_
    exact an_weak (ih (k + 1) a2 J2 (by omega) hS2 (e_row hE2)) ⟨rfl, rfl, rfl, trivial⟩

set_option maxHeartbeats 4000000 in
set_option maxRecDepth 100000 in
theorem c_T_ends (N : Nat → Nat) (V : Nat → Nat → Int32) (K : Nat → Int32) (J : Nat → Int32) (B : Nat → Nat → Int32) (hI : TInv N V K J B) (hP : PInv N V K) : AM kT_ends 4 [.ref 0] (hT J B) (EQ N V J B) := by
  refine AMet.of (by decide) (by simp [Value.category]) (Nat.le_of_ble_eq_true rfl) ?_
  refine aw_iconst (v := 0) dT_ends_0 (by decide) ?_
  refine aw_istore_n dT_ends_1 (by decide) ?_
  refine aw_iconst (v := 0) dT_ends_2 (by decide) ?_
  refine aw_istore_n dT_ends_3 (by decide) ?_
  exact an_weak (l_T_ends2 N V K J B hI hP 4 0 0 J (by omega) SameL.rf (Or.inr ⟨rfl, fun ⟨k, i, _, _, h⟩ => by omega⟩)) ⟨rfl, rfl, rfl, trivial⟩
