set_option maxHeartbeats 4000000 in
set_option maxRecDepth 100000 in
theorem c_T_size (h : List AC) (x : Int32) : AM kT_size 1 [.int x] (h) (RQ (sz x) h) := by
  refine AMet.of (by decide) (by simp [Value.category]) (Nat.le_of_ble_eq_true rfl) ?_
  show AN _ _ _ 0 [some _] [] _
  refine aw_iload_n dT_size_0 rfl ?_
  refine aw_if_ge (tgt := 9) dT_size_1 (by decide) (fun c1 => ?_) (fun c1 => ?_)
  · refine aw_iload_n dT_size_9 rfl ?_
    exact aw_iret rfl dT_size_10 ⟨rfl, by unfold sz; rw [if_pos c1]⟩
  · refine aw_iload_n dT_size_4 rfl ?_
    refine aw_ineg dT_size_5 ?_
    refine aw_goto (tgt := 10) dT_size_6 (by decide) ?_
    exact aw_iret rfl dT_size_10 ⟨rfl, by unfold sz; rw [if_neg c1]⟩

set_option maxHeartbeats 4000000 in
set_option maxRecDepth 100000 in
theorem l_T_turnsIn (N : Nat → Nat) (V : Nat → Nat → Int32) (K : Nat → Int32) (J : Nat → Int32) (B : Nat → Nat → Int32) (hI : TInv N V K J B) (hP : PInv N V K) {k : Nat} (hk : k < 4) : ∀ (n j : Nat) (J1 : Nat → Int32) (B1 : Nat → Nat → Int32), (spc (V k) (N k) (K 8) 40) - 1 - j = n → j ≤ (spc (V k) (N k) (K 8) 40) - 1 → ShQ N V K k J1 B1 → J1 14 = nI (tL (V k) (K k) (spf (V k) (N k) (K 8) 40) (spl (V k) (N k) (K 8) 40) (spg (V k) (N k) (K 8) 40) j).length → AL (B1 10) (tL (V k) (K k) (spf (V k) (N k) (K 8) 40) (spl (V k) (N k) (K 8) 40) (spg (V k) (N k) (K 8) 40) j) → AN kT_turnsIn 7 (TnQ N V K k) 12 [some (.ref 0), some (.int (nI k)), some (.int (nI j)), none] [] (hT J1 B1) := by
  have h40 := hI.n k hk
  have hok := sp_ok (v := V k) (n := N k) (p := K 8) 40
  have hc40 := spc_le (v := V k) (n := N k) (p := K 8) 40
  intro n
  induction n with
  | zero =>
    intro j J1 B1 hn hj hs h14 hal
    have hjc : j = (spc (V k) (N k) (K 8) 40) - 1 := by omega
    obtain ⟨h1, h10, h9, h5, h7g, h8f, h9l⟩ := id hs
    refine aw_iload_n dT_turnsIn_12 rfl ?_
    refine aw_iconst (v := 1) dT_turnsIn_13 (by decide) ?_
    refine aw_iadd dT_turnsIn_14 ?_
    refine an_top (nI_1 j) ?_
    refine aw_aload_r dT_turnsIn_15 rfl ?_
    refine aw_get fg_T_106 dT_turnsIn_16 rfl rfl ?_
    refine an_top (y := nI (spc (V k) (N k) (K 8) 40)) h10 ?_
    refine aw_icmp_ge (tgt := 163) dT_turnsIn_19 (by decide) (fun c19 => ?_) (fun c19 => absurd (nI_le (by omega) (by omega)) c19)
    exact aw_vret rfl dT_turnsIn_163 ⟨rfl, J1, B1, rfl, hs, by unfold turnL; rw [← hjc]; exact h14, by unfold turnL; rw [← hjc]; exact hal⟩
  | succ n ih =>
    intro j J1 B1 hn hj hs h14 hal
    obtain ⟨h1, h10, h9, h5, h7g, h8f, h9l⟩ := id hs
    have hj1 : j + 1 < (spc (V k) (N k) (K 8) 40) := by omega
    have k1 := hok.1 j (by omega)
    have k2 := hok.1 (j + 1) hj1
    have hln := tL_len (v := V k) (ms := K k) (f := (spf (V k) (N k) (K 8) 40)) (l := (spl (V k) (N k) (K 8) 40)) (g := (spg (V k) (N k) (K 8) 40)) j
    refine aw_iload_n dT_turnsIn_12 rfl ?_
    refine aw_iconst (v := 1) dT_turnsIn_13 (by decide) ?_
    refine aw_iadd dT_turnsIn_14 ?_
    refine an_top (nI_1 j) ?_
    refine aw_aload_r dT_turnsIn_15 rfl ?_
    refine aw_get fg_T_106 dT_turnsIn_16 rfl rfl ?_
    refine an_top (y := nI (spc (V k) (N k) (K 8) 40)) h10 ?_
    refine aw_icmp_ge (tgt := 163) dT_turnsIn_19 (by decide) (fun c19 => absurd c19 (nI_ge (by omega) (by omega))) (fun c19 => ?_)
    refine aw_aload_r dT_turnsIn_22 rfl ?_
    refine aw_get fg_T_41 dT_turnsIn_23 rfl rfl ?_
    refine aw_iload_n dT_turnsIn_26 rfl ?_
    refine an_ldT dT_turnsIn_27 at_9 rfl (by omega) (by decide) ?_
    rw [h9l j (by omega)]
    refine aw_aload_r dT_turnsIn_28 rfl ?_
    refine aw_get fg_T_38 dT_turnsIn_29 rfl rfl ?_
    refine aw_iload_n dT_turnsIn_32 rfl ?_
    refine aw_iconst (v := 1) dT_turnsIn_33 (by decide) ?_
    refine aw_iadd dT_turnsIn_34 ?_
    refine an_top (nI_1 j) ?_
    refine an_ldT dT_turnsIn_35 at_8 rfl (by omega) (by decide) ?_
    rw [h8f (j + 1) (by omega)]
    refine aw_icmp_ne (tgt := 157) dT_turnsIn_36 (by decide) (fun c36 => ?_) (fun c36 => ?_)
    · refine ic4_2 dT_turnsIn_157 (nI_1 j) (by decide) ?_
      refine aw_goto (tgt := 12) dT_turnsIn_160 (by decide) ?_
      have ht : ¬ tnD (V k) (K k) (spf (V k) (N k) (K 8) 40) (spl (V k) (N k) (K 8) 40) (spg (V k) (N k) (K 8) 40) j := fun z => c36 (congrArg nI z.1)
      have e := tL_f ht
      exact an_weak (ih (j + 1) J1 B1 (by omega) (by omega) hs (by rw [e]; exact h14) (by rw [e]; exact hal)) ⟨rfl, rfl, rfl, trivial⟩
    · have q1 : (spl (V k) (N k) (K 8) 40) j = (spf (V k) (N k) (K 8) 40) (j + 1) := nI_inj (by omega) (by omega) c36
      refine aw_aload_r dT_turnsIn_39 rfl ?_
      refine aw_get fg_T_35 dT_turnsIn_40 rfl rfl ?_
      refine aw_iload_n dT_turnsIn_43 rfl ?_
      refine an_ldT dT_turnsIn_44 at_7 rfl (by omega) (by decide) ?_
      rw [h7g j (by omega)]
      refine aw_aload_r dT_turnsIn_45 rfl ?_
      refine aw_get fg_T_35 dT_turnsIn_46 rfl rfl ?_
      refine aw_iload_n dT_turnsIn_49 rfl ?_
      refine aw_iconst (v := 1) dT_turnsIn_50 (by decide) ?_
      refine aw_iadd dT_turnsIn_51 ?_
      refine an_top (nI_1 j) ?_
      refine an_ldT dT_turnsIn_52 at_7 rfl (by omega) (by decide) ?_
      rw [h7g (j + 1) (by omega)]
      refine aw_iadd dT_turnsIn_53 ?_
      refine an_top (nI_add _ _) ?_
      refine aw_iconst (v := 3) dT_turnsIn_54 (by decide) ?_
      refine aw_icmp_eq (tgt := 61) dT_turnsIn_55 (by decide) (fun c55 => ?_) (fun c55 => ?_)
      · have q2 : (spg (V k) (N k) (K 8) 40) j + (spg (V k) (N k) (K 8) 40) (j + 1) = 3 := nI_inj (b := 3) (by omega) (by decide) c55
        refine aw_aload_r dT_turnsIn_61 rfl ?_
        refine aw_iload_n dT_turnsIn_62 rfl ?_
        refine aw_aload_r dT_turnsIn_63 rfl ?_
        refine aw_get fg_T_41 dT_turnsIn_64 rfl rfl ?_
        refine aw_iload_n dT_turnsIn_67 rfl ?_
        refine an_ldT dT_turnsIn_68 at_9 rfl (by omega) (by decide) ?_
        rw [h9l j (by omega)]
        refine an_callVr cg_T_88 (c_T_valueAt N V K _ _ h1 hk (by omega)) dT_turnsIn_69 rfl rfl rfl rfl rfl (Nat.le_of_ble_eq_true rfl) (Nat.le_of_ble_eq_true rfl) ?_
        refine si4_3 dT_turnsIn_72 (by decide) ?_
        refine aw_iload_n dT_turnsIn_73 rfl ?_
        refine aw_aload_r dT_turnsIn_74 rfl ?_
        refine aw_iload_n dT_turnsIn_75 rfl ?_
        refine aw_aload_r dT_turnsIn_76 rfl ?_
        refine aw_get fg_T_38 dT_turnsIn_77 rfl rfl ?_
        refine aw_iload_n dT_turnsIn_80 rfl ?_
        refine an_ldT dT_turnsIn_81 at_8 rfl (by omega) (by decide) ?_
        rw [h8f j (by omega)]
        refine an_callVr cg_T_88 (c_T_valueAt N V K _ _ h1 hk (by omega)) dT_turnsIn_82 rfl rfl rfl rfl rfl (Nat.le_of_ble_eq_true rfl) (Nat.le_of_ble_eq_true rfl) ?_
        refine aw_isub dT_turnsIn_85 ?_
        refine an_callSr cg_T_118 (c_T_size _ _) dT_turnsIn_86 rfl rfl (Nat.le_of_ble_eq_true rfl) (Nat.le_of_ble_eq_true rfl) ?_
        refine aw_iconst (v := 2) dT_turnsIn_89 (by decide) ?_
        refine aw_aload_r dT_turnsIn_90 rfl ?_
        refine aw_get fg_T_16 dT_turnsIn_91 rfl rfl ?_
        refine aw_iload_n dT_turnsIn_94 rfl ?_
        refine an_ldT dT_turnsIn_95 at_3 rfl hk (by decide) ?_
        rw [(h1.1 k hk).2.2.1]
        refine aw_imul dT_turnsIn_96 ?_
        refine aw_icmp_le (tgt := 157) dT_turnsIn_97 (by decide) (fun c97 => ?_) (fun c97 => ?_)
        · refine ic4_2 dT_turnsIn_157 (nI_1 j) (by decide) ?_
          refine aw_goto (tgt := 12) dT_turnsIn_160 (by decide) ?_
          have ht : ¬ tnD (V k) (K k) (spf (V k) (N k) (K 8) 40) (spl (V k) (N k) (K 8) 40) (spg (V k) (N k) (K 8) 40) j := fun z => z.2.2.1 c97
          have e := tL_f ht
          exact an_weak (ih (j + 1) J1 B1 (by omega) (by omega) hs (by rw [e]; exact h14) (by rw [e]; exact hal)) ⟨rfl, rfl, rfl, trivial⟩
        · refine aw_iload_n dT_turnsIn_100 rfl ?_
          refine aw_aload_r dT_turnsIn_101 rfl ?_
          refine aw_iload_n dT_turnsIn_102 rfl ?_
          refine aw_aload_r dT_turnsIn_103 rfl ?_
          refine aw_get fg_T_41 dT_turnsIn_104 rfl rfl ?_
          refine aw_iload_n dT_turnsIn_107 rfl ?_
          refine aw_iconst (v := 1) dT_turnsIn_108 (by decide) ?_
          refine aw_iadd dT_turnsIn_109 ?_
          refine an_top (nI_1 j) ?_
          refine an_ldT dT_turnsIn_110 at_9 rfl (by omega) (by decide) ?_
          rw [h9l (j + 1) (by omega)]
          refine an_callVr cg_T_88 (c_T_valueAt N V K _ _ h1 hk (by omega)) dT_turnsIn_111 rfl rfl rfl rfl rfl (Nat.le_of_ble_eq_true rfl) (Nat.le_of_ble_eq_true rfl) ?_
          refine aw_isub dT_turnsIn_114 ?_
          refine an_callSr cg_T_118 (c_T_size _ _) dT_turnsIn_115 rfl rfl (Nat.le_of_ble_eq_true rfl) (Nat.le_of_ble_eq_true rfl) ?_
          refine aw_iconst (v := 2) dT_turnsIn_118 (by decide) ?_
          refine aw_aload_r dT_turnsIn_119 rfl ?_
          refine aw_get fg_T_16 dT_turnsIn_120 rfl rfl ?_
          refine aw_iload_n dT_turnsIn_123 rfl ?_
          refine an_ldT dT_turnsIn_124 at_3 rfl hk (by decide) ?_
          rw [(h1.1 k hk).2.2.1]
          refine aw_imul dT_turnsIn_125 ?_
          refine aw_icmp_gt (tgt := 132) dT_turnsIn_126 (by decide) (fun c126 => ?_) (fun c126 => ?_)
          · refine aw_aload_r dT_turnsIn_132 rfl ?_
            refine aw_get fg_T_44 dT_turnsIn_133 rfl rfl ?_
            refine aw_aload_r dT_turnsIn_136 rfl ?_
            refine aw_get fg_T_115 dT_turnsIn_137 rfl rfl ?_
            refine aw_aload_r dT_turnsIn_140 rfl ?_
            refine aw_get fg_T_41 dT_turnsIn_141 rfl rfl ?_
            refine aw_iload_n dT_turnsIn_144 rfl ?_
            refine an_ldT dT_turnsIn_145 at_9 rfl (by omega) (by decide) ?_
            rw [h9l j (by omega)]
            refine an_stT dT_turnsIn_146 at_10 h14 (by omega) (by decide) ?_
            refine aw_aload_r dT_turnsIn_147 rfl ?_
            refine aw_dup dT_turnsIn_148 rfl ?_
            refine aw_get fg_T_115 dT_turnsIn_149 rfl rfl ?_
            refine an_top (y := nI (tL (V k) (K k) (spf (V k) (N k) (K 8) 40) (spl (V k) (N k) (K 8) 40) (spg (V k) (N k) (K 8) 40) j).length) h14 ?_
            refine aw_iconst (v := 1) dT_turnsIn_152 (by decide) ?_
            refine aw_iadd dT_turnsIn_153 ?_
            refine an_top (nI_1 _) ?_
            refine an_putT fp_T_115 dT_turnsIn_154 (by decide) ?_
            refine ic4_2 dT_turnsIn_157 (nI_1 j) (by decide) ?_
            refine aw_goto (tgt := 12) dT_turnsIn_160 (by decide) ?_
            have ht : tnD (V k) (K k) (spf (V k) (N k) (K 8) 40) (spl (V k) (N k) (K 8) 40) (spg (V k) (N k) (K 8) 40) j := ⟨q1, q2, c97, Int32.not_le.mpr c126⟩
            have e := tL_t ht
            exact an_weak (ih (j + 1) _ _ (by omega) (by omega) (by exact hs) (by rw [e]; simp; exact rfl) (by rw [e]; exact hal.snoc _)) ⟨rfl, rfl, rfl, trivial⟩
          · refine aw_goto (tgt := 157) dT_turnsIn_129 (by decide) ?_
            refine ic4_2 dT_turnsIn_157 (nI_1 j) (by decide) ?_
            refine aw_goto (tgt := 12) dT_turnsIn_160 (by decide) ?_
            have ht : ¬ tnD (V k) (K k) (spf (V k) (N k) (K 8) 40) (spl (V k) (N k) (K 8) 40) (spg (V k) (N k) (K 8) 40) j := fun z => z.2.2.2 (Int32.not_lt.mp c126)
            have e := tL_f ht
            exact an_weak (ih (j + 1) J1 B1 (by omega) (by omega) hs (by rw [e]; exact h14) (by rw [e]; exact hal)) ⟨rfl, rfl, rfl, trivial⟩
      · refine aw_goto (tgt := 157) dT_turnsIn_58 (by decide) ?_
        refine ic4_2 dT_turnsIn_157 (nI_1 j) (by decide) ?_
        refine aw_goto (tgt := 12) dT_turnsIn_160 (by decide) ?_
        have ht : ¬ tnD (V k) (K k) (spf (V k) (N k) (K 8) 40) (spl (V k) (N k) (K 8) 40) (spg (V k) (N k) (K 8) 40) j := fun z => c55 (congrArg nI z.2.1)
        have e := tL_f ht
        exact an_weak (ih (j + 1) J1 B1 (by omega) (by omega) hs (by rw [e]; exact h14) (by rw [e]; exact hal)) ⟨rfl, rfl, rfl, trivial⟩

set_option maxHeartbeats 4000000 in
set_option maxRecDepth 100000 in
theorem c_T_turnsIn (N : Nat → Nat) (V : Nat → Nat → Int32) (K : Nat → Int32) (J : Nat → Int32) (B : Nat → Nat → Int32) (hI : TInv N V K J B) (hP : PInv N V K) {k : Nat} (hk : k < 4) : AM kT_turnsIn 7 [.ref 0, .int (nI k)] (hT J B) (TnQ N V K k) := by
  refine AMet.of (by decide) (by simp [Value.category]) (Nat.le_of_ble_eq_true rfl) ?_
  show AN _ _ _ 0 [some _, some _, none, none] [] _
  refine aw_aload_r dT_turnsIn_0 rfl ?_
  refine aw_iload_n dT_turnsIn_1 rfl ?_
  refine an_callVx cg_T_112 (c_T_shapes N V K _ _ hI hP hk) dT_turnsIn_2 rfl rfl rfl rfl rfl (Nat.le_of_ble_eq_true rfl) (Nat.le_of_ble_eq_true rfl) ?_
  rintro _ _ ⟨rfl, J1, B1, rfl, hs⟩
  refine aw_aload_r dT_turnsIn_5 rfl ?_
  refine aw_iconst (v := 0) dT_turnsIn_6 (by decide) ?_
  refine an_putT fp_T_115 dT_turnsIn_7 (by decide) ?_
  refine aw_iconst (v := 0) dT_turnsIn_10 (by decide) ?_
  refine si4_2 dT_turnsIn_11 (by decide) ?_
  exact an_weak (l_T_turnsIn N V K J B hI hP hk _ 0 _ _ rfl (by omega) (show ShQ N V K k (upd J1 14 0) B1 from hs) rfl AL.nil) ⟨rfl, rfl, rfl, trivial⟩
