theorem AMet.mono {M : MI} {al : Bool} {d mc ms : Nat} {as : List Value} {h : List AC} {Q Q' : QT} (hm : AMet M al d mc ms as h Q) (hq : ∀ v h', Q v h' → Q' v h') : AMet M al d mc ms as h Q' := by
  intro l b D κ p e ha hc hk s m args below hf hpre hP hK
  obtain ⟨t, o, a1, b1, b2, ⟨⟨r, h', q1, q2, q3⟩, q4⟩, hF⟩ := hm l b D κ p e ha hc hk s m args below hf hpre hP hK
  exact ⟨t, o, a1, b1, b2, ⟨⟨r, h', q1, hq _ _ q2, q3⟩, q4⟩, hF⟩
set_option maxHeartbeats 4000000 in
set_option maxRecDepth 100000 in
theorem l_T_crosses (N : Nat → Nat) (V : Nat → Nat → Int32) (K : Nat → Int32) (J : Nat → Int32) (B : Nat → Nat → Int32) (hI : TInv N V K J B) (hP : PInv N V K) {k1 k2 : Nat} (hk1 : k1 < 4) (hk2 : k2 < 4) (hne : k1 ≠ k2) : ∀ (n : Nat) (i : Nat) (J1 : Nat → Int32) (B1 : Nat → Nat → Int32), i + n = 40 → TInv N V K J1 B1 → J1 16 = nI (crL (svF N V K k1 k2) i).1.length → AL (B1 11) (crL (svF N V K k1 k2) i).1 → AN kT_crosses 5 (XQT N V K (crossL N V K k1 k2)) 10 [some (.ref 0), some (.int (nI k1)), some (.int (nI k2)), some (.int (crL (svF N V K k1 k2) i).2), some (.int (nI i)), none] [] (hT J1 B1) := by
  intro n
  induction n with
  | zero =>
    intro i J1 B1 hin h2 h3 h4
    refine aw_iload dT_crosses_10 rfl ?_
    refine aw_bipush (v := 40) dT_crosses_12 (by decide) ?_
    refine aw_icmp_ge (tgt := 88) dT_crosses_14 (by decide) (fun c14 => ?_) (fun c14 => absurd (by rw [show i = 40 by omega]; decide) c14)
    exact aw_vret rfl dT_crosses_88 ⟨rfl, J1, B1, rfl, h2, by rw [h3, show i = 40 by omega]; rfl, by rw [show i = 40 by omega] at h4; exact h4⟩
  | succ n ih =>
    intro i J1 B1 hin h2 h3 h4
    have hlen := crL_len (s := (svF N V K k1 k2)) i
    refine aw_iload dT_crosses_10 rfl ?_
    refine aw_bipush (v := 40) dT_crosses_12 (by decide) ?_
    refine aw_icmp_ge (tgt := 88) dT_crosses_14 (by decide) (fun c14 => absurd c14 (nI_ge (b := 40) (by omega) (by omega))) (fun c14 => ?_)
    refine aw_aload_r dT_crosses_17 rfl ?_
    refine aw_iload_n dT_crosses_18 rfl ?_
    refine aw_iload_n dT_crosses_19 rfl ?_
    refine aw_iload dT_crosses_20 rfl ?_
    refine an_callVr cg_T_128 (c_T_sure _ _ _ _ _ h2 _ _ _) dT_crosses_22 rfl rfl rfl rfl rfl (Nat.le_of_ble_eq_true rfl) (Nat.le_of_ble_eq_true rfl) ?_
    rw [sureE_R hk1 hk2 hne]
    refine an_top (show sureR N V K k1 k2 (nI i) = (svF N V K k1 k2) i from rfl) ?_
    refine aw_istore dT_crosses_25 (by decide) ?_
    refine aw_iload dT_crosses_27 rfl ?_
    refine aw_bipush (v := (-2)) dT_crosses_29 (by decide) ?_
    refine aw_icmp_ne (tgt := 36) dT_crosses_31 (by decide) (fun c31 => ?_) (fun c31 => ?_)
    · refine aw_iload dT_crosses_36 rfl ?_
      refine aw_iconst (v := 1) dT_crosses_38 (by decide) ?_
      refine aw_icmp_eq (tgt := 51) dT_crosses_39 (by decide) (fun c39 => ?_) (fun c39 => ?_)
      · refine aw_iload_n dT_crosses_51 rfl ?_
        refine aw_iload dT_crosses_52 rfl ?_
        refine aw_ineg dT_crosses_54 ?_
        refine aw_icmp_ne (tgt := 79) dT_crosses_55 (by decide) (fun c55 => ?_) (fun c55 => ?_)
        · refine aw_iload dT_crosses_79 rfl ?_
          refine aw_istore_n dT_crosses_81 (by decide) ?_
          refine aw_iinc dT_crosses_82 rfl (nI_1 i) (by decide) ?_
          refine aw_goto (tgt := 10) dT_crosses_85 (by decide) ?_
          have e := crL_m (s := (svF N V K k1 k2)) (i := i) (Or.inl c39) c55
          exact an_weak (ih (i + 1) J1 B1 (by omega) h2 (by rw [e]; exact h3) (by rw [e]; exact h4)) ⟨rfl, rfl, rfl, by rw [e]; rfl, rfl, trivial⟩
        · refine aw_aload_r dT_crosses_58 rfl ?_
          refine aw_get fg_T_47 dT_crosses_59 rfl rfl ?_
          refine aw_aload_r dT_crosses_62 rfl ?_
          refine aw_get fg_T_125 dT_crosses_63 rfl rfl ?_
          rw [h3]
          refine aw_iload dT_crosses_66 rfl ?_
          refine an_stT dT_crosses_68 at_11 rfl (by omega) (by decide) ?_
          refine aw_aload_r dT_crosses_69 rfl ?_
          refine aw_dup dT_crosses_70 rfl ?_
          refine aw_get fg_T_125 dT_crosses_71 rfl rfl ?_
          rw [h3]
          refine aw_iconst (v := 1) dT_crosses_74 (by decide) ?_
          refine aw_iadd dT_crosses_75 ?_
          refine an_top (nI_1 _) ?_
          refine an_putT fp_T_125 dT_crosses_76 (by decide) ?_
          refine aw_iload dT_crosses_79 rfl ?_
          refine aw_istore_n dT_crosses_81 (by decide) ?_
          refine aw_iinc dT_crosses_82 rfl (nI_1 i) (by decide) ?_
          refine aw_goto (tgt := 10) dT_crosses_85 (by decide) ?_
          have e := crL_h (s := (svF N V K k1 k2)) (i := i) (Or.inl c39) c55
          exact an_weak (ih (i + 1) _ _ (by omega) h2 (by rw [e]; simp; exact rfl) (by rw [e]; exact h4.snoc i)) ⟨rfl, rfl, rfl, by rw [e]; rfl, rfl, trivial⟩
      · refine aw_iload dT_crosses_42 rfl ?_
        refine aw_iconst (v := (-1)) dT_crosses_44 (by decide) ?_
        refine aw_icmp_eq (tgt := 51) dT_crosses_45 (by decide) (fun c45 => ?_) (fun c45 => ?_)
        · refine aw_iload_n dT_crosses_51 rfl ?_
          refine aw_iload dT_crosses_52 rfl ?_
          refine aw_ineg dT_crosses_54 ?_
          refine aw_icmp_ne (tgt := 79) dT_crosses_55 (by decide) (fun c55 => ?_) (fun c55 => ?_)
          · refine aw_iload dT_crosses_79 rfl ?_
            refine aw_istore_n dT_crosses_81 (by decide) ?_
            refine aw_iinc dT_crosses_82 rfl (nI_1 i) (by decide) ?_
            refine aw_goto (tgt := 10) dT_crosses_85 (by decide) ?_
            have e := crL_m (s := (svF N V K k1 k2)) (i := i) (Or.inr c45) c55
            exact an_weak (ih (i + 1) J1 B1 (by omega) h2 (by rw [e]; exact h3) (by rw [e]; exact h4)) ⟨rfl, rfl, rfl, by rw [e]; rfl, rfl, trivial⟩
          · refine aw_aload_r dT_crosses_58 rfl ?_
            refine aw_get fg_T_47 dT_crosses_59 rfl rfl ?_
            refine aw_aload_r dT_crosses_62 rfl ?_
            refine aw_get fg_T_125 dT_crosses_63 rfl rfl ?_
            rw [h3]
            refine aw_iload dT_crosses_66 rfl ?_
            refine an_stT dT_crosses_68 at_11 rfl (by omega) (by decide) ?_
            refine aw_aload_r dT_crosses_69 rfl ?_
            refine aw_dup dT_crosses_70 rfl ?_
            refine aw_get fg_T_125 dT_crosses_71 rfl rfl ?_
            rw [h3]
            refine aw_iconst (v := 1) dT_crosses_74 (by decide) ?_
            refine aw_iadd dT_crosses_75 ?_
            refine an_top (nI_1 _) ?_
            refine an_putT fp_T_125 dT_crosses_76 (by decide) ?_
            refine aw_iload dT_crosses_79 rfl ?_
            refine aw_istore_n dT_crosses_81 (by decide) ?_
            refine aw_iinc dT_crosses_82 rfl (nI_1 i) (by decide) ?_
            refine aw_goto (tgt := 10) dT_crosses_85 (by decide) ?_
            have e := crL_h (s := (svF N V K k1 k2)) (i := i) (Or.inr c45) c55
            exact an_weak (ih (i + 1) _ _ (by omega) h2 (by rw [e]; simp; exact rfl) (by rw [e]; exact h4.snoc i)) ⟨rfl, rfl, rfl, by rw [e]; rfl, rfl, trivial⟩
        · refine aw_goto (tgt := 82) dT_crosses_48 (by decide) ?_
          refine aw_iinc dT_crosses_82 rfl (nI_1 i) (by decide) ?_
          refine aw_goto (tgt := 10) dT_crosses_85 (by decide) ?_
          have e := crL_0 (s := (svF N V K k1 k2)) (i := i) ((sv_range.resolve_left c39).resolve_left c45 |>.resolve_right c31)
          exact an_weak (ih (i + 1) J1 B1 (by omega) h2 (by rw [e]; exact h3) (by rw [e]; exact h4)) ⟨rfl, rfl, rfl, by rw [e]; rfl, rfl, trivial⟩
    · refine aw_iconst (v := 0) dT_crosses_34 (by decide) ?_
      refine aw_istore_n dT_crosses_35 (by decide) ?_
      refine aw_iload dT_crosses_36 rfl ?_
      refine aw_iconst (v := 1) dT_crosses_38 (by decide) ?_
      refine aw_icmp_eq (tgt := 51) dT_crosses_39 (by decide) (fun c39 => absurd (c31.symm.trans c39) (by decide)) (fun c39 => ?_)
      refine aw_iload dT_crosses_42 rfl ?_
      refine aw_iconst (v := (-1)) dT_crosses_44 (by decide) ?_
      refine aw_icmp_eq (tgt := 51) dT_crosses_45 (by decide) (fun c45 => absurd (c31.symm.trans c45) (by decide)) (fun c45 => ?_)
      refine aw_goto (tgt := 82) dT_crosses_48 (by decide) ?_
      refine aw_iinc dT_crosses_82 rfl (nI_1 i) (by decide) ?_
      refine aw_goto (tgt := 10) dT_crosses_85 (by decide) ?_
      have e := crL_u (s := (svF N V K k1 k2)) (i := i) c31
      exact an_weak (ih (i + 1) J1 B1 (by omega) h2 (by rw [e]; exact h3) (by rw [e]; exact h4)) ⟨rfl, rfl, rfl, by rw [e]; rfl, rfl, trivial⟩

set_option maxHeartbeats 4000000 in
set_option maxRecDepth 100000 in
theorem c_T_crosses (N : Nat → Nat) (V : Nat → Nat → Int32) (K : Nat → Int32) (J : Nat → Int32) (B : Nat → Nat → Int32) (hI : TInv N V K J B) (hP : PInv N V K) {k1 k2 : Nat} (hk1 : k1 < 4) (hk2 : k2 < 4) (hne : k1 ≠ k2) : AM kT_crosses 5 [.ref 0, .int (nI k1), .int (nI k2)] (hT J B) (XQT N V K (crossL N V K k1 k2)) := by
  refine AMet.of (by decide) (by simp [Value.category]) (Nat.le_of_ble_eq_true rfl) ?_
  refine aw_aload_r dT_crosses_0 rfl ?_
  refine aw_iconst (v := 0) dT_crosses_1 (by decide) ?_
  refine an_putT fp_T_125 dT_crosses_2 (by decide) ?_
  refine aw_iconst (v := 0) dT_crosses_5 (by decide) ?_
  refine aw_istore_n dT_crosses_6 (by decide) ?_
  refine aw_iconst (v := 0) dT_crosses_7 (by decide) ?_
  refine aw_istore dT_crosses_8 (by decide) ?_
  exact an_weak (l_T_crosses N V K J B hI hP hk1 hk2 hne 40 0 _ _ (by omega) (show TInv N V K (upd J 16 0) B from hI) rfl AL.nil) ⟨rfl, rfl, rfl, rfl, rfl, trivial⟩

set_option maxHeartbeats 4000000 in
set_option maxRecDepth 100000 in
theorem c_T_crossings (N : Nat → Nat) (V : Nat → Nat → Int32) (K : Nat → Int32) (J : Nat → Int32) (B : Nat → Nat → Int32) (hI : TInv N V K J B) (hP : PInv N V K) (a b : Int32) : AM kT_crossings 6 [.ref 0, .int a, .int b] (hT J B) (TR (sp_crossings N V K a b)) := by
  refine AMet.of (by decide) (by simp [Value.category]) (Nat.le_of_ble_eq_true rfl) ?_
  refine aw_iload_n dT_crossings_0 rfl ?_
  refine an_callSb cg_T_72 (c_T_isRow _ _) dT_crossings_1 rfl rfl (Nat.le_of_ble_eq_true rfl) (Nat.le_of_ble_eq_true rfl) (fun p1 => ?_) (fun p1 => ?_)
  · refine aw_if_eq (tgt := 19) dT_crossings_4 (by decide) (fun q => absurd q (by decide)) (fun _ => ?_)
    refine aw_iload_n dT_crossings_7 rfl ?_
    refine an_callSb cg_T_72 (c_T_isRow _ _) dT_crossings_8 rfl rfl (Nat.le_of_ble_eq_true rfl) (Nat.le_of_ble_eq_true rfl) (fun p8 => ?_) (fun p8 => ?_)
    · refine aw_if_eq (tgt := 19) dT_crossings_11 (by decide) (fun q => absurd q (by decide)) (fun _ => ?_)
      refine aw_iload_n dT_crossings_14 rfl ?_
      refine aw_iload_n dT_crossings_15 rfl ?_
      refine aw_icmp_ne (tgt := 21) dT_crossings_16 (by decide) (fun c16 => ?_) (fun c16 => ?_)
      · obtain ⟨k1, hk1, rfl⟩ := isRow_k p1
        obtain ⟨k2, hk2, rfl⟩ := isRow_k p8
        have hne : k1 ≠ k2 := fun q => c16 (by rw [q])
        have hln := crL_len (s := svF N V K k1 k2) 40
        refine aw_aload_r dT_crossings_21 rfl ?_
        refine aw_iload_n dT_crossings_22 rfl ?_
        refine aw_iload_n dT_crossings_23 rfl ?_
        refine an_callVx cg_T_131 (c_T_crosses _ _ _ _ _ hI hP hk1 hk2 hne) dT_crossings_24 rfl rfl rfl rfl rfl (Nat.le_of_ble_eq_true rfl) (Nat.le_of_ble_eq_true rfl) ?_
        rintro _ _ ⟨rfl, J1, B1, rfl, h1, e16, hal⟩
        refine aw_aload_r dT_crossings_27 rfl ?_
        refine aw_get fg_T_125 dT_crossings_28 rfl rfl ?_
        rw [e16]
        exact aw_iret rfl dT_crossings_31 (by unfold sp_crossings; rw [cif_t ⟨c16, p1, p8⟩, rn_n (by omega), rn_n (by omega)]; exact ⟨rfl, J1, B1, rfl, h1⟩)
      · refine aw_iconst (v := (-1)) dT_crossings_19 (by decide) ?_
        exact aw_iret rfl dT_crossings_20 (by unfold sp_crossings; rw [cif_f (fun q => q.1 c16)]; exact ⟨rfl, J, B, rfl, hI⟩)
    · refine aw_if_eq (tgt := 19) dT_crossings_11 (by decide) (fun _ => ?_) (fun q => absurd q (by decide))
      refine aw_iconst (v := (-1)) dT_crossings_19 (by decide) ?_
      exact aw_iret rfl dT_crossings_20 (by unfold sp_crossings; rw [cif_f (fun q => p8 q.2.2)]; exact ⟨rfl, J, B, rfl, hI⟩)
  · refine aw_if_eq (tgt := 19) dT_crossings_4 (by decide) (fun _ => ?_) (fun q => absurd q (by decide))
    refine aw_iconst (v := (-1)) dT_crossings_19 (by decide) ?_
    exact aw_iret rfl dT_crossings_20 (by unfold sp_crossings; rw [cif_f (fun q => p1 q.2.1)]; exact ⟨rfl, J, B, rfl, hI⟩)

set_option maxHeartbeats 4000000 in
set_option maxRecDepth 100000 in
theorem c_T_crossing (N : Nat → Nat) (V : Nat → Nat → Int32) (K : Nat → Int32) (J : Nat → Int32) (B : Nat → Nat → Int32) (hI : TInv N V K J B) (hP : PInv N V K) (a b k : Int32) : AM kT_crossing 6 [.ref 0, .int a, .int b, .int k] (hT J B) (TR (sp_crossing N V K a b k)) := by
  refine AMet.of (by decide) (by simp [Value.category]) (Nat.le_of_ble_eq_true rfl) ?_
  refine aw_iload_n dT_crossing_0 rfl ?_
  refine an_callSb cg_T_72 (c_T_isRow _ _) dT_crossing_1 rfl rfl (Nat.le_of_ble_eq_true rfl) (Nat.le_of_ble_eq_true rfl) (fun p1 => ?_) (fun p1 => ?_)
  · refine aw_if_eq (tgt := 23) dT_crossing_4 (by decide) (fun q => absurd q (by decide)) (fun _ => ?_)
    refine aw_iload_n dT_crossing_7 rfl ?_
    refine an_callSb cg_T_72 (c_T_isRow _ _) dT_crossing_8 rfl rfl (Nat.le_of_ble_eq_true rfl) (Nat.le_of_ble_eq_true rfl) (fun p8 => ?_) (fun p8 => ?_)
    · refine aw_if_eq (tgt := 23) dT_crossing_11 (by decide) (fun q => absurd q (by decide)) (fun _ => ?_)
      refine aw_iload_n dT_crossing_14 rfl ?_
      refine aw_iload_n dT_crossing_15 rfl ?_
      refine aw_icmp_eq (tgt := 23) dT_crossing_16 (by decide) (fun c16 => ?_) (fun c16 => ?_)
      · refine aw_iconst (v := (-1)) dT_crossing_23 (by decide) ?_
        exact aw_iret rfl dT_crossing_24 (by unfold sp_crossing; rw [cif_f (fun q => q.1.1 c16)]; exact ⟨rfl, J, B, rfl, hI⟩)
      · refine aw_iload_n dT_crossing_19 rfl ?_
        refine aw_if_ge (tgt := 25) dT_crossing_20 (by decide) (fun c20 => ?_) (fun c20 => ?_)
        · obtain ⟨k1, hk1, rfl⟩ := isRow_k p1
          obtain ⟨k2, hk2, rfl⟩ := isRow_k p8
          have hne : k1 ≠ k2 := fun q => c16 (by rw [q])
          have hln := crL_len (s := svF N V K k1 k2) 40
          refine aw_aload_r dT_crossing_25 rfl ?_
          refine aw_iload_n dT_crossing_26 rfl ?_
          refine aw_iload_n dT_crossing_27 rfl ?_
          refine an_callVx cg_T_131 (c_T_crosses _ _ _ _ _ hI hP hk1 hk2 hne) dT_crossing_28 rfl rfl rfl rfl rfl (Nat.le_of_ble_eq_true rfl) (Nat.le_of_ble_eq_true rfl) ?_
          rintro _ _ ⟨rfl, J1, B1, rfl, h1, e16, hal⟩
          refine aw_iload_n dT_crossing_31 rfl ?_
          refine aw_aload_r dT_crossing_32 rfl ?_
          refine aw_get fg_T_125 dT_crossing_33 rfl rfl ?_
          rw [e16]
          refine aw_icmp_ge (tgt := 48) dT_crossing_36 (by decide) (fun c36 => ?_) (fun c36 => ?_)
          · refine aw_iconst (v := (-1)) dT_crossing_48 (by decide) ?_
            exact aw_iret rfl dT_crossing_49 (by unfold sp_crossing; rw [cif_f (fun q => by rw [rn_n (by omega), rn_n (by omega)] at q; rw [le_T, nI_toInt (by unfold crossL; omega)] at c36; omega)]; exact ⟨rfl, J1, B1, rfl, h1⟩)
          · have hj : k.toInt < ((crossL N V K k1 k2).length : Int) := by
              rw [← nI_toInt (n := (crossL N V K k1 k2).length) (by unfold crossL; omega)]
              rw [le_T] at c36; omega
            rw [le_T, z_0] at c20
            obtain ⟨j, hjl, rfl⟩ := in_ix (n := (crossL N V K k1 k2).length) (by unfold crossL; omega) c20 hj
            have hj40 : j < 40 := by unfold crossL at hjl; omega
            refine aw_aload_r dT_crossing_39 rfl ?_
            refine aw_get fg_T_47 dT_crossing_40 rfl rfl ?_
            refine aw_iload_n dT_crossing_43 rfl ?_
            refine an_ldT dT_crossing_44 at_11 rfl hj40 (by decide) ?_
            rw [hal j hjl]
            refine aw_goto (tgt := 49) dT_crossing_45 (by decide) ?_
            exact aw_iret rfl dT_crossing_49 (by unfold sp_crossing; rw [rn_n (k := k1) (by omega), rn_n (k := k2) (by omega), cif_t ⟨⟨c16, p1, p8⟩, c20, hj⟩, rn_n (by omega)]; exact ⟨rfl, J1, B1, rfl, h1⟩)
        · refine aw_iconst (v := (-1)) dT_crossing_23 (by decide) ?_
          exact aw_iret rfl dT_crossing_24 (by unfold sp_crossing; rw [cif_f (fun q => c20 (by rw [le_T, z_0]; exact q.2.1))]; exact ⟨rfl, J, B, rfl, hI⟩)
    · refine aw_if_eq (tgt := 23) dT_crossing_11 (by decide) (fun _ => ?_) (fun q => absurd q (by decide))
      refine aw_iconst (v := (-1)) dT_crossing_23 (by decide) ?_
      exact aw_iret rfl dT_crossing_24 (by unfold sp_crossing; rw [cif_f (fun q => p8 q.1.2.2)]; exact ⟨rfl, J, B, rfl, hI⟩)
  · refine aw_if_eq (tgt := 23) dT_crossing_4 (by decide) (fun _ => ?_) (fun q => absurd q (by decide))
    refine aw_iconst (v := (-1)) dT_crossing_23 (by decide) ?_
    exact aw_iret rfl dT_crossing_24 (by unfold sp_crossing; rw [cif_f (fun q => p1 q.1.2.1)]; exact ⟨rfl, J, B, rfl, hI⟩)

theorem c_T_sureP (N : Nat → Nat) (V : Nat → Nat → Int32) (K : Nat → Int32) (J : Nat → Int32) (B : Nat → Nat → Int32) (hI : TInv N V K J B) (hP : PInv N V K) (a b s : Int32) : AM kT_sure 4 [.ref 0, .int a, .int b, .int s] (hT J B) (TR (sp_sure N V K a b s)) := (c_T_sure N V K J B hI a b s).mono (fun v h' q => by obtain ⟨rfl, rfl⟩ := q; exact ⟨rfl, J, B, rfl, hI⟩)
set_option maxHeartbeats 4000000 in
set_option maxRecDepth 100000 in
theorem l_M_read (N : Nat → Nat) (V : Nat → Nat → Int32) (K : Nat → Int32) (I : Nat → Int32) (A : Nat → Nat → Int32) (hI : CInv N V K I A) (hP : PInv N V K) {k k2 : Nat} (hk : k < 4) (hk2 : k2 < 4) : ∀ (n : Nat) (i : Nat) (I1 : Nat → Int32) (A1 : Nat → Nat → Int32), i + n = 40 → CInv N V K I1 A1 → I1 2001 = nI (crL (svF N V K k k2) i).1.length → AL (A1 21) (crL (svF N V K k k2) i).1 → A1 27 = A 27 → AN kM_read 3 (XQC N V K I A (crossL N V K k k2)) 10 [some (.ref 20), some (.ref (2 + 2 * k)), some (.ref (2 + 2 * k2)), some (.int (crL (svF N V K k k2) i).2), some (.int (nI i)), none] [] (hC I1 A1) := by
  intro n
  induction n with
  | zero =>
    intro i I1 A1 hin h2 h3 h4 h5
    refine aw_iload dM_read_10 rfl ?_
    refine aw_bipush (v := 40) dM_read_12 (by decide) ?_
    refine aw_icmp_ge (tgt := 80) dM_read_14 (by decide) (fun c14 => ?_) (fun c14 => absurd (by rw [show i = 40 by omega]; decide) c14)
    exact aw_vret rfl dM_read_80 ⟨rfl, I1, A1, rfl, h2, by rw [h3, show i = 40 by omega]; rfl, by rw [show i = 40 by omega] at h4; exact h4, h5⟩
  | succ n ih =>
    intro i I1 A1 hin h2 h3 h4 h5
    have hlen := crL_len (s := (svF N V K k k2)) i
    refine aw_iload dM_read_10 rfl ?_
    refine aw_bipush (v := 40) dM_read_12 (by decide) ?_
    refine aw_icmp_ge (tgt := 80) dM_read_14 (by decide) (fun c14 => absurd c14 (nI_ge (b := 40) (by omega) (by omega))) (fun c14 => ?_)
    refine aw_aload_r dM_read_17 rfl ?_
    refine aw_aload_r dM_read_18 rfl ?_
    refine aw_iload dM_read_19 rfl ?_
    refine an_callSr cg_M_19 (c_E_compareSurely _ _ _ _ _ h2 hP hk hk2 _) dM_read_21 rfl rfl (Nat.le_of_ble_eq_true rfl) (Nat.le_of_ble_eq_true rfl) ?_
    refine an_top (show sureR N V K k k2 (nI i) = (svF N V K k k2) i from rfl) ?_
    refine aw_istore dM_read_24 (by decide) ?_
    refine aw_iload dM_read_26 rfl ?_
    refine aw_bipush (v := (-2)) dM_read_28 (by decide) ?_
    refine aw_icmp_ne (tgt := 38) dM_read_30 (by decide) (fun c30 => ?_) (fun c30 => ?_)
    · refine aw_iload dM_read_38 rfl ?_
      refine aw_if_eq (tgt := 74) dM_read_40 (by decide) (fun c40 => ?_) (fun c40 => ?_)
      · refine aw_iinc dM_read_74 rfl (nI_1 i) (by decide) ?_
        refine aw_goto (tgt := 10) dM_read_77 (by decide) ?_
        have e := crL_0 (s := (svF N V K k k2)) (i := i) c40
        exact an_weak (ih (i + 1) I1 A1 (by omega) h2 (by rw [e]; exact h3) (by rw [e]; exact h4) h5) ⟨rfl, rfl, rfl, by rw [e]; rfl, rfl, trivial⟩
      · refine aw_iload_n dM_read_43 rfl ?_
        refine aw_iload dM_read_44 rfl ?_
        refine aw_ineg dM_read_46 ?_
        refine aw_icmp_ne (tgt := 71) dM_read_47 (by decide) (fun c47 => ?_) (fun c47 => ?_)
        · refine aw_iload dM_read_71 rfl ?_
          refine aw_istore_n dM_read_73 (by decide) ?_
          refine aw_iinc dM_read_74 rfl (nI_1 i) (by decide) ?_
          refine aw_goto (tgt := 10) dM_read_77 (by decide) ?_
          have e := crL_m (s := (svF N V K k k2)) (i := i) (sv_range.elim Or.inl (fun q => q.elim Or.inr (fun q => absurd (q.resolve_right c30) c40))) c47
          exact an_weak (ih (i + 1) I1 A1 (by omega) h2 (by rw [e]; exact h3) (by rw [e]; exact h4) h5) ⟨rfl, rfl, rfl, by rw [e]; rfl, rfl, trivial⟩
        · refine aw_aload_r dM_read_50 rfl ?_
          refine aw_get fg_M_9 dM_read_51 rfl rfl ?_
          refine aw_aload_r dM_read_54 rfl ?_
          refine aw_get fg_M_15 dM_read_55 rfl rfl ?_
          rw [h3]
          refine aw_iload dM_read_58 rfl ?_
          refine an_stC dM_read_60 ac_21 rfl (by omega) (by decide) ?_
          refine aw_aload_r dM_read_61 rfl ?_
          refine aw_dup dM_read_62 rfl ?_
          refine aw_get fg_M_15 dM_read_63 rfl rfl ?_
          rw [h3]
          refine aw_iconst (v := 1) dM_read_66 (by decide) ?_
          refine aw_iadd dM_read_67 ?_
          refine an_top (nI_1 _) ?_
          refine an_putM fp_M_15 dM_read_68 ?_
          refine aw_iload dM_read_71 rfl ?_
          refine aw_istore_n dM_read_73 (by decide) ?_
          refine aw_iinc dM_read_74 rfl (nI_1 i) (by decide) ?_
          refine aw_goto (tgt := 10) dM_read_77 (by decide) ?_
          have e := crL_h (s := (svF N V K k k2)) (i := i) (sv_range.elim Or.inl (fun q => q.elim Or.inr (fun q => absurd (q.resolve_right c30) c40))) c47
          exact an_weak (ih (i + 1) _ _ (by omega) (cinv_s (cinv_a h2 (by decide) _) (by decide) _) (by rw [e]; simp; exact rfl) (by rw [e]; exact h4.snoc i) h5) ⟨rfl, rfl, rfl, by rw [e]; rfl, rfl, trivial⟩
    · refine aw_iconst (v := 0) dM_read_33 (by decide) ?_
      refine aw_istore_n dM_read_34 (by decide) ?_
      refine aw_goto (tgt := 74) dM_read_35 (by decide) ?_
      refine aw_iinc dM_read_74 rfl (nI_1 i) (by decide) ?_
      refine aw_goto (tgt := 10) dM_read_77 (by decide) ?_
      have e := crL_u (s := (svF N V K k k2)) (i := i) c30
      exact an_weak (ih (i + 1) I1 A1 (by omega) h2 (by rw [e]; exact h3) (by rw [e]; exact h4) h5) ⟨rfl, rfl, rfl, by rw [e]; rfl, rfl, trivial⟩

set_option maxHeartbeats 4000000 in
set_option maxRecDepth 100000 in
theorem c_M_read (N : Nat → Nat) (V : Nat → Nat → Int32) (K : Nat → Int32) (I : Nat → Int32) (A : Nat → Nat → Int32) (hI : CInv N V K I A) (hP : PInv N V K) {k k2 : Nat} (hk : k < 4) (hk2 : k2 < 4) : AM kM_read 3 [.ref 20, .ref (2 + 2 * k), .ref (2 + 2 * k2)] (hC I A) (XQC N V K I A (crossL N V K k k2)) := by
  refine AMet.of (by decide) (by simp [Value.category]) (Nat.le_of_ble_eq_true rfl) ?_
  refine aw_aload_r dM_read_0 rfl ?_
  refine aw_iconst (v := 0) dM_read_1 (by decide) ?_
  refine an_putM fp_M_15 dM_read_2 ?_
  refine aw_iconst (v := 0) dM_read_5 (by decide) ?_
  refine aw_istore_n dM_read_6 (by decide) ?_
  refine aw_iconst (v := 0) dM_read_7 (by decide) ?_
  refine aw_istore dM_read_8 (by decide) ?_
  exact an_weak (l_M_read N V K I A hI hP hk hk2 40 0 _ _ (by omega) (cinv_s hI (by decide) 0) rfl AL.nil rfl) ⟨rfl, rfl, rfl, rfl, rfl, trivial⟩

def RMQ (N : Nat → Nat) (V : Nat → Nat → Int32) (K I : Nat → Int32) (A : Nat → Nat → Int32) (a b : Int32) : QT := fun v h' => (¬ (¬ a = b ∧ IsRow a ∧ IsRow b) ∧ v = some (.int 0) ∧ h' = hC I A) ∨ ((¬ a = b ∧ IsRow a ∧ IsRow b) ∧ v = some (.int 1) ∧ XQC N V K I A (crossL N V K (rn a) (rn b)) none h')
set_option maxHeartbeats 4000000 in
set_option maxRecDepth 100000 in
theorem c_E_readMeeting (N : Nat → Nat) (V : Nat → Nat → Int32) (K : Nat → Int32) (I : Nat → Int32) (A : Nat → Nat → Int32) (hI : CInv N V K I A) (hP : PInv N V K) (a b : Int32) : AM kE_readMeeting 4 [.ref 0, .int a, .int b] (hC I A) (RMQ N V K I A a b) := by
  refine AMet.of (by decide) (by simp [Value.category]) (Nat.le_of_ble_eq_true rfl) ?_
  refine aw_iload_n dE_readMeeting_0 rfl ?_
  refine aw_iload_n dE_readMeeting_1 rfl ?_
  refine an_callSb cg_E_119 (c_E_areTwoRows _ _ _) dE_readMeeting_2 rfl rfl (Nat.le_of_ble_eq_true rfl) (Nat.le_of_ble_eq_true rfl) (fun p2 => ?_) (fun p2 => ?_)
  · refine aw_if_ne (tgt := 10) dE_readMeeting_5 (by decide) (fun _ => ?_) (fun q => absurd q (by decide))
    obtain ⟨k, hk, rfl⟩ := isRow_k p2.2.1
    obtain ⟨k2, hk2, rfl⟩ := isRow_k p2.2.2
    refine aw_aload_r dE_readMeeting_10 rfl ?_
    refine aw_get fg_E_26 dE_readMeeting_11 rfl rfl ?_
    refine aw_aload_r dE_readMeeting_14 rfl ?_
    refine aw_get fg_E_11 dE_readMeeting_15 rfl rfl ?_
    refine aw_iload_n dE_readMeeting_18 rfl ?_
    refine an_rows dE_readMeeting_19 rfl hk ?_
    refine aw_aload_r dE_readMeeting_20 rfl ?_
    refine aw_get fg_E_11 dE_readMeeting_21 rfl rfl ?_
    refine aw_iload_n dE_readMeeting_24 rfl ?_
    refine an_rows dE_readMeeting_25 rfl hk2 ?_
    refine an_callVx cg_E_183 (c_M_read _ _ _ _ _ hI hP hk hk2) dE_readMeeting_26 rfl rfl rfl rfl rfl (Nat.le_of_ble_eq_true rfl) (Nat.le_of_ble_eq_true rfl) ?_
    rintro _ _ ⟨rfl, I1, A1, rfl, h1, e16, hal, h27⟩
    refine aw_iconst (v := 1) dE_readMeeting_29 (by decide) ?_
    exact aw_zret rfl (Or.inr rfl) dE_readMeeting_30 (Or.inr ⟨p2, rfl, by rw [rn_n (by omega), rn_n (by omega)]; exact ⟨rfl, I1, A1, rfl, h1, e16, hal, h27⟩⟩)
  · refine aw_if_ne (tgt := 10) dE_readMeeting_5 (by decide) (fun q => absurd q (by decide)) (fun _ => ?_)
    refine aw_iconst (v := 0) dE_readMeeting_8 (by decide) ?_
    exact aw_zret rfl (Or.inl rfl) dE_readMeeting_9 (Or.inl ⟨p2, rfl, rfl⟩)

set_option maxHeartbeats 4000000 in
set_option maxRecDepth 100000 in
theorem c_E_sure (N : Nat → Nat) (V : Nat → Nat → Int32) (K : Nat → Int32) (I : Nat → Int32) (A : Nat → Nat → Int32) (hI : CInv N V K I A) (hP : PInv N V K) (a b s : Int32) : AM kE_sure 3 [.ref 0, .int a, .int b, .int s] (hC I A) (CR (sp_sure N V K a b s)) := by
  refine AMet.of (by decide) (by simp [Value.category]) (Nat.le_of_ble_eq_true rfl) ?_
  refine aw_iload_n dE_sure_0 rfl ?_
  refine aw_iload_n dE_sure_1 rfl ?_
  refine an_callSb cg_E_119 (c_E_areTwoRows _ _ _) dE_sure_2 rfl rfl (Nat.le_of_ble_eq_true rfl) (Nat.le_of_ble_eq_true rfl) (fun p2 => ?_) (fun p2 => ?_)
  · refine aw_if_eq (tgt := 27) dE_sure_5 (by decide) (fun q => absurd q (by decide)) (fun _ => ?_)
    obtain ⟨k, hk, rfl⟩ := isRow_k p2.2.1
    obtain ⟨k2, hk2, rfl⟩ := isRow_k p2.2.2
    refine aw_aload_r dE_sure_8 rfl ?_
    refine aw_get fg_E_11 dE_sure_9 rfl rfl ?_
    refine aw_iload_n dE_sure_12 rfl ?_
    refine an_rows dE_sure_13 rfl hk ?_
    refine aw_aload_r dE_sure_14 rfl ?_
    refine aw_get fg_E_11 dE_sure_15 rfl rfl ?_
    refine aw_iload_n dE_sure_18 rfl ?_
    refine an_rows dE_sure_19 rfl hk2 ?_
    refine aw_iload_n dE_sure_20 rfl ?_
    refine an_callSr cg_E_123 (c_E_compareSurely _ _ _ _ _ hI hP hk hk2 _) dE_sure_21 rfl rfl (Nat.le_of_ble_eq_true rfl) (Nat.le_of_ble_eq_true rfl) ?_
    refine aw_goto (tgt := 29) dE_sure_24 (by decide) ?_
    exact aw_iret rfl dE_sure_29 (by unfold sp_sure; rw [sureE_R hk hk2 (fun q => p2.1 (by rw [q]))]; exact ⟨rfl, I, A, rfl, hI⟩)
  · refine aw_if_eq (tgt := 27) dE_sure_5 (by decide) (fun _ => ?_) (fun q => absurd q (by decide))
    refine aw_bipush (v := (-2)) dE_sure_27 (by decide) ?_
    exact aw_iret rfl dE_sure_29 (by unfold sp_sure sureE; rw [cif_f (fun q => p2 ⟨q.2.2.1, q.1, q.2.1⟩)]; exact ⟨rfl, I, A, rfl, hI⟩)

set_option maxHeartbeats 4000000 in
set_option maxRecDepth 100000 in
theorem c_E_crossings (N : Nat → Nat) (V : Nat → Nat → Int32) (K : Nat → Int32) (I : Nat → Int32) (A : Nat → Nat → Int32) (hI : CInv N V K I A) (hP : PInv N V K) (a b : Int32) : AM kE_crossings 5 [.ref 0, .int a, .int b] (hC I A) (CR (sp_crossings N V K a b)) := by
  refine AMet.of (by decide) (by simp [Value.category]) (Nat.le_of_ble_eq_true rfl) ?_
  refine aw_aload_r dE_crossings_0 rfl ?_
  refine aw_iload_n dE_crossings_1 rfl ?_
  refine aw_iload_n dE_crossings_2 rfl ?_
  refine an_callVx cg_E_127 (c_E_readMeeting _ _ _ _ _ hI hP _ _) dE_crossings_3 rfl rfl rfl rfl rfl (Nat.le_of_ble_eq_true rfl) (Nat.le_of_ble_eq_true rfl) ?_
  rintro _ _ (⟨p3, rfl, rfl⟩ | ⟨p3, rfl, -, I1, A1, rfl, h1, e16, hal, h27⟩)
  · refine aw_if_eq (tgt := 19) dE_crossings_6 (by decide) (fun _ => ?_) (fun q => absurd q (by decide))
    refine aw_iconst (v := (-1)) dE_crossings_19 (by decide) ?_
    exact aw_iret rfl dE_crossings_20 (by unfold sp_crossings; rw [cif_f p3]; exact ⟨rfl, I, A, rfl, hI⟩)
  · refine aw_if_eq (tgt := 19) dE_crossings_6 (by decide) (fun q => absurd q (by decide)) (fun _ => ?_)
    refine aw_aload_r dE_crossings_9 rfl ?_
    refine aw_get fg_E_26 dE_crossings_10 rfl rfl ?_
    refine aw_get fg_E_130 dE_crossings_13 rfl rfl ?_
    show AN _ _ _ _ _ (.int (I1 2001) :: _) _
    rw [e16]
    refine aw_goto (tgt := 20) dE_crossings_16 (by decide) ?_
    exact aw_iret rfl dE_crossings_20 (by unfold sp_crossings; rw [cif_t p3]; exact ⟨rfl, I1, A1, rfl, h1⟩)

set_option maxHeartbeats 4000000 in
set_option maxRecDepth 100000 in
theorem c_E_crossing (N : Nat → Nat) (V : Nat → Nat → Int32) (K : Nat → Int32) (I : Nat → Int32) (A : Nat → Nat → Int32) (hI : CInv N V K I A) (hP : PInv N V K) (a b k : Int32) : AM kE_crossing 5 [.ref 0, .int a, .int b, .int k] (hC I A) (CR (sp_crossing N V K a b k)) := by
  refine AMet.of (by decide) (by simp [Value.category]) (Nat.le_of_ble_eq_true rfl) ?_
  refine aw_aload_r dE_crossing_0 rfl ?_
  refine aw_iload_n dE_crossing_1 rfl ?_
  refine aw_iload_n dE_crossing_2 rfl ?_
  refine an_callVx cg_E_127 (c_E_readMeeting _ _ _ _ _ hI hP _ _) dE_crossing_3 rfl rfl rfl rfl rfl (Nat.le_of_ble_eq_true rfl) (Nat.le_of_ble_eq_true rfl) ?_
  rintro _ _ (⟨p3, rfl, rfl⟩ | ⟨p3, rfl, -, I1, A1, rfl, h1, e16, hal, h27⟩)
  · refine aw_if_eq (tgt := 38) dE_crossing_6 (by decide) (fun _ => ?_) (fun q => absurd q (by decide))
    refine aw_iconst (v := (-1)) dE_crossing_38 (by decide) ?_
    exact aw_iret rfl dE_crossing_39 (by unfold sp_crossing; rw [cif_f (fun q => p3 q.1)]; exact ⟨rfl, I, A, rfl, hI⟩)
  · refine aw_if_eq (tgt := 38) dE_crossing_6 (by decide) (fun q => absurd q (by decide)) (fun _ => ?_)
    have hln : (crossL N V K (rn a) (rn b)).length ≤ 40 := crL_len _
    refine aw_iload_n dE_crossing_9 rfl ?_
    refine aw_iconst (v := 0) dE_crossing_10 (by decide) ?_
    refine aw_aload_r dE_crossing_11 rfl ?_
    refine aw_get fg_E_26 dE_crossing_12 rfl rfl ?_
    refine aw_get fg_E_130 dE_crossing_15 rfl rfl ?_
    show AN _ _ _ _ _ (.int (I1 2001) :: _) _
    rw [e16]
    refine aw_iconst (v := 1) dE_crossing_18 (by decide) ?_
    refine aw_isub dE_crossing_19 ?_
    refine an_callSb cg_E_82 (c_E_within _ _ _ _) dE_crossing_20 rfl rfl (Nat.le_of_ble_eq_true rfl) (Nat.le_of_ble_eq_true rfl) (fun p20 => ?_) (fun p20 => ?_)
    · refine aw_if_eq (tgt := 38) dE_crossing_23 (by decide) (fun q => absurd q (by decide)) (fun _ => ?_)
      rw [in_pred hln] at p20
      obtain ⟨j, hjl, rfl⟩ := in_ix (n := (crossL N V K (rn a) (rn b)).length) (by omega) p20.1 p20.2
      refine aw_aload_r dE_crossing_26 rfl ?_
      refine aw_get fg_E_26 dE_crossing_27 rfl rfl ?_
      refine aw_get fg_E_131 dE_crossing_30 rfl rfl ?_
      refine aw_iload_n dE_crossing_33 rfl ?_
      refine an_ldC dE_crossing_34 ac_21 rfl (by omega) (by decide) ?_
      rw [hal j hjl]
      refine aw_goto (tgt := 39) dE_crossing_35 (by decide) ?_
      exact aw_iret rfl dE_crossing_39 (by unfold sp_crossing; rw [cif_t ⟨p3, p20⟩, rn_n (k := j) (by omega)]; exact ⟨rfl, I1, A1, rfl, h1⟩)
    · refine aw_if_eq (tgt := 38) dE_crossing_23 (by decide) (fun _ => ?_) (fun q => absurd q (by decide))
      refine aw_iconst (v := (-1)) dE_crossing_38 (by decide) ?_
      exact aw_iret rfl dE_crossing_39 (by unfold sp_crossing; rw [cif_f (fun q => p20 ((in_pred hln).mpr q.2))]; exact ⟨rfl, I1, A1, rfl, h1⟩)
