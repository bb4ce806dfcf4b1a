def TL (N : Nat → Nat) (V : Nat → Nat → Int32) (K : Nat → Int32) (s : Int32) (J : Nat → Int32) (B : Nat → Nat → Int32) : Prop := TInv N V K J B ∧ ∀ r, r < 4 → B 14 r = hgtE N V K (nI r) s
def Sc (c : Nat) (B : Nat → Nat → Int32) : Prop := ∀ r, r < 4 → B 12 r = nI (dig c r)
def lnc (N : Nat → Nat) (V : Nat → Nat → Int32) (K : Nat → Int32) (s : Int32) (c : Nat) : Prop := ∀ b, b < 4 → ∀ a, a < b → ¬ Cl (lhs N V s) (lg N V K s) (K 10).toInt c a b
def lpl (N : Nat → Nat) (V : Nat → Nat → Int32) (s : Int32) (c m : Nat) : Prop := ∀ r, m ≤ r → r < 4 → lhs N V s r ∨ dig c r = 0
def BSt (N : Nat → Nat) (V : Nat → Nat → Int32) (b : Option Nat) (B : Nat → Nat → Int32) : Prop := ∀ c, b = some c → ∀ r, r < 4 → B 13 r = nI (dig c r)
def LyQ (N : Nat → Nat) (V : Nat → Nat → Int32) (K : Nat → Int32) (s : Int32) : QT := fun v h' => v = some (.int (nI (lcst N V K s (lbest N V K s) 4))) ∧ ∃ J' B', h' = hT J' B' ∧ TL N V K s J' B' ∧ ∀ r, r < 4 → B' 13 r = nI (dig (lbest N V K s) r)
theorem lok_iff {N : Nat → Nat} {V : Nat → Nat → Int32} {K : Nat → Int32} {s : Int32} {c : Nat} : lok N V K s c 4 ↔ lpl N V s c 0 ∧ lnc N V K s c :=
  ⟨fun h => ⟨fun r _ hr => (h r hr).1, fun b hb => (h b hb).2⟩, fun h r hr => ⟨h.1 r (Nat.zero_le _) hr, h.2 r hr⟩⟩
theorem stp_no {N : Nat → Nat} {V : Nat → Nat → Int32} {K : Nat → Int32} {s : Int32} {c : Nat} {b : Option Nat} (h : ¬ lok N V K s c 4) : stp (lhs N V s) (lg N V K s) (K 10).toInt (lw K) (rn (K 11)) c b = b := cif_f (fun q => h q.1)
theorem lrun_s {N : Nat → Nat} {V : Nat → Nat → Int32} {K : Nat → Int32} {s : Int32} {c : Nat} : lrun N V K s (c + 1) 0 none = lrun N V K s 1 c (lrun N V K s c 0 none) := by
  show run _ _ _ _ _ _ _ _ = _
  rw [run_add c 1, Nat.zero_add]; rfl
theorem lrun_n {N : Nat → Nat} {V : Nat → Nat → Int32} {K : Nat → Int32} {s : Int32} {c : Nat} (h : ¬ lok N V K s c 4) : lrun N V K s (c + 1) 0 none = lrun N V K s c 0 none := lrun_s.trans (stp_no h)
theorem pw_div {c m : Nat} (hm : m < 4) : c / pw (m + 1) / 5 = c / pw m := by
  rw [pw_s hm, Nat.div_div_eq_div_mul, Nat.mul_comm]

set_option maxHeartbeats 4000000 in
set_option maxRecDepth 100000 in
theorem l_T_isLaid1 {Q : QT} (N : Nat → Nat) (V : Nat → Nat → Int32) (K : Nat → Int32) (hP : PInv N V K) (s : Int32) (h9 : ¬ K 9 = 0) (J : Nat → Int32) (B : Nat → Nat → Int32) (hL : TL N V K s J B) {c : Nat} (hc : Sc c B) {a : Nat} (ha4 : a < 4) (ha : lhs N V s a) (hd4 : ¬ dig c a = 4) (kt : (∀ b, b < 4 → a < b → ¬ Cl (lhs N V s) (lg N V K s) (K 10).toInt c a b) → AN kT_isLaid 4 Q 93 [some (.ref 0), some (.int s), some (.int (nI a)), none] [] (hT J B)) (kf : ¬ lnc N V K s c → Q (some (.int 0)) (hT J B)) : ∀ (n b : Nat), b + n = 4 → a < b → (∀ b2, b2 < b → a < b2 → ¬ Cl (lhs N V s) (lg N V K s) (K 10).toInt c a b2) → AN kT_isLaid 4 Q 33 [some (.ref 0), some (.int s), some (.int (nI a)), some (.int (nI b))] [] (hT J B) := by
  intro n
  induction n with
  | zero =>
    intro b hin hab hq
    have hb : b = 4 := by omega
    subst hb
    refine aw_iload_n dT_isLaid_33 rfl ?_
    refine aw_iconst (v := 4) dT_isLaid_34 (by decide) ?_
    refine aw_icmp_ge (tgt := 93) dT_isLaid_35 (by decide) (fun c35 => ?_) (fun c35 => absurd (by decide) c35)
    exact an_weak (kt hq) ⟨rfl, rfl, rfl, trivial⟩
  | succ n ih =>
    intro b hin hab hq
    refine aw_iload_n dT_isLaid_33 rfl ?_
    refine aw_iconst (v := 4) dT_isLaid_34 (by decide) ?_
    refine aw_icmp_ge (tgt := 93) dT_isLaid_35 (by decide) (fun c35 => absurd c35 (nI_ge (b := 4) (by omega) (by omega))) (fun c35 => ?_)
    refine aw_aload_r dT_isLaid_38 rfl ?_
    refine aw_iload_n dT_isLaid_39 rfl ?_
    refine aw_iload_n dT_isLaid_40 rfl ?_
    refine an_callVb cg_T_91 (c_T_hasValue _ _ _ _ _ hL.1 _ _) dT_isLaid_41 rfl rfl rfl rfl rfl (Nat.le_of_ble_eq_true rfl) (Nat.le_of_ble_eq_true rfl) (fun p41 => ?_) (fun p41 => ?_)
    · refine aw_if_eq (tgt := 87) dT_isLaid_44 (by decide) (fun q => absurd q (by decide)) (fun _ => ?_)
      refine aw_aload_r dT_isLaid_47 rfl ?_
      refine aw_get fg_T_56 dT_isLaid_48 rfl rfl ?_
      refine aw_iload_n dT_isLaid_51 rfl ?_
      refine an_ldT dT_isLaid_52 at_12 rfl (by omega) (by decide) ?_
      refine an_top (hc b (by omega)) ?_
      refine aw_aload_r dT_isLaid_53 rfl ?_
      refine aw_get fg_T_56 dT_isLaid_54 rfl rfl ?_
      refine aw_iload_n dT_isLaid_57 rfl ?_
      refine an_ldT dT_isLaid_58 at_12 rfl (by omega) (by decide) ?_
      refine an_top (hc a (by omega)) ?_
      refine aw_icmp_ne (tgt := 87) dT_isLaid_59 (by decide) (fun c59 => ?_) (fun c59 => ?_)
      · refine ic4_3 dT_isLaid_87 (nI_1 b) (by decide) ?_
        refine aw_goto (tgt := 33) dT_isLaid_90 (by decide) ?_
        exact an_weak (ih (b + 1) (by omega) (by omega) (fun b2 h2 h3 => by
          by_cases e : b2 = b
          · subst e; exact fun z => c59 (by rw [z.2.2.1])
          · exact hq b2 (by omega) h3)) ⟨rfl, rfl, rfl, rfl, trivial⟩
      · refine aw_aload_r dT_isLaid_62 rfl ?_
        refine aw_get fg_T_62 dT_isLaid_63 rfl rfl ?_
        refine aw_iload_n dT_isLaid_66 rfl ?_
        refine an_ldT dT_isLaid_67 at_14 rfl (by omega) (by decide) ?_
        refine an_top (hL.2 a (by omega)) ?_
        refine aw_aload_r dT_isLaid_68 rfl ?_
        refine aw_get fg_T_62 dT_isLaid_69 rfl rfl ?_
        refine aw_iload_n dT_isLaid_72 rfl ?_
        refine an_ldT dT_isLaid_73 at_14 rfl (by omega) (by decide) ?_
        refine an_top (hL.2 b (by omega)) ?_
        refine aw_isub dT_isLaid_74 ?_
        refine an_callSr cg_T_118 (c_T_size _ _) dT_isLaid_75 rfl rfl (Nat.le_of_ble_eq_true rfl) (Nat.le_of_ble_eq_true rfl) ?_
        refine aw_aload_r dT_isLaid_78 rfl ?_
        refine aw_get fg_T_50 dT_isLaid_79 rfl rfl ?_
        refine an_top (y := K 10) hL.1.2.2.2.1 ?_
        refine aw_icmp_ge (tgt := 87) dT_isLaid_82 (by decide) (fun c82 => ?_) (fun c82 => ?_)
        · refine ic4_3 dT_isLaid_87 (nI_1 b) (by decide) ?_
          refine aw_goto (tgt := 33) dT_isLaid_90 (by decide) ?_
          exact an_weak (ih (b + 1) (by omega) (by omega) (fun b2 h2 h3 => by
            by_cases e : b2 = b
            · subst e; exact fun z => absurd ⟨z.2.2.2.2.1, z.2.2.2.2.2⟩ ((siz_iff (hg_b hP h9 ha) (hg_b hP h9 p41)).mp c82)
            · exact hq b2 (by omega) h3)) ⟨rfl, rfl, rfl, rfl, trivial⟩
        · refine aw_iconst (v := 0) dT_isLaid_85 (by decide) ?_
          exact aw_zret rfl (Or.inl rfl) dT_isLaid_86 (kf (fun z => z b (by omega) a hab ⟨ha, p41, (nI_inj (by have := dig_lt c b; omega) (by have := dig_lt c a; omega) c59).symm, hd4, Classical.byContradiction fun w => c82 ((siz_iff (hg_b hP h9 ha) (hg_b hP h9 p41)).mpr (fun y => w y.1)), Classical.byContradiction fun w => c82 ((siz_iff (hg_b hP h9 ha) (hg_b hP h9 p41)).mpr (fun y => w y.2))⟩))
    · refine aw_if_eq (tgt := 87) dT_isLaid_44 (by decide) (fun _ => ?_) (fun q => absurd q (by decide))
      refine ic4_3 dT_isLaid_87 (nI_1 b) (by decide) ?_
      refine aw_goto (tgt := 33) dT_isLaid_90 (by decide) ?_
      exact an_weak (ih (b + 1) (by omega) (by omega) (fun b2 h2 h3 => by
        by_cases e : b2 = b
        · subst e; exact fun z => p41 z.2.1
        · exact hq b2 (by omega) h3)) ⟨rfl, rfl, rfl, rfl, trivial⟩

set_option maxHeartbeats 4000000 in
set_option maxRecDepth 100000 in
theorem l_T_isLaid2 (N : Nat → Nat) (V : Nat → Nat → Int32) (K : Nat → Int32) (hP : PInv N V K) (s : Int32) (h9 : ¬ K 9 = 0) (J : Nat → Int32) (B : Nat → Nat → Int32) (hL : TL N V K s J B) {c : Nat} (hc : Sc c B) : ∀ (n a : Nat), a + n = 4 → (∀ b, b < 4 → ∀ a2, a2 < b → a2 < a → ¬ Cl (lhs N V s) (lg N V K s) (K 10).toInt c a2 b) → AN kT_isLaid 4 (BQ (lnc N V K s c) (hT J B)) 2 [some (.ref 0), some (.int s), some (.int (nI a)), none] [] (hT J B) := by
  intro n
  induction n with
  | zero =>
    intro a hin hq
    have ha : a = 4 := by omega
    subst ha
    refine aw_iload_n dT_isLaid_2 rfl ?_
    refine aw_iconst (v := 4) dT_isLaid_3 (by decide) ?_
    refine aw_icmp_ge (tgt := 99) dT_isLaid_4 (by decide) (fun c4 => ?_) (fun c4 => absurd (by decide) c4)
    refine aw_iconst (v := 1) dT_isLaid_99 (by decide) ?_
    exact aw_zret rfl (Or.inr rfl) dT_isLaid_100 ⟨rfl, Or.inl ⟨fun b hb a ha => hq b hb a ha (by omega), rfl⟩⟩
  | succ n ih =>
    intro a hin hq
    have dl := dig_lt c a
    refine aw_iload_n dT_isLaid_2 rfl ?_
    refine aw_iconst (v := 4) dT_isLaid_3 (by decide) ?_
    refine aw_icmp_ge (tgt := 99) dT_isLaid_4 (by decide) (fun c4 => absurd c4 (nI_ge (b := 4) (by omega) (by omega))) (fun c4 => ?_)
    refine aw_aload_r dT_isLaid_7 rfl ?_
    refine aw_get fg_T_56 dT_isLaid_8 rfl rfl ?_
    refine aw_iload_n dT_isLaid_11 rfl ?_
    refine an_ldT dT_isLaid_12 at_12 rfl (by omega) (by decide) ?_
    refine an_top (hc a (by omega)) ?_
    refine aw_iconst (v := 4) dT_isLaid_13 (by decide) ?_
    refine aw_icmp_eq (tgt := 93) dT_isLaid_14 (by decide) (fun c14 => ?_) (fun c14 => ?_)
    · refine ic4_2 dT_isLaid_93 (nI_1 a) (by decide) ?_
      refine aw_goto (tgt := 2) dT_isLaid_96 (by decide) ?_
      exact an_weak (ih (a + 1) (by omega) (fun b hb a2 h2 h3 => by
        by_cases e : a2 = a
        · subst e; exact fun z => z.2.2.2.1 (nI_inj (b := 4) (by omega) (by omega) c14)
        · exact hq b hb a2 h2 (by omega))) ⟨rfl, rfl, rfl, trivial⟩
    · refine aw_aload_r dT_isLaid_17 rfl ?_
      refine aw_iload_n dT_isLaid_18 rfl ?_
      refine aw_iload_n dT_isLaid_19 rfl ?_
      refine an_callVb cg_T_91 (c_T_hasValue _ _ _ _ _ hL.1 _ _) dT_isLaid_20 rfl rfl rfl rfl rfl (Nat.le_of_ble_eq_true rfl) (Nat.le_of_ble_eq_true rfl) (fun p20 => ?_) (fun p20 => ?_)
      · refine aw_if_ne (tgt := 29) dT_isLaid_23 (by decide) (fun _ => ?_) (fun q => absurd q (by decide))
        refine aw_iload_n dT_isLaid_29 rfl ?_
        refine aw_iconst (v := 1) dT_isLaid_30 (by decide) ?_
        refine aw_iadd dT_isLaid_31 ?_
        refine an_top (nI_1 a) ?_
        refine si4_3 dT_isLaid_32 (by decide) ?_
        refine an_weak (l_T_isLaid1 N V K hP s h9 J B hL hc (by omega) p20 (fun q => c14 (by rw [q]; rfl)) (fun hall => ?_) (fun z => ⟨rfl, Or.inr ⟨z, rfl⟩⟩) (4 - (a + 1)) (a + 1) (by omega) (by omega) (fun b2 h2 h3 => by omega)) ⟨rfl, rfl, rfl, rfl, trivial⟩
        refine ic4_2 dT_isLaid_93 (nI_1 a) (by decide) ?_
        refine aw_goto (tgt := 2) dT_isLaid_96 (by decide) ?_
        exact an_weak (ih (a + 1) (by omega) (fun b hb a2 h2 h3 => by
          by_cases e : a2 = a
          · subst e; exact hall b hb h2
          · exact hq b hb a2 h2 (by omega))) ⟨rfl, rfl, rfl, trivial⟩
      · refine aw_if_ne (tgt := 29) dT_isLaid_23 (by decide) (fun q => absurd q (by decide)) (fun _ => ?_)
        refine aw_goto (tgt := 93) dT_isLaid_26 (by decide) ?_
        refine ic4_2 dT_isLaid_93 (nI_1 a) (by decide) ?_
        refine aw_goto (tgt := 2) dT_isLaid_96 (by decide) ?_
        exact an_weak (ih (a + 1) (by omega) (fun b hb a2 h2 h3 => by
          by_cases e : a2 = a
          · subst e; exact fun z => p20 z.1
          · exact hq b hb a2 h2 (by omega))) ⟨rfl, rfl, rfl, trivial⟩

set_option maxHeartbeats 4000000 in
set_option maxRecDepth 100000 in
theorem c_T_isLaid (N : Nat → Nat) (V : Nat → Nat → Int32) (K : Nat → Int32) (hP : PInv N V K) (s : Int32) (h9 : ¬ K 9 = 0) (J : Nat → Int32) (B : Nat → Nat → Int32) (hL : TL N V K s J B) {c : Nat} (hc : Sc c B) : AM kT_isLaid 4 [.ref 0, .int s] (hT J B) (BQ (lnc N V K s c) (hT J B)) := by
  refine AMet.of (by decide) (by simp [Value.category]) (Nat.le_of_ble_eq_true rfl) ?_
  show AN _ _ _ 0 [some _, some _, none, none] [] _
  refine aw_iconst (v := 0) dT_isLaid_0 (by decide) ?_
  refine si4_2 dT_isLaid_1 (by decide) ?_
  exact an_weak (l_T_isLaid2 N V K hP s h9 J B hL hc 4 0 (by omega) (fun b hb a2 h2 h3 => by omega)) ⟨rfl, rfl, rfl, trivial⟩

set_option maxHeartbeats 4000000 in
set_option maxRecDepth 100000 in
theorem l_T_slotCost (N : Nat → Nat) (V : Nat → Nat → Int32) (K : Nat → Int32) (hP : PInv N V K) (s : Int32) (h9 : ¬ K 9 = 0) (J : Nat → Int32) (B : Nat → Nat → Int32) (hL : TL N V K s J B) {c : Nat} (hc : Sc c B) : ∀ (n r : Nat), r + n = 4 → AN kT_slotCost 4 (RQ (nI (lcst N V K s c 4)) (hT J B)) 4 [some (.ref 0), some (.int s), some (.int (nI (lcst N V K s c r))), some (.int (nI r))] [] (hT J B) := by
  intro n
  induction n with
  | zero =>
    intro r hin
    have hr : r = 4 := by omega
    subst hr
    refine aw_iload_n dT_slotCost_4 rfl ?_
    refine aw_iconst (v := 4) dT_slotCost_5 (by decide) ?_
    refine aw_icmp_ge (tgt := 57) dT_slotCost_6 (by decide) (fun c6 => ?_) (fun c6 => absurd (by decide) c6)
    refine aw_iload_n dT_slotCost_57 rfl ?_
    exact aw_iret rfl dT_slotCost_58 ⟨rfl, rfl⟩
  | succ n ih =>
    intro r hin
    have dl := dig_lt c r
    refine aw_iload_n dT_slotCost_4 rfl ?_
    refine aw_iconst (v := 4) dT_slotCost_5 (by decide) ?_
    refine aw_icmp_ge (tgt := 57) dT_slotCost_6 (by decide) (fun c6 => absurd c6 (nI_ge (b := 4) (by omega) (by omega))) (fun c6 => ?_)
    refine aw_aload_r dT_slotCost_9 rfl ?_
    refine aw_iload_n dT_slotCost_10 rfl ?_
    refine aw_iload_n dT_slotCost_11 rfl ?_
    refine an_callVb cg_T_91 (c_T_hasValue _ _ _ _ _ hL.1 _ _) dT_slotCost_12 rfl rfl rfl rfl rfl (Nat.le_of_ble_eq_true rfl) (Nat.le_of_ble_eq_true rfl) (fun p12 => ?_) (fun p12 => ?_)
    · refine aw_if_eq (tgt := 51) dT_slotCost_15 (by decide) (fun q => absurd q (by decide)) (fun _ => ?_)
      refine aw_iload_n dT_slotCost_18 rfl ?_
      refine aw_aload_r dT_slotCost_19 rfl ?_
      refine aw_get fg_T_56 dT_slotCost_20 rfl rfl ?_
      refine aw_iload_n dT_slotCost_23 rfl ?_
      refine an_ldT dT_slotCost_24 at_12 rfl (by omega) (by decide) ?_
      refine an_top (hc r (by omega)) ?_
      refine aw_iconst (v := 4) dT_slotCost_25 (by decide) ?_
      refine aw_icmp_ne (tgt := 38) dT_slotCost_26 (by decide) (fun c26 => ?_) (fun c26 => ?_)
      · refine aw_aload_r dT_slotCost_38 rfl ?_
        refine aw_get fg_T_56 dT_slotCost_39 rfl rfl ?_
        refine aw_iload_n dT_slotCost_42 rfl ?_
        refine an_ldT dT_slotCost_43 at_12 rfl (by omega) (by decide) ?_
        refine an_top (hc r (by omega)) ?_
        refine aw_aload_r dT_slotCost_44 rfl ?_
        refine aw_get fg_T_53 dT_slotCost_45 rfl rfl ?_
        refine an_top (y := nI (rn (K 11))) (hL.1.2.2.2.2.1.trans (lt_n hP)) ?_
        refine aw_imul dT_slotCost_48 ?_
        refine an_top (pk_mul _ _) ?_
        refine aw_iadd dT_slotCost_49 ?_
        refine an_top (nI_add _ _) ?_
        refine si4_2 dT_slotCost_50 (by decide) ?_
        refine ic4_3 dT_slotCost_51 (nI_1 r) (by decide) ?_
        refine aw_goto (tgt := 4) dT_slotCost_54 (by decide) ?_
        have ec := (show lcst N V K s c (r + 1) = lcst N V K s c r + dig c r * rn (K 11) by unfold lcst; simp only [cst]; rw [cif_t (show lhs N V s r from p12), if_neg (fun q => c26 (by rw [q]; rfl))])
        exact an_weak (ih (r + 1) (by omega)) ⟨rfl, rfl, by rw [ec]; rfl, rfl, trivial⟩
      · refine aw_aload_r dT_slotCost_29 rfl ?_
        refine aw_get fg_T_19 dT_slotCost_30 rfl rfl ?_
        refine aw_iload_n dT_slotCost_33 rfl ?_
        refine an_ldT dT_slotCost_34 at_4 rfl (by omega) (by decide) ?_
        refine an_top (y := nI (lw K r)) ((hL.1.1 r (by omega)).2.2.2.1.trans (lw_n hP (by omega))) ?_
        refine aw_goto (tgt := 49) dT_slotCost_35 (by decide) ?_
        refine aw_iadd dT_slotCost_49 ?_
        refine an_top (nI_add _ _) ?_
        refine si4_2 dT_slotCost_50 (by decide) ?_
        refine ic4_3 dT_slotCost_51 (nI_1 r) (by decide) ?_
        refine aw_goto (tgt := 4) dT_slotCost_54 (by decide) ?_
        have ec := (show lcst N V K s c (r + 1) = lcst N V K s c r + lw K r by unfold lcst; simp only [cst]; rw [cif_t (show lhs N V s r from p12), if_pos (nI_inj (b := 4) (by omega) (by omega) c26)])
        exact an_weak (ih (r + 1) (by omega)) ⟨rfl, rfl, by rw [ec]; rfl, rfl, trivial⟩
    · refine aw_if_eq (tgt := 51) dT_slotCost_15 (by decide) (fun _ => ?_) (fun q => absurd q (by decide))
      refine ic4_3 dT_slotCost_51 (nI_1 r) (by decide) ?_
      refine aw_goto (tgt := 4) dT_slotCost_54 (by decide) ?_
      have ec := (show lcst N V K s c (r + 1) = lcst N V K s c r from cst_void p12)
      exact an_weak (ih (r + 1) (by omega)) ⟨rfl, rfl, by rw [ec]; rfl, rfl, trivial⟩

set_option maxHeartbeats 4000000 in
set_option maxRecDepth 100000 in
theorem c_T_slotCost (N : Nat → Nat) (V : Nat → Nat → Int32) (K : Nat → Int32) (hP : PInv N V K) (s : Int32) (h9 : ¬ K 9 = 0) (J : Nat → Int32) (B : Nat → Nat → Int32) (hL : TL N V K s J B) {c : Nat} (hc : Sc c B) : AM kT_slotCost 4 [.ref 0, .int s] (hT J B) (RQ (nI (lcst N V K s c 4)) (hT J B)) := by
  refine AMet.of (by decide) (by simp [Value.category]) (Nat.le_of_ble_eq_true rfl) ?_
  show AN _ _ _ 0 [some _, some _, none, none] [] _
  refine aw_iconst (v := 0) dT_slotCost_0 (by decide) ?_
  refine si4_2 dT_slotCost_1 (by decide) ?_
  refine aw_iconst (v := 0) dT_slotCost_2 (by decide) ?_
  refine si4_3 dT_slotCost_3 (by decide) ?_
  exact an_weak (l_T_slotCost N V K hP s h9 J B hL hc 4 0 (by omega)) ⟨rfl, rfl, rfl, rfl, trivial⟩

set_option maxHeartbeats 4000000 in
set_option maxRecDepth 100000 in
theorem l_T_ly1 {Q : QT} (N : Nat → Nat) (V : Nat → Nat → Int32) (K : Nat → Int32) (hP : PInv N V K) (s : Int32) (h9 : ¬ K 9 = 0) (kk : ∀ J1 B1, TL N V K s J1 B1 → AN kT_laying 6 Q 25 [some (.ref 0), some (.int s), none, none, none, none, none] [] (hT J1 B1)) : ∀ (n r : Nat) (J : Nat → Int32) (B : Nat → Nat → Int32), r + n = 4 → TInv N V K J B → (∀ q, q < r → B 14 q = hgtE N V K (nI q) s) → AN kT_laying 6 Q 2 [some (.ref 0), some (.int s), some (.int (nI r)), none, none, none, none] [] (hT J B) := by
  intro n
  induction n with
  | zero =>
    intro r J B hin hI hq
    have hr : r = 4 := by omega
    subst hr
    refine aw_iload_n dT_laying_2 rfl ?_
    refine aw_iconst (v := 4) dT_laying_3 (by decide) ?_
    refine aw_icmp_ge (tgt := 25) dT_laying_4 (by decide) (fun c4 => ?_) (fun c4 => absurd (by decide) c4)
    exact an_weak (kk J B ⟨hI, hq⟩) ⟨rfl, rfl, trivial⟩
  | succ n ih =>
    intro r J B hin hI hq
    refine aw_iload_n dT_laying_2 rfl ?_
    refine aw_iconst (v := 4) dT_laying_3 (by decide) ?_
    refine aw_icmp_ge (tgt := 25) dT_laying_4 (by decide) (fun c4 => absurd c4 (nI_ge (b := 4) (by omega) (by omega))) (fun c4 => ?_)
    refine aw_aload_r dT_laying_7 rfl ?_
    refine aw_get fg_T_62 dT_laying_8 rfl rfl ?_
    refine aw_iload_n dT_laying_11 rfl ?_
    refine aw_aload_r dT_laying_12 rfl ?_
    refine aw_iload_n dT_laying_13 rfl ?_
    refine aw_iload_n dT_laying_14 rfl ?_
    refine an_callVx cg_T_148 (c_T_height N V K J B hI hP (nI r) s) dT_laying_15 rfl rfl rfl rfl rfl (Nat.le_of_ble_eq_true rfl) (Nat.le_of_ble_eq_true rfl) ?_
    rintro _ _ ⟨rfl, J1, rfl, hS⟩
    refine an_stT dT_laying_18 at_14 rfl (by omega) (by decide) ?_
    refine ic7_2 dT_laying_19 (nI_1 r) (by decide) ?_
    refine aw_goto (tgt := 2) dT_laying_22 (by decide) ?_
    exact an_weak (ih (r + 1) J1 _ (by omega) (by exact tinv_sl hI hS) (fun q h => kinF (g := fun r => hgtE N V K (nI r) s) hq q h)) ⟨rfl, rfl, rfl, trivial⟩

set_option maxHeartbeats 4000000 in
set_option maxRecDepth 100000 in
theorem l_T_ly2 {Q : QT} (N : Nat → Nat) (V : Nat → Nat → Int32) (K : Nat → Int32) (hP : PInv N V K) (s : Int32) (h9 : ¬ K 9 = 0) {c : Nat} (hcl : c < 625) {bv : Int32} (J : Nat → Int32) {b : Option Nat} (kk : ∀ (B1 : Nat → Nat → Int32) (x : Int32), TL N V K s J B1 → BSt N V b B1 → Sc c B1 → ((x = 1 ∧ lpl N V s c 0) ∨ (x = 0 ∧ ¬ lpl N V s c 0)) → AN kT_laying 6 Q 106 [some (.ref 0), some (.int s), some (.int bv), some (.int (nI c)), none, some (.int x), none] [] (hT J B1)) : ∀ (m : Nat) (B : Nat → Nat → Int32) (x : Int32), m ≤ 4 → TL N V K s J B → BSt N V b B → (∀ r, m ≤ r → r < 4 → B 12 r = nI (dig c r)) → ((x = 1 ∧ lpl N V s c m) ∨ (x = 0 ∧ ¬ lpl N V s c m)) → AN kT_laying 6 Q 46 [some (.ref 0), some (.int s), some (.int bv), some (.int (nI c)), some (.int (nI (c / pw m))), some (.int x), some (.int (nI m + (-1)))] [] (hT J B) := by
  intro m
  induction m with
  | zero =>
    intro B x hm hL hb hs hx
    refine aw_iload dT_laying_46 rfl ?_
    refine aw_if_lt (tgt := 106) dT_laying_48 (by decide) (fun c48 => ?_) (fun c48 => absurd (by decide) c48)
    exact an_weak (kk B x hL hb (fun r hr => hs r (Nat.zero_le _) hr) hx) ⟨rfl, rfl, rfl, rfl, rfl, trivial⟩
  | succ m ih =>
    intro B x hm hL hb hs hx
    have hdb : c / pw (m + 1) < 2 ^ 31 := by have := Nat.div_le_self c (pw (m + 1)); omega
    refine an_loc (L' := [some (.ref 0), some (.int s), some (.int bv), some (.int (nI c)), some (.int (nI (c / pw (m + 1)))), some (.int x), some (.int (nI m))]) (by rw [pk_m1]) ?_
    rcases hx with ⟨rfl, hx⟩ | ⟨rfl, hx⟩
    · refine aw_iload dT_laying_46 rfl ?_
      refine aw_if_lt (tgt := 106) dT_laying_48 (by decide) (fun c48 => absurd c48 (nI_pos (by omega))) (fun c48 => ?_)
      refine aw_aload_r dT_laying_51 rfl ?_
      refine aw_get fg_T_56 dT_laying_52 rfl rfl ?_
      refine aw_iload dT_laying_55 rfl ?_
      refine aw_iload dT_laying_57 rfl ?_
      refine aw_iconst (v := 5) dT_laying_59 (by decide) ?_
      refine aw_irem dT_laying_60 (by decide) ?_
      refine an_top (y := nI (dig c m)) (pk_rem (d := 5) hdb (by decide) (by decide)) ?_
      refine an_stT dT_laying_61 at_12 rfl (by omega) (by decide) ?_
      refine aw_iload dT_laying_62 rfl ?_
      refine aw_iconst (v := 5) dT_laying_64 (by decide) ?_
      refine aw_idiv dT_laying_65 (by decide) ?_
      refine an_top (y := nI (c / pw m)) ((pk_div (d := 5) hdb (by decide) (by decide)).trans (by rw [pw_div (by omega)])) ?_
      refine si7_4 dT_laying_66 (by decide) ?_
      refine aw_iload dT_laying_68 rfl ?_
      refine aw_if_eq (tgt := 97) dT_laying_70 (by decide) (fun q => absurd q (by decide)) (fun _ => ?_)
      refine aw_aload_r dT_laying_73 rfl ?_
      refine aw_iload dT_laying_74 rfl ?_
      refine aw_iload_n dT_laying_76 rfl ?_
      refine an_callVb cg_T_91 (c_T_hasValue _ _ _ _ _ (by exact hL.1) _ _) dT_laying_77 rfl rfl rfl rfl rfl (Nat.le_of_ble_eq_true rfl) (Nat.le_of_ble_eq_true rfl) (fun p77 => ?_) (fun p77 => ?_)
      · refine aw_if_ne (tgt := 93) dT_laying_80 (by decide) (fun _ => ?_) (fun q => absurd q (by decide))
        refine aw_iconst (v := 1) dT_laying_93 (by decide) ?_
        refine aw_goto (tgt := 98) dT_laying_94 (by decide) ?_
        refine si7_5 dT_laying_98 (by decide) ?_
        refine ic7_6 dT_laying_100 rfl (by decide) ?_
        refine aw_goto (tgt := 46) dT_laying_103 (by decide) ?_
        have hw : ((1 : Int32) = 1 ∧ lpl N V s c m) ∨ ((1 : Int32) = 0 ∧ ¬ lpl N V s c m) := Or.inl ⟨rfl, fun r h1 h2 => by
          by_cases e : r = m
          · subst e; exact Or.inl p77
          · exact hx r (by omega) h2⟩
        have hs2 : ∀ r, m ≤ r → r < 4 → upd (B 12) m (nI (dig c m)) r = nI (dig c r) := fun r h1 h2 => by
          by_cases e : r = m
          · subst e; exact pk_us
          · exact (pk_un e).trans (hs r (by omega) h2)
        exact an_weak (ih (va_up B 12 (upd (B 12) m (nI (dig c m)))) _ (by omega) (by exact hL) (by exact hb) (by exact hs2) hw) ⟨rfl, rfl, rfl, rfl, rfl, rfl, rfl, trivial⟩
      · refine aw_if_ne (tgt := 93) dT_laying_80 (by decide) (fun q => absurd q (by decide)) (fun _ => ?_)
        refine aw_aload_r dT_laying_83 rfl ?_
        refine aw_get fg_T_56 dT_laying_84 rfl rfl ?_
        refine aw_iload dT_laying_87 rfl ?_
        refine an_ldT dT_laying_89 at_12 rfl (by omega) (by decide) ?_
        refine an_top (y := nI (dig c m)) pk_us ?_
        refine aw_if_ne (tgt := 97) dT_laying_90 (by decide) (fun c90 => ?_) (fun c90 => ?_)
        · refine aw_iconst (v := 0) dT_laying_97 (by decide) ?_
          refine si7_5 dT_laying_98 (by decide) ?_
          refine ic7_6 dT_laying_100 rfl (by decide) ?_
          refine aw_goto (tgt := 46) dT_laying_103 (by decide) ?_
          have hw : ((0 : Int32) = 1 ∧ lpl N V s c m) ∨ ((0 : Int32) = 0 ∧ ¬ lpl N V s c m) := Or.inr ⟨rfl, fun z => (z m (Nat.le_refl _) (by omega)).elim p77 (fun y => c90 (by rw [y]; rfl))⟩
          have hs2 : ∀ r, m ≤ r → r < 4 → upd (B 12) m (nI (dig c m)) r = nI (dig c r) := fun r h1 h2 => by
            by_cases e : r = m
            · subst e; exact pk_us
            · exact (pk_un e).trans (hs r (by omega) h2)
          exact an_weak (ih (va_up B 12 (upd (B 12) m (nI (dig c m)))) _ (by omega) (by exact hL) (by exact hb) (by exact hs2) hw) ⟨rfl, rfl, rfl, rfl, rfl, rfl, rfl, trivial⟩
        · refine aw_iconst (v := 1) dT_laying_93 (by decide) ?_
          refine aw_goto (tgt := 98) dT_laying_94 (by decide) ?_
          refine si7_5 dT_laying_98 (by decide) ?_
          refine ic7_6 dT_laying_100 rfl (by decide) ?_
          refine aw_goto (tgt := 46) dT_laying_103 (by decide) ?_
          have hw : ((1 : Int32) = 1 ∧ lpl N V s c m) ∨ ((1 : Int32) = 0 ∧ ¬ lpl N V s c m) := Or.inl ⟨rfl, fun r h1 h2 => by
            by_cases e : r = m
            · subst e; exact Or.inr (nI_inj (b := 0) (by have := dig_lt c r; omega) (by decide) c90)
            · exact hx r (by omega) h2⟩
          have hs2 : ∀ r, m ≤ r → r < 4 → upd (B 12) m (nI (dig c m)) r = nI (dig c r) := fun r h1 h2 => by
            by_cases e : r = m
            · subst e; exact pk_us
            · exact (pk_un e).trans (hs r (by omega) h2)
          exact an_weak (ih (va_up B 12 (upd (B 12) m (nI (dig c m)))) _ (by omega) (by exact hL) (by exact hb) (by exact hs2) hw) ⟨rfl, rfl, rfl, rfl, rfl, rfl, rfl, trivial⟩
    · refine aw_iload dT_laying_46 rfl ?_
      refine aw_if_lt (tgt := 106) dT_laying_48 (by decide) (fun c48 => absurd c48 (nI_pos (by omega))) (fun c48 => ?_)
      refine aw_aload_r dT_laying_51 rfl ?_
      refine aw_get fg_T_56 dT_laying_52 rfl rfl ?_
      refine aw_iload dT_laying_55 rfl ?_
      refine aw_iload dT_laying_57 rfl ?_
      refine aw_iconst (v := 5) dT_laying_59 (by decide) ?_
      refine aw_irem dT_laying_60 (by decide) ?_
      refine an_top (y := nI (dig c m)) (pk_rem (d := 5) hdb (by decide) (by decide)) ?_
      refine an_stT dT_laying_61 at_12 rfl (by omega) (by decide) ?_
      refine aw_iload dT_laying_62 rfl ?_
      refine aw_iconst (v := 5) dT_laying_64 (by decide) ?_
      refine aw_idiv dT_laying_65 (by decide) ?_
      refine an_top (y := nI (c / pw m)) ((pk_div (d := 5) hdb (by decide) (by decide)).trans (by rw [pw_div (by omega)])) ?_
      refine si7_4 dT_laying_66 (by decide) ?_
      refine aw_iload dT_laying_68 rfl ?_
      refine aw_if_eq (tgt := 97) dT_laying_70 (by decide) (fun _ => ?_) (fun q => absurd q (by decide))
      refine aw_iconst (v := 0) dT_laying_97 (by decide) ?_
      refine si7_5 dT_laying_98 (by decide) ?_
      refine ic7_6 dT_laying_100 rfl (by decide) ?_
      refine aw_goto (tgt := 46) dT_laying_103 (by decide) ?_
      have hw : ((0 : Int32) = 1 ∧ lpl N V s c m) ∨ ((0 : Int32) = 0 ∧ ¬ lpl N V s c m) := Or.inr ⟨rfl, fun z => hx (fun r h1 h2 => z r (by omega) h2)⟩
      have hs2 : ∀ r, m ≤ r → r < 4 → upd (B 12) m (nI (dig c m)) r = nI (dig c r) := fun r h1 h2 => by
        by_cases e : r = m
        · subst e; exact pk_us
        · exact (pk_un e).trans (hs r (by omega) h2)
      exact an_weak (ih (va_up B 12 (upd (B 12) m (nI (dig c m)))) _ (by omega) (by exact hL) (by exact hb) (by exact hs2) hw) ⟨rfl, rfl, rfl, rfl, rfl, rfl, rfl, trivial⟩

set_option maxHeartbeats 4000000 in
set_option maxRecDepth 100000 in
theorem l_T_ly3 {Q : QT} (N : Nat → Nat) (V : Nat → Nat → Int32) (K : Nat → Int32) (hP : PInv N V K) (s : Int32) (h9 : ¬ K 9 = 0) {c : Nat} {bv : Int32} (J : Nat → Int32) (kk : ∀ B1, TL N V K s J B1 → BSt N V (some c) B1 → AN kT_laying 6 Q 166 [some (.ref 0), some (.int s), some (.int bv), some (.int (nI c)), none, none, none] [] (hT J B1)) : ∀ (n r : Nat) (B : Nat → Nat → Int32), r + n = 4 → TL N V K s J B → Sc c B → (∀ q, q < r → B 13 q = nI (dig c q)) → AN kT_laying 6 Q 140 [some (.ref 0), some (.int s), some (.int bv), some (.int (nI c)), none, none, some (.int (nI r))] [] (hT J B) := by
  intro n
  induction n with
  | zero =>
    intro r B hin hL hc hq
    have hr : r = 4 := by omega
    subst hr
    refine aw_iload dT_laying_140 rfl ?_
    refine aw_iconst (v := 4) dT_laying_142 (by decide) ?_
    refine aw_icmp_ge (tgt := 166) dT_laying_143 (by decide) (fun c143 => ?_) (fun c143 => absurd (by decide) c143)
    exact an_weak (kk B hL (fun c2 e => by cases e; exact hq)) ⟨rfl, rfl, rfl, rfl, trivial⟩
  | succ n ih =>
    intro r B hin hL hc hq
    refine aw_iload dT_laying_140 rfl ?_
    refine aw_iconst (v := 4) dT_laying_142 (by decide) ?_
    refine aw_icmp_ge (tgt := 166) dT_laying_143 (by decide) (fun c143 => absurd c143 (nI_ge (b := 4) (by omega) (by omega))) (fun c143 => ?_)
    refine aw_aload_r dT_laying_146 rfl ?_
    refine aw_get fg_T_59 dT_laying_147 rfl rfl ?_
    refine aw_iload dT_laying_150 rfl ?_
    refine aw_aload_r dT_laying_152 rfl ?_
    refine aw_get fg_T_56 dT_laying_153 rfl rfl ?_
    refine aw_iload dT_laying_156 rfl ?_
    refine an_ldT dT_laying_158 at_12 rfl (by omega) (by decide) ?_
    refine an_top (hc r (by omega)) ?_
    refine an_stT dT_laying_159 at_13 rfl (by omega) (by decide) ?_
    refine ic7_6 dT_laying_160 (nI_1 r) (by decide) ?_
    refine aw_goto (tgt := 140) dT_laying_163 (by decide) ?_
    exact an_weak (ih (r + 1) _ (by omega) (by exact hL) (by exact hc) (fun q h => kin1 hq q h)) ⟨rfl, rfl, rfl, rfl, rfl, trivial⟩

set_option maxHeartbeats 4000000 in
set_option maxRecDepth 100000 in
theorem l_T_ly4 (N : Nat → Nat) (V : Nat → Nat → Int32) (K : Nat → Int32) (hP : PInv N V K) (s : Int32) (h9 : ¬ K 9 = 0) (J : Nat → Int32) : ∀ (n c : Nat) (B : Nat → Nat → Int32), c + n = 625 → TL N V K s J B → BSt N V (lrun N V K s c 0 none) B → AN kT_laying 6 (LyQ N V K s) 30 [some (.ref 0), some (.int s), some (.int (lsv N V K s 1000000000 (lrun N V K s c 0 none))), some (.int (nI c)), none, none, none] [] (hT J B) := by
  intro n
  induction n with
  | zero =>
    intro c B hin hL hb
    have hr : c = 625 := by omega
    subst hr
    rw [lbest_some] at *
    refine aw_iload_n dT_laying_30 rfl ?_
    refine aw_sipush (v := 625) dT_laying_31 (by decide) ?_
    refine aw_icmp_ge (tgt := 172) dT_laying_34 (by decide) (fun c34 => ?_) (fun c34 => absurd (by decide) c34)
    refine aw_iload_n dT_laying_172 rfl ?_
    exact aw_iret rfl dT_laying_173 ⟨rfl, J, B, rfl, hL, hb _ rfl⟩
  | succ n ih =>
    intro c B hin hL hb
    refine aw_iload_n dT_laying_30 rfl ?_
    refine aw_sipush (v := 625) dT_laying_31 (by decide) ?_
    refine aw_icmp_ge (tgt := 172) dT_laying_34 (by decide) (fun c34 => absurd c34 (nI_ge (b := 625) (by omega) (by omega))) (fun c34 => ?_)
    refine aw_iload_n dT_laying_37 rfl ?_
    refine si7_4 dT_laying_38 (by decide) ?_
    refine aw_iconst (v := 1) dT_laying_40 (by decide) ?_
    refine si7_5 dT_laying_41 (by decide) ?_
    refine aw_iconst (v := 3) dT_laying_43 (by decide) ?_
    refine si7_6 dT_laying_44 (by decide) ?_
    refine an_weak (l_T_ly2 N V K hP s h9 (c := c) (by omega) (bv := (lsv N V K s 1000000000 (lrun N V K s c 0 none))) J (b := (lrun N V K s c 0 none)) (fun B1 x hL1 hb1 hc1 hx => ?_) 4 B 1 (by omega) hL hb (fun r h1 h2 => by omega) (Or.inl ⟨rfl, fun r h1 h2 => by omega⟩)) ⟨rfl, rfl, rfl, rfl, (by show some (some (Value.int (nI c))) = some (some (Value.int (nI (c / 1)))); rw [Nat.div_one]), rfl, rfl, trivial⟩
    rcases hx with ⟨rfl, hx⟩ | ⟨rfl, hx⟩
    · refine aw_iload dT_laying_106 rfl ?_
      refine aw_if_eq (tgt := 166) dT_laying_108 (by decide) (fun q => absurd q (by decide)) (fun _ => ?_)
      refine aw_aload_r dT_laying_111 rfl ?_
      refine aw_iload_n dT_laying_112 rfl ?_
      refine an_callVr cg_T_151 (c_T_slotCost N V K hP s h9 J B1 hL1 hc1) dT_laying_113 rfl rfl rfl rfl rfl (Nat.le_of_ble_eq_true rfl) (Nat.le_of_ble_eq_true rfl) ?_
      refine aw_iload_n dT_laying_116 rfl ?_
      refine aw_icmp_ge (tgt := 166) dT_laying_117 (by decide) (fun c117 => ?_) (fun c117 => ?_)
      · refine ic7_3 dT_laying_166 (nI_1 c) (by decide) ?_
        refine aw_goto (tgt := 30) dT_laying_169 (by decide) ?_
        have er : lrun N V K s (c + 1) 0 none = _ := lrun_s.trans (prune_ok hP (row := 4) (by rw [z_far]; omega) (Nat.le_refl _) (Nat.mod_one _) (Int32.not_lt.mpr c117))
        exact an_weak (ih (c + 1) B1 (by omega) hL1 (by rw [er]; exact hb1)) ⟨rfl, rfl, by rw [er]; rfl, rfl, trivial⟩
      · refine aw_aload_r dT_laying_120 rfl ?_
        refine aw_iload_n dT_laying_121 rfl ?_
        refine an_callVb cg_T_154 (c_T_isLaid N V K hP s h9 J B1 hL1 hc1) dT_laying_122 rfl rfl rfl rfl rfl (Nat.le_of_ble_eq_true rfl) (Nat.le_of_ble_eq_true rfl) (fun p122 => ?_) (fun p122 => ?_)
        · refine aw_if_ne (tgt := 131) dT_laying_125 (by decide) (fun _ => ?_) (fun q => absurd q (by decide))
          refine aw_aload_r dT_laying_131 rfl ?_
          refine aw_iload_n dT_laying_132 rfl ?_
          refine an_callVr cg_T_151 (c_T_slotCost N V K hP s h9 J B1 hL1 hc1) dT_laying_133 rfl rfl rfl rfl rfl (Nat.le_of_ble_eq_true rfl) (Nat.le_of_ble_eq_true rfl) ?_
          refine si7_2 dT_laying_136 (by decide) ?_
          refine aw_iconst (v := 0) dT_laying_137 (by decide) ?_
          refine si7_6 dT_laying_138 (by decide) ?_
          have er : lrun N V K s (c + 1) 0 none = some c := lrun_s.trans (leaf_ok hP (m := 1000000000) (lok_iff.mpr ⟨hx, p122⟩) (Int32.not_le.mp c117))
          refine an_weak (l_T_ly3 N V K hP s h9 (c := c) (bv := nI (lcst N V K s c 4)) J (fun B2 hL2 hb2 => ?_) 4 0 B1 (by omega) hL1 hc1 (fun q h => by omega)) ⟨rfl, rfl, rfl, rfl, rfl, trivial⟩
          refine ic7_3 dT_laying_166 (nI_1 c) (by decide) ?_
          refine aw_goto (tgt := 30) dT_laying_169 (by decide) ?_
          exact an_weak (ih (c + 1) B2 (by omega) hL2 (by rw [er]; exact hb2)) ⟨rfl, rfl, by rw [er]; rfl, rfl, trivial⟩
        · refine aw_if_ne (tgt := 131) dT_laying_125 (by decide) (fun q => absurd q (by decide)) (fun _ => ?_)
          refine aw_goto (tgt := 166) dT_laying_128 (by decide) ?_
          refine ic7_3 dT_laying_166 (nI_1 c) (by decide) ?_
          refine aw_goto (tgt := 30) dT_laying_169 (by decide) ?_
          have er : lrun N V K s (c + 1) 0 none = _ := lrun_n (fun q => p122 (lok_iff.mp q).2)
          exact an_weak (ih (c + 1) B1 (by omega) hL1 (by rw [er]; exact hb1)) ⟨rfl, rfl, by rw [er]; rfl, rfl, trivial⟩
    · refine aw_iload dT_laying_106 rfl ?_
      refine aw_if_eq (tgt := 166) dT_laying_108 (by decide) (fun _ => ?_) (fun q => absurd q (by decide))
      refine ic7_3 dT_laying_166 (nI_1 c) (by decide) ?_
      refine aw_goto (tgt := 30) dT_laying_169 (by decide) ?_
      have er : lrun N V K s (c + 1) 0 none = _ := lrun_n (fun q => hx (lok_iff.mp q).1)
      exact an_weak (ih (c + 1) B1 (by omega) hL1 (by rw [er]; exact hb1)) ⟨rfl, rfl, by rw [er]; rfl, rfl, trivial⟩

set_option maxHeartbeats 4000000 in
set_option maxRecDepth 100000 in
theorem c_T_laying (N : Nat → Nat) (V : Nat → Nat → Int32) (K : Nat → Int32) (hP : PInv N V K) (s : Int32) (h9 : ¬ K 9 = 0) (J : Nat → Int32) (B : Nat → Nat → Int32) (hI : TInv N V K J B) : AM kT_laying 6 [.ref 0, .int s] (hT J B) (LyQ N V K s) := by
  refine AMet.of (by decide) (by simp [Value.category]) (Nat.le_of_ble_eq_true rfl) ?_
  show AN _ _ _ 0 [some _, some _, none, none, none, none, none] [] _
  refine aw_iconst (v := 0) dT_laying_0 (by decide) ?_
  refine si7_2 dT_laying_1 (by decide) ?_
  refine an_weak (l_T_ly1 N V K hP s h9 (fun J1 B1 hL1 => ?_) 4 0 J B (by omega) hI (fun q h => by omega)) ⟨rfl, rfl, rfl, trivial⟩
  refine aw_ldc (v := 1000000000) (k_at 682 (by decide +kernel) (by decide +kernel)) dT_laying_25 ?_
  refine si7_2 dT_laying_27 (by decide) ?_
  refine aw_iconst (v := 0) dT_laying_28 (by decide) ?_
  refine si7_3 dT_laying_29 (by decide) ?_
  exact an_weak (l_T_ly4 N V K hP s h9 J1 625 0 B1 (by omega) hL1 (fun c e => by cases e)) ⟨rfl, rfl, rfl, rfl, trivial⟩

set_option maxHeartbeats 4000000 in
set_option maxRecDepth 100000 in
theorem c_T_lay (N : Nat → Nat) (V : Nat → Nat → Int32) (K : Nat → Int32) (J : Nat → Int32) (B : Nat → Nat → Int32) (hI : TInv N V K J B) (hP : PInv N V K) (s : Int32) : AM kT_lay 7 [.ref 0, .int s] (hT J B) (TR (sp_lay N V K s)) := by
  refine AMet.of (by decide) (by simp [Value.category]) (Nat.le_of_ble_eq_true rfl) ?_
  show AN _ _ _ 0 [some _, some _] [] _
  refine aw_aload_r dT_lay_0 rfl ?_
  refine aw_get fg_T_145 dT_lay_1 rfl rfl ?_
  refine an_top (y := K 9) hI.2.2.1 ?_
  refine aw_if_eq (tgt := 17) dT_lay_4 (by decide) (fun c4 => ?_) (fun c4 => ?_)
  · refine aw_iconst (v := (-1)) dT_lay_17 (by decide) ?_
    refine aw_goto (tgt := 26) dT_lay_18 (by decide) ?_
    exact aw_iret rfl dT_lay_26 (by unfold sp_lay; rw [cif_f (fun q => q.1 c4)]; exact ⟨rfl, J, B, rfl, hI⟩)
  · refine aw_iload_n dT_lay_7 rfl ?_
    refine aw_if_lt (tgt := 17) dT_lay_8 (by decide) (fun c8 => ?_) (fun c8 => ?_)
    · refine aw_iconst (v := (-1)) dT_lay_17 (by decide) ?_
      refine aw_goto (tgt := 26) dT_lay_18 (by decide) ?_
      exact aw_iret rfl dT_lay_26 (by unfold sp_lay; rw [cif_f (fun q => by rw [lt_T, z_0] at c8; have := q.2.1; omega)]; exact ⟨rfl, J, B, rfl, hI⟩)
    · refine aw_iload_n dT_lay_11 rfl ?_
      refine aw_bipush (v := 40) dT_lay_12 (by decide) ?_
      refine aw_icmp_lt (tgt := 21) dT_lay_14 (by decide) (fun c14 => ?_) (fun c14 => ?_)
      · refine aw_aload_r dT_lay_21 rfl ?_
        refine aw_iload_n dT_lay_22 rfl ?_
        refine an_callVx cg_T_157 (c_T_laying N V K hP s c4 J B hI) dT_lay_23 rfl rfl rfl rfl rfl (Nat.le_of_ble_eq_true rfl) (Nat.le_of_ble_eq_true rfl) ?_
        rintro _ _ ⟨rfl, J1, B1, rfl, hL1, hb1⟩
        exact aw_iret rfl dT_lay_26 (by unfold sp_lay; rw [cif_t ⟨c4, (by rw [lt_T, z_0] at c8; omega), (by rw [lt_T, z_40] at c14; exact c14)⟩]; exact ⟨rfl, J1, B1, rfl, hL1.1⟩)
      · refine aw_iconst (v := (-1)) dT_lay_17 (by decide) ?_
        refine aw_goto (tgt := 26) dT_lay_18 (by decide) ?_
        exact aw_iret rfl dT_lay_26 (by unfold sp_lay; rw [cif_f (fun q => by rw [lt_T, z_40] at c14; have := q.2.2; omega)]; exact ⟨rfl, J, B, rfl, hI⟩)

set_option maxHeartbeats 4000000 in
set_option maxRecDepth 100000 in
theorem c_T_slot (N : Nat → Nat) (V : Nat → Nat → Int32) (K : Nat → Int32) (J : Nat → Int32) (B : Nat → Nat → Int32) (hI : TInv N V K J B) (hP : PInv N V K) (r s : Int32) : AM kT_slot 7 [.ref 0, .int r, .int s] (hT J B) (TR (sp_slot N V K s r)) := by
  refine AMet.of (by decide) (by simp [Value.category]) (Nat.le_of_ble_eq_true rfl) ?_
  show AN _ _ _ 0 [some _, some _, some _] [] _
  refine aw_aload_r dT_slot_0 rfl ?_
  refine aw_get fg_T_145 dT_slot_1 rfl rfl ?_
  refine an_top (y := K 9) hI.2.2.1 ?_
  refine aw_if_eq (tgt := 16) dT_slot_4 (by decide) (fun c4 => ?_) (fun c4 => ?_)
  · refine aw_iconst (v := (-1)) dT_slot_16 (by decide) ?_
    exact aw_iret rfl dT_slot_17 (by unfold sp_slot; rw [cif_f (fun q => q.1.1 c4)]; exact ⟨rfl, J, B, rfl, hI⟩)
  · refine aw_aload_r dT_slot_7 rfl ?_
    refine aw_iload_n dT_slot_8 rfl ?_
    refine aw_iload_n dT_slot_9 rfl ?_
    refine an_callVb cg_T_91 (c_T_hasValue _ _ _ _ _ hI _ _) dT_slot_10 rfl rfl rfl rfl rfl (Nat.le_of_ble_eq_true rfl) (Nat.le_of_ble_eq_true rfl) (fun p10 => ?_) (fun p10 => ?_)
    · refine aw_if_ne (tgt := 18) dT_slot_13 (by decide) (fun _ => ?_) (fun q => absurd q (by decide))
      refine aw_aload_r dT_slot_18 rfl ?_
      refine aw_iload_n dT_slot_19 rfl ?_
      refine an_callVx cg_T_157 (c_T_laying N V K hP s c4 J B hI) dT_slot_20 rfl rfl rfl rfl rfl (Nat.le_of_ble_eq_true rfl) (Nat.le_of_ble_eq_true rfl) ?_
      rintro _ _ ⟨rfl, J1, B1, rfl, hL1, hb1⟩
      refine aw_pop dT_slot_23 rfl ?_
      obtain ⟨k, i, hk, hi, rfl, rfl, hv⟩ := id p10
      have hN := hI.n k hk
      refine aw_aload_r dT_slot_24 rfl ?_
      refine aw_get fg_T_59 dT_slot_25 rfl rfl ?_
      refine aw_iload_n dT_slot_28 rfl ?_
      refine an_ldT dT_slot_29 at_13 rfl hk (by decide) ?_
      refine an_top (hb1 k hk) ?_
      exact aw_iret rfl dT_slot_30 (by unfold sp_slot; rw [cif_t ⟨⟨c4, (by rw [nI_toInt (by omega)]; omega), (by rw [nI_toInt (by omega)]; omega)⟩, p10⟩, rn_n (by omega)]; exact ⟨rfl, J1, B1, rfl, hL1.1⟩)
    · refine aw_if_ne (tgt := 18) dT_slot_13 (by decide) (fun q => absurd q (by decide)) (fun _ => ?_)
      refine aw_iconst (v := (-1)) dT_slot_16 (by decide) ?_
      exact aw_iret rfl dT_slot_17 (by unfold sp_slot; rw [cif_f (fun q => p10 q.2)]; exact ⟨rfl, J, B, rfl, hI⟩)

set_option maxHeartbeats 4000000 in
set_option maxRecDepth 100000 in
theorem c_T_hears (N : Nat → Nat) (V : Nat → Nat → Int32) (K : Nat → Int32) (J : Nat → Int32) (B : Nat → Nat → Int32) (hI : TInv N V K J B) (hP : PInv N V K) (a b s : Int32) : AM kT_hears 7 [.ref 0, .int a, .int b, .int s] (hT J B) (TR (sp_hears N V K s a b)) := by
  refine AMet.of (by decide) (by simp [Value.category]) (Nat.le_of_ble_eq_true rfl) ?_
  show AN _ _ _ 0 [some _, some _, some _, some _, none, none] [] _
  refine aw_aload_r dT_hears_0 rfl ?_
  refine aw_get fg_T_145 dT_hears_1 rfl rfl ?_
  refine an_top (y := K 9) hI.2.2.1 ?_
  refine aw_if_eq (tgt := 36) dT_hears_4 (by decide) (fun c4 => ?_) (fun c4 => ?_)
  · refine aw_bipush (v := (-2)) dT_hears_36 (by decide) ?_
    exact aw_iret rfl dT_hears_38 (by unfold sp_hears; rw [cif_f (fun q => q.2.2.2.1 c4)]; exact ⟨rfl, J, B, rfl, hI⟩)
  · refine aw_iload_n dT_hears_7 rfl ?_
    refine an_callSb cg_T_72 (c_T_isRow _ _) dT_hears_8 rfl rfl (Nat.le_of_ble_eq_true rfl) (Nat.le_of_ble_eq_true rfl) (fun p8 => ?_) (fun p8 => ?_)
    · refine aw_if_eq (tgt := 36) dT_hears_11 (by decide) (fun q => absurd q (by decide)) (fun _ => ?_)
      refine aw_iload_n dT_hears_14 rfl ?_
      refine an_callSb cg_T_72 (c_T_isRow _ _) dT_hears_15 rfl rfl (Nat.le_of_ble_eq_true rfl) (Nat.le_of_ble_eq_true rfl) (fun p15 => ?_) (fun p15 => ?_)
      · refine aw_if_eq (tgt := 36) dT_hears_18 (by decide) (fun q => absurd q (by decide)) (fun _ => ?_)
        refine aw_iload_n dT_hears_21 rfl ?_
        refine aw_iload_n dT_hears_22 rfl ?_
        refine aw_icmp_eq (tgt := 36) dT_hears_23 (by decide) (fun c23 => ?_) (fun c23 => ?_)
        · refine aw_bipush (v := (-2)) dT_hears_36 (by decide) ?_
          exact aw_iret rfl dT_hears_38 (by unfold sp_hears; rw [cif_f (fun q => q.1 c23)]; exact ⟨rfl, J, B, rfl, hI⟩)
        · refine aw_iload_n dT_hears_26 rfl ?_
          refine aw_if_lt (tgt := 36) dT_hears_27 (by decide) (fun c27 => ?_) (fun c27 => ?_)
          · refine aw_bipush (v := (-2)) dT_hears_36 (by decide) ?_
            exact aw_iret rfl dT_hears_38 (by unfold sp_hears; rw [cif_f (fun q => by rw [lt_T, z_0] at c27; have := q.2.2.2.2.1; omega)]; exact ⟨rfl, J, B, rfl, hI⟩)
          · refine aw_iload_n dT_hears_30 rfl ?_
            refine aw_bipush (v := 40) dT_hears_31 (by decide) ?_
            refine aw_icmp_lt (tgt := 39) dT_hears_33 (by decide) (fun c33 => ?_) (fun c33 => ?_)
            · obtain ⟨k, hk, rfl⟩ := isRow_k p8
              obtain ⟨j, hj, rfl⟩ := isRow_k p15
              refine aw_aload_r dT_hears_39 rfl ?_
              refine aw_iload_n dT_hears_40 rfl ?_
              refine aw_iload_n dT_hears_41 rfl ?_
              refine an_callVb cg_T_91 (c_T_hasValue _ _ _ _ _ hI _ _) dT_hears_42 rfl rfl rfl rfl rfl (Nat.le_of_ble_eq_true rfl) (Nat.le_of_ble_eq_true rfl) (fun p42 => ?_) (fun p42 => ?_)
              · refine aw_if_eq (tgt := 57) dT_hears_45 (by decide) (fun q => absurd q (by decide)) (fun _ => ?_)
                refine aw_aload_r dT_hears_48 rfl ?_
                refine aw_iload_n dT_hears_49 rfl ?_
                refine aw_iload_n dT_hears_50 rfl ?_
                refine an_callVb cg_T_91 (c_T_hasValue _ _ _ _ _ hI _ _) dT_hears_51 rfl rfl rfl rfl rfl (Nat.le_of_ble_eq_true rfl) (Nat.le_of_ble_eq_true rfl) (fun p51 => ?_) (fun p51 => ?_)
                · refine aw_if_ne (tgt := 59) dT_hears_54 (by decide) (fun _ => ?_) (fun q => absurd q (by decide))
                  refine aw_aload_r dT_hears_59 rfl ?_
                  refine aw_iload_n dT_hears_60 rfl ?_
                  refine an_callVx cg_T_157 (c_T_laying N V K hP s c4 J B hI) dT_hears_61 rfl rfl rfl rfl rfl (Nat.le_of_ble_eq_true rfl) (Nat.le_of_ble_eq_true rfl) ?_
                  rintro _ _ ⟨rfl, J1, B1, rfl, hL1, hb1⟩
                  refine aw_pop dT_hears_64 rfl ?_
                  refine aw_aload_r dT_hears_65 rfl ?_
                  refine aw_get fg_T_59 dT_hears_66 rfl rfl ?_
                  refine aw_iload_n dT_hears_69 rfl ?_
                  refine an_ldT dT_hears_70 at_13 rfl hk (by decide) ?_
                  refine an_top (hb1 k hk) ?_
                  refine aw_iconst (v := 4) dT_hears_71 (by decide) ?_
                  refine aw_icmp_eq (tgt := 85) dT_hears_72 (by decide) (fun c72 => ?_) (fun c72 => ?_)
                  · refine aw_iconst (v := 0) dT_hears_85 (by decide) ?_
                    exact aw_iret rfl dT_hears_86 (by unfold sp_hears; rw [cif_t ⟨c23, p8, p15, c4, (by rw [lt_T, z_0] at c27; omega), (by rw [lt_T, z_40] at c33; exact c33)⟩, cif_f (fun q => q.1.2 (by rw [rn_n (by omega)]; exact nI_inj (b := 4) (by have := dig_lt (lbest N V K s) k; omega) (by decide) c72))]; exact ⟨rfl, J1, B1, rfl, hL1.1⟩)
                  · refine aw_aload_r dT_hears_75 rfl ?_
                    refine aw_get fg_T_59 dT_hears_76 rfl rfl ?_
                    refine aw_iload_n dT_hears_79 rfl ?_
                    refine an_ldT dT_hears_80 at_13 rfl hj (by decide) ?_
                    refine an_top (hb1 j hj) ?_
                    refine aw_iconst (v := 4) dT_hears_81 (by decide) ?_
                    refine aw_icmp_ne (tgt := 87) dT_hears_82 (by decide) (fun c82 => ?_) (fun c82 => ?_)
                    · refine aw_aload_r dT_hears_87 rfl ?_
                      refine aw_get fg_T_145 dT_hears_88 rfl rfl ?_
                      refine an_top (y := K 9) hL1.1.2.2.1 ?_
                      refine aw_aload_r dT_hears_91 rfl ?_
                      refine aw_get fg_T_62 dT_hears_92 rfl rfl ?_
                      refine aw_iload_n dT_hears_95 rfl ?_
                      refine an_ldT dT_hears_96 at_14 rfl hk (by decide) ?_
                      refine an_top (hL1.2 k hk) ?_
                      refine aw_imul dT_hears_97 ?_
                      refine si6_4 dT_hears_98 (by decide) ?_
                      refine aw_aload_r dT_hears_100 rfl ?_
                      refine aw_get fg_T_145 dT_hears_101 rfl rfl ?_
                      refine an_top (y := K 9) hL1.1.2.2.1 ?_
                      refine aw_aload_r dT_hears_104 rfl ?_
                      refine aw_get fg_T_62 dT_hears_105 rfl rfl ?_
                      refine aw_iload_n dT_hears_108 rfl ?_
                      refine an_ldT dT_hears_109 at_14 rfl hj (by decide) ?_
                      refine an_top (hL1.2 j hj) ?_
                      refine aw_imul dT_hears_110 ?_
                      refine si6_5 dT_hears_111 (by decide) ?_
                      refine aw_iload dT_hears_113 rfl ?_
                      refine aw_aload_r dT_hears_115 rfl ?_
                      refine aw_get fg_T_16 dT_hears_116 rfl rfl ?_
                      refine aw_iload_n dT_hears_119 rfl ?_
                      refine an_ldT dT_hears_120 at_3 rfl hk (by decide) ?_
                      refine an_top (y := K k) (hL1.1.1 k hk).2.2.1 ?_
                      refine aw_isub dT_hears_121 ?_
                      refine aw_iload dT_hears_122 rfl ?_
                      refine aw_aload_r dT_hears_124 rfl ?_
                      refine aw_get fg_T_145 dT_hears_125 rfl rfl ?_
                      refine an_top (y := K 9) hL1.1.2.2.1 ?_
                      refine aw_iadd dT_hears_128 ?_
                      refine aw_iconst (v := 1) dT_hears_129 (by decide) ?_
                      refine aw_isub dT_hears_130 ?_
                      refine aw_aload_r dT_hears_131 rfl ?_
                      refine aw_get fg_T_16 dT_hears_132 rfl rfl ?_
                      refine aw_iload_n dT_hears_135 rfl ?_
                      refine an_ldT dT_hears_136 at_3 rfl hj (by decide) ?_
                      refine an_top (y := K j) (hL1.1.1 j hj).2.2.1 ?_
                      refine aw_iadd dT_hears_137 ?_
                      refine aw_icmp_le (tgt := 143) dT_hears_138 (by decide) (fun c138 => ?_) (fun c138 => ?_)
                      · refine aw_iload dT_hears_143 rfl ?_
                        refine aw_aload_r dT_hears_145 rfl ?_
                        refine aw_get fg_T_16 dT_hears_146 rfl rfl ?_
                        refine aw_iload_n dT_hears_149 rfl ?_
                        refine an_ldT dT_hears_150 at_3 rfl hj (by decide) ?_
                        refine an_top (y := K j) (hL1.1.1 j hj).2.2.1 ?_
                        refine aw_isub dT_hears_151 ?_
                        refine aw_iload dT_hears_152 rfl ?_
                        refine aw_aload_r dT_hears_154 rfl ?_
                        refine aw_get fg_T_145 dT_hears_155 rfl rfl ?_
                        refine an_top (y := K 9) hL1.1.2.2.1 ?_
                        refine aw_iadd dT_hears_158 ?_
                        refine aw_iconst (v := 1) dT_hears_159 (by decide) ?_
                        refine aw_isub dT_hears_160 ?_
                        refine aw_aload_r dT_hears_161 rfl ?_
                        refine aw_get fg_T_16 dT_hears_162 rfl rfl ?_
                        refine aw_iload_n dT_hears_165 rfl ?_
                        refine an_ldT dT_hears_166 at_3 rfl hk (by decide) ?_
                        refine an_top (y := K k) (hL1.1.1 k hk).2.2.1 ?_
                        refine aw_iadd dT_hears_167 ?_
                        refine aw_icmp_le (tgt := 175) dT_hears_168 (by decide) (fun c168 => ?_) (fun c168 => ?_)
                        · refine aw_iconst (v := 0) dT_hears_175 (by decide) ?_
                          exact aw_iret rfl dT_hears_176 (by unfold sp_hears; rw [cif_t ⟨c23, p8, p15, c4, (by rw [lt_T, z_0] at c27; omega), (by rw [lt_T, z_40] at c33; exact c33)⟩, cif_t ⟨⟨p42, fun q => c72 (by rw [rn_n (by omega)] at q; rw [q]; rfl)⟩, ⟨p51, fun q => c82 (by rw [rn_n (by omega)] at q; rw [q]; rfl)⟩⟩, cif_f (show ¬ Above N V K s (nI k) (nI j) by unfold Above; rw [rn_n (by omega), rn_n (by omega)]; exact Int32.not_lt.mpr c138), cif_f (show ¬ Above N V K s (nI j) (nI k) by unfold Above; rw [rn_n (by omega), rn_n (by omega)]; exact Int32.not_lt.mpr c168)]; exact ⟨rfl, J1, B1, rfl, hL1.1⟩)
                        · refine aw_iconst (v := (-1)) dT_hears_171 (by decide) ?_
                          refine aw_goto (tgt := 176) dT_hears_172 (by decide) ?_
                          exact aw_iret rfl dT_hears_176 (by unfold sp_hears; rw [cif_t ⟨c23, p8, p15, c4, (by rw [lt_T, z_0] at c27; omega), (by rw [lt_T, z_40] at c33; exact c33)⟩, cif_t ⟨⟨p42, fun q => c72 (by rw [rn_n (by omega)] at q; rw [q]; rfl)⟩, ⟨p51, fun q => c82 (by rw [rn_n (by omega)] at q; rw [q]; rfl)⟩⟩, cif_f (show ¬ Above N V K s (nI k) (nI j) by unfold Above; rw [rn_n (by omega), rn_n (by omega)]; exact Int32.not_lt.mpr c138), cif_t (show Above N V K s (nI j) (nI k) by unfold Above; rw [rn_n (by omega), rn_n (by omega)]; exact Int32.not_le.mp c168)]; exact ⟨rfl, J1, B1, rfl, hL1.1⟩)
                      · refine aw_iconst (v := 1) dT_hears_141 (by decide) ?_
                        exact aw_iret rfl dT_hears_142 (by unfold sp_hears; rw [cif_t ⟨c23, p8, p15, c4, (by rw [lt_T, z_0] at c27; omega), (by rw [lt_T, z_40] at c33; exact c33)⟩, cif_t ⟨⟨p42, fun q => c72 (by rw [rn_n (by omega)] at q; rw [q]; rfl)⟩, ⟨p51, fun q => c82 (by rw [rn_n (by omega)] at q; rw [q]; rfl)⟩⟩, cif_t (show Above N V K s (nI k) (nI j) by unfold Above; rw [rn_n (by omega), rn_n (by omega)]; exact Int32.not_le.mp c138)]; exact ⟨rfl, J1, B1, rfl, hL1.1⟩)
                    · refine aw_iconst (v := 0) dT_hears_85 (by decide) ?_
                      exact aw_iret rfl dT_hears_86 (by unfold sp_hears; rw [cif_t ⟨c23, p8, p15, c4, (by rw [lt_T, z_0] at c27; omega), (by rw [lt_T, z_40] at c33; exact c33)⟩, cif_f (fun q => q.2.2 (by rw [rn_n (by omega)]; exact nI_inj (b := 4) (by have := dig_lt (lbest N V K s) j; omega) (by decide) c82))]; exact ⟨rfl, J1, B1, rfl, hL1.1⟩)
                · refine aw_if_ne (tgt := 59) dT_hears_54 (by decide) (fun q => absurd q (by decide)) (fun _ => ?_)
                  refine aw_iconst (v := 0) dT_hears_57 (by decide) ?_
                  exact aw_iret rfl dT_hears_58 (by unfold sp_hears; rw [cif_t ⟨c23, p8, p15, c4, (by rw [lt_T, z_0] at c27; omega), (by rw [lt_T, z_40] at c33; exact c33)⟩, cif_f (fun q => p51 q.2.1)]; exact ⟨rfl, J, B, rfl, hI⟩)
              · refine aw_if_eq (tgt := 57) dT_hears_45 (by decide) (fun _ => ?_) (fun q => absurd q (by decide))
                refine aw_iconst (v := 0) dT_hears_57 (by decide) ?_
                exact aw_iret rfl dT_hears_58 (by unfold sp_hears; rw [cif_t ⟨c23, p8, p15, c4, (by rw [lt_T, z_0] at c27; omega), (by rw [lt_T, z_40] at c33; exact c33)⟩, cif_f (fun q => p42 q.1.1)]; exact ⟨rfl, J, B, rfl, hI⟩)
            · refine aw_bipush (v := (-2)) dT_hears_36 (by decide) ?_
              exact aw_iret rfl dT_hears_38 (by unfold sp_hears; rw [cif_f (fun q => by rw [lt_T, z_40] at c33; have := q.2.2.2.2.2; omega)]; exact ⟨rfl, J, B, rfl, hI⟩)
      · refine aw_if_eq (tgt := 36) dT_hears_18 (by decide) (fun _ => ?_) (fun q => absurd q (by decide))
        refine aw_bipush (v := (-2)) dT_hears_36 (by decide) ?_
        exact aw_iret rfl dT_hears_38 (by unfold sp_hears; rw [cif_f (fun q => p15 q.2.2.1)]; exact ⟨rfl, J, B, rfl, hI⟩)
    · refine aw_if_eq (tgt := 36) dT_hears_11 (by decide) (fun _ => ?_) (fun q => absurd q (by decide))
      refine aw_bipush (v := (-2)) dT_hears_36 (by decide) ?_
      exact aw_iret rfl dT_hears_38 (by unfold sp_hears; rw [cif_f (fun q => p8 q.2.1)]; exact ⟨rfl, J, B, rfl, hI⟩)

theorem c_T_heightR (N : Nat → Nat) (V : Nat → Nat → Int32) (K : Nat → Int32) (J : Nat → Int32) (B : Nat → Nat → Int32) (hI : TInv N V K J B) (hP : PInv N V K) (r s : Int32) : AM kT_height 5 [.ref 0, .int r, .int s] (hT J B) (TR (sp_height N V K r s)) :=
  (c_T_height N V K J B hI hP r s).mono (fun v h' q => by
    obtain ⟨rfl, J1, rfl, hS⟩ := q
    exact ⟨rfl, J1, B, rfl, tinv_sl hI hS⟩)
