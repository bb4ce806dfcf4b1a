set_option maxHeartbeats 4000000 in
set_option maxRecDepth 100000 in
theorem l_T_isTurn (N : Nat → Nat) (V : Nat → Nat → Int32) (K : Nat → Int32) (J : Nat → Int32) (B : Nat → Nat → Int32) (hI : TInv N V K J B) (hP : PInv N V K) {k s : Nat} (hk : k < 4) (hs40 : s < 1000) (e14 : J 14 = nI (turnL N V K k).length) (hal : AL (B 10) (turnL N V K k)) : ∀ (n i : Nat), i + n = (turnL N V K k).length → ¬ Pre (turnL N V K k) i s → AN kT_isTurn 8 (BX N V K (s ∈ (turnL N V K k))) 7 [some (.ref 0), some (.int (nI k)), some (.int (nI s)), some (.int (nI i))] [] (hT J B) := by
  have hln := turnL_len (N := N) (V := V) (K := K) (k := k)
  intro n
  induction n with
  | zero =>
    intro i hin hp
    have hi : i = (turnL N V K k).length := by omega
    subst hi
    refine aw_iload_n dT_isTurn_7 rfl ?_
    refine aw_aload_r dT_isTurn_8 rfl ?_
    refine aw_get fg_T_115 dT_isTurn_9 rfl rfl ?_
    refine an_top (y := nI (turnL N V K k).length) e14 ?_
    refine aw_icmp_ge (tgt := 33) dT_isTurn_12 (by decide) (fun c12 => ?_) (fun c12 => absurd (Int32.le_refl _) c12)
    refine aw_iconst (v := 0) dT_isTurn_33 (by decide) ?_
    exact aw_zret rfl (Or.inl rfl) dT_isTurn_34 ⟨J, B, rfl, hI, Or.inr ⟨fun q => hp (pre_all.mpr q), rfl⟩⟩
  | succ n ih =>
    intro i hin hp
    have hil : i < (turnL N V K k).length := by omega
    have hlt : (turnL N V K k).getD i 0 < 40 := by
      have q := mk_lt (w := 0) hI.n hk (Or.inl ⟨rfl, mem_getD hil⟩)
      have := hI.n k hk
      omega
    refine aw_iload_n dT_isTurn_7 rfl ?_
    refine aw_aload_r dT_isTurn_8 rfl ?_
    refine aw_get fg_T_115 dT_isTurn_9 rfl rfl ?_
    refine an_top (y := nI (turnL N V K k).length) e14 ?_
    refine aw_icmp_ge (tgt := 33) dT_isTurn_12 (by decide) (fun c12 => absurd c12 (nI_ge (by omega) (by omega))) (fun c12 => ?_)
    refine aw_aload_r dT_isTurn_15 rfl ?_
    refine aw_get fg_T_44 dT_isTurn_16 rfl rfl ?_
    refine aw_iload_n dT_isTurn_19 rfl ?_
    refine an_ldT dT_isTurn_20 at_10 rfl (by omega) (by decide) ?_
    rw [hal i hil]
    refine aw_iload_n dT_isTurn_21 rfl ?_
    refine aw_icmp_ne (tgt := 27) dT_isTurn_22 (by decide) (fun c22 => ?_) (fun c22 => ?_)
    · refine ic4_3 dT_isTurn_27 (nI_1 i) (by decide) ?_
      refine aw_goto (tgt := 7) dT_isTurn_30 (by decide) ?_
      exact an_weak (ih (i + 1) (by omega) (fun q => (pre_succ hil |>.mp q).elim hp (fun e => c22 (by rw [e])))) ⟨rfl, rfl, rfl, rfl, trivial⟩
    · refine aw_iconst (v := 1) dT_isTurn_25 (by decide) ?_
      exact aw_zret rfl (Or.inr rfl) dT_isTurn_26 ⟨J, B, rfl, hI, Or.inl ⟨by rw [← nI_inj (by omega) (by omega) c22]; exact mem_getD hil, rfl⟩⟩

set_option maxHeartbeats 4000000 in
set_option maxRecDepth 100000 in
theorem c_T_isTurn (N : Nat → Nat) (V : Nat → Nat → Int32) (K : Nat → Int32) (J : Nat → Int32) (B : Nat → Nat → Int32) (hI : TInv N V K J B) (hP : PInv N V K) {k s : Nat} (hk : k < 4) (hs40 : s < 1000) : AM kT_isTurn 8 [.ref 0, .int (nI k), .int (nI s)] (hT J B) (BX N V K (s ∈ (turnL N V K k))) := by
  refine AMet.of (by decide) (by simp [Value.category]) (Nat.le_of_ble_eq_true rfl) ?_
  show AN _ _ _ 0 [some _, some _, some _, none] [] _
  refine aw_aload_r dT_isTurn_0 rfl ?_
  refine aw_iload_n dT_isTurn_1 rfl ?_
  refine an_callVx cg_T_122 (c_T_turnsIn N V K _ _ hI hP hk) dT_isTurn_2 rfl rfl rfl rfl rfl (Nat.le_of_ble_eq_true rfl) (Nat.le_of_ble_eq_true rfl) ?_
  rintro _ _ ⟨rfl, J1, B1, rfl, hs, e14, hal⟩
  refine aw_iconst (v := 0) dT_isTurn_5 (by decide) ?_
  refine si4_3 dT_isTurn_6 (by decide) ?_
  exact an_weak (l_T_isTurn N V K J1 B1 hs.1 hP hk hs40 e14 hal (turnL N V K k).length 0 (by omega) pre_zero) ⟨rfl, rfl, rfl, rfl, trivial⟩

set_option maxHeartbeats 4000000 in
set_option maxRecDepth 100000 in
theorem l_T_isCr1 (N : Nat → Nat) (V : Nat → Nat → Int32) (K : Nat → Int32) (J : Nat → Int32) (B : Nat → Nat → Int32) (hI : TInv N V K J B) (hP : PInv N V K) {k b s : Nat} (hb : b < 4) (hbk : ¬ b = k) (hs40 : s < 1000) (e16 : J 16 = nI (crossL N V K k b).length) (hal : AL (B 11) (crossL N V K k b)) (kk : ¬ s ∈ (crossL N V K k b) → AN kT_isCross 7 (BX N V K (∃ b, b < 4 ∧ ¬ b = k ∧ s ∈ crossL N V K k b)) 52 [some (.ref 0), some (.int (nI k)), some (.int (nI s)), some (.int (nI b)), none] [] (hT J B)) : ∀ (n i : Nat), i + n = (crossL N V K k b).length → ¬ Pre (crossL N V K k b) i s → AN kT_isCross 7 (BX N V K (∃ b, b < 4 ∧ ¬ b = k ∧ s ∈ crossL N V K k b)) 24 [some (.ref 0), some (.int (nI k)), some (.int (nI s)), some (.int (nI b)), some (.int (nI i))] [] (hT J B) := by
  have hln : (crossL N V K k b).length ≤ 40 := crL_len _
  intro n
  induction n with
  | zero =>
    intro i hin hp
    have hi : i = (crossL N V K k b).length := by omega
    subst hi
    refine aw_iload dT_isCross_24 rfl ?_
    refine aw_aload_r dT_isCross_26 rfl ?_
    refine aw_get fg_T_125 dT_isCross_27 rfl rfl ?_
    refine an_top (y := nI (crossL N V K k b).length) e16 ?_
    refine aw_icmp_ge (tgt := 52) dT_isCross_30 (by decide) (fun c30 => ?_) (fun c30 => absurd (Int32.le_refl _) c30)
    exact an_weak (kk (fun q => hp (pre_all.mpr q))) ⟨rfl, rfl, rfl, rfl, trivial⟩
  | succ n ih =>
    intro i hin hp
    have hil : i < (crossL N V K k b).length := by omega
    have hlt := (crL_lt 40 _ (mem_getD hil)).1
    have hlt2 : (crossL N V K k b).getD i 0 < 40 := hlt
    refine aw_iload dT_isCross_24 rfl ?_
    refine aw_aload_r dT_isCross_26 rfl ?_
    refine aw_get fg_T_125 dT_isCross_27 rfl rfl ?_
    refine an_top (y := nI (crossL N V K k b).length) e16 ?_
    refine aw_icmp_ge (tgt := 52) dT_isCross_30 (by decide) (fun c30 => absurd c30 (nI_ge (by omega) (by omega))) (fun c30 => ?_)
    refine aw_aload_r dT_isCross_33 rfl ?_
    refine aw_get fg_T_47 dT_isCross_34 rfl rfl ?_
    refine aw_iload dT_isCross_37 rfl ?_
    refine an_ldT dT_isCross_39 at_11 rfl (by omega) (by decide) ?_
    rw [hal i hil]
    refine aw_iload_n dT_isCross_40 rfl ?_
    refine aw_icmp_ne (tgt := 46) dT_isCross_41 (by decide) (fun c41 => ?_) (fun c41 => ?_)
    · refine ic5_4 dT_isCross_46 (nI_1 i) (by decide) ?_
      refine aw_goto (tgt := 24) dT_isCross_49 (by decide) ?_
      exact an_weak (ih (i + 1) (by omega) (fun q => (pre_succ hil |>.mp q).elim hp (fun e => c41 (by rw [e])))) ⟨rfl, rfl, rfl, rfl, rfl, trivial⟩
    · refine aw_iconst (v := 1) dT_isCross_44 (by decide) ?_
      exact aw_zret rfl (Or.inr rfl) dT_isCross_45 ⟨J, B, rfl, hI, Or.inl ⟨⟨b, hb, hbk, by rw [← nI_inj (by omega) (by omega) c41]; exact mem_getD hil⟩, rfl⟩⟩

set_option maxHeartbeats 4000000 in
set_option maxRecDepth 100000 in
theorem l_T_isCr2 (N : Nat → Nat) (V : Nat → Nat → Int32) (K : Nat → Int32) (J : Nat → Int32) (B : Nat → Nat → Int32) (hI : TInv N V K J B) (hP : PInv N V K) {k s : Nat} (hk : k < 4) (hs40 : s < 1000) : ∀ (n b : Nat) (J1 : Nat → Int32) (B1 : Nat → Nat → Int32), b + n = 4 → TInv N V K J1 B1 → ¬ (∃ c, c < b ∧ ¬ c = k ∧ s ∈ crossL N V K k c) → AN kT_isCross 7 (BX N V K (∃ b, b < 4 ∧ ¬ b = k ∧ s ∈ crossL N V K k b)) 2 [some (.ref 0), some (.int (nI k)), some (.int (nI s)), some (.int (nI b)), none] [] (hT J1 B1) := by
  intro n
  induction n with
  | zero =>
    intro b J1 B1 hin h1 hp
    have hb : b = 4 := by omega
    subst hb
    refine aw_iload_n dT_isCross_2 rfl ?_
    refine aw_iconst (v := 4) dT_isCross_3 (by decide) ?_
    refine aw_icmp_ge (tgt := 58) dT_isCross_4 (by decide) (fun c4 => ?_) (fun c4 => absurd (by decide) c4)
    refine aw_iconst (v := 0) dT_isCross_58 (by decide) ?_
    exact aw_zret rfl (Or.inl rfl) dT_isCross_59 ⟨J1, B1, rfl, h1, Or.inr ⟨hp, rfl⟩⟩
  | succ n ih =>
    intro b J1 B1 hin h1 hp
    have hb : b < 4 := by omega
    refine aw_iload_n dT_isCross_2 rfl ?_
    refine aw_iconst (v := 4) dT_isCross_3 (by decide) ?_
    refine aw_icmp_ge (tgt := 58) dT_isCross_4 (by decide) (fun c4 => absurd c4 (nI_ge (b := 4) (by omega) (by omega))) (fun c4 => ?_)
    refine aw_iload_n dT_isCross_7 rfl ?_
    refine aw_iload_n dT_isCross_8 rfl ?_
    refine aw_icmp_ne (tgt := 15) dT_isCross_9 (by decide) (fun c9 => ?_) (fun c9 => ?_)
    · have hbk : ¬ b = k := fun e => c9 (by rw [e])
      refine aw_aload_r dT_isCross_15 rfl ?_
      refine aw_iload_n dT_isCross_16 rfl ?_
      refine aw_iload_n dT_isCross_17 rfl ?_
      refine an_callVx cg_T_131 (c_T_crosses N V K _ _ h1 hP hk hb (fun e => hbk e.symm)) dT_isCross_18 rfl rfl rfl rfl rfl (Nat.le_of_ble_eq_true rfl) (Nat.le_of_ble_eq_true rfl) ?_
      rintro _ _ ⟨rfl, J2, B2, rfl, h2, e16, hal⟩
      refine aw_iconst (v := 0) dT_isCross_21 (by decide) ?_
      refine si5_4 dT_isCross_22 (by decide) ?_
      refine an_weak (l_T_isCr1 N V K J2 B2 h2 hP hb hbk hs40 e16 hal (fun hns => ?_) (crossL N V K k b).length 0 (by omega) pre_zero) ⟨rfl, rfl, rfl, rfl, rfl, trivial⟩
      refine ic5_3 dT_isCross_52 (nI_1 b) (by decide) ?_
      refine aw_goto (tgt := 2) dT_isCross_55 (by decide) ?_
      exact an_weak (ih (b + 1) J2 B2 (by omega) h2 (fun ⟨c, q1, q2, q3⟩ => by
        by_cases e : c = b
        · subst e; exact hns q3
        · exact hp ⟨c, by omega, q2, q3⟩)) ⟨rfl, rfl, rfl, rfl, trivial⟩
    · refine aw_goto (tgt := 52) dT_isCross_12 (by decide) ?_
      refine ic5_3 dT_isCross_52 (nI_1 b) (by decide) ?_
      refine aw_goto (tgt := 2) dT_isCross_55 (by decide) ?_
      exact an_weak (ih (b + 1) J1 B1 (by omega) h1 (fun ⟨c, q1, q2, q3⟩ => hp ⟨c, by have := nI_inj (by omega) (by omega) c9; omega, q2, q3⟩)) ⟨rfl, rfl, rfl, rfl, trivial⟩

set_option maxHeartbeats 4000000 in
set_option maxRecDepth 100000 in
theorem c_T_isCross (N : Nat → Nat) (V : Nat → Nat → Int32) (K : Nat → Int32) (J : Nat → Int32) (B : Nat → Nat → Int32) (hI : TInv N V K J B) (hP : PInv N V K) {k s : Nat} (hk : k < 4) (hs40 : s < 1000) : AM kT_isCross 7 [.ref 0, .int (nI k), .int (nI s)] (hT J B) (BX N V K (∃ b, b < 4 ∧ ¬ b = k ∧ s ∈ crossL N V K k b)) := by
  refine AMet.of (by decide) (by simp [Value.category]) (Nat.le_of_ble_eq_true rfl) ?_
  show AN _ _ _ 0 [some _, some _, some _, none, none] [] _
  refine aw_iconst (v := 0) dT_isCross_0 (by decide) ?_
  refine si5_3 dT_isCross_1 (by decide) ?_
  exact an_weak (l_T_isCr2 N V K J B hI hP hk hs40 4 0 J B (by omega) hI (fun ⟨c, h, _⟩ => by omega)) ⟨rfl, rfl, rfl, rfl, trivial⟩

set_option maxHeartbeats 4000000 in
set_option maxRecDepth 100000 in
theorem g_T_seek50 {d : Nat} {Q : QT} (N : Nat → Nat) (V : Nat → Nat → Int32) (K : Nat → Int32) (J : Nat → Int32) (B : Nat → Nat → Int32) (hI : TInv N V K J B) (hP : PInv N V K) {k i : Nat} {on w : Int32} (hk : k < 4) (hi : i < N k) (hw0 : 0 ≤ w.toInt) (hw2 : w.toInt ≤ 2) (hd : 9 ≤ d) (kt : ∀ J2 B2, TInv N V K J2 B2 → Mk N V K k w i → AN kT_seek d Q 104 [some (.ref 0), some (.int on), some (.int w), some (.int (nI k)), some (.int (nI i)), none] [] (hT J2 B2)) (kf : ∀ J2 B2, TInv N V K J2 B2 → ¬ Mk N V K k w i → AN kT_seek d Q 113 [some (.ref 0), some (.int on), some (.int w), some (.int (nI k)), some (.int (nI i)), none] [] (hT J2 B2)) : AN kT_seek d Q 50 [some (.ref 0), some (.int on), some (.int w), some (.int (nI k)), some (.int (nI i)), none] [] (hT J B) := by
  have h40 := hI.n k hk
  rcases sw3 w with rfl | rfl | rfl | hout
  · refine aw_iload_n dT_seek_50 rfl ?_
    refine aw_if_ne (tgt := 64) dT_seek_51 (by decide) (fun q => absurd q (by decide)) (fun _ => ?_)
    refine aw_aload_r dT_seek_54 rfl ?_
    refine aw_iload_n dT_seek_55 rfl ?_
    refine aw_iload dT_seek_56 rfl ?_
    refine an_callVx cg_T_166 (c_T_isTurn N V K J B hI hP hk (by omega)) dT_seek_58 rfl rfl rfl rfl rfl (Nat.le_of_ble_eq_true rfl) (by omega) ?_
    rintro _ _ ⟨J2, B2, rfl, h2, ⟨hp, rfl⟩ | ⟨hp, rfl⟩⟩
    · refine aw_goto (tgt := 94) dT_seek_61 (by decide) ?_
      refine si6_5 dT_seek_94 (by decide) ?_
      refine aw_iload dT_seek_96 rfl ?_
      refine aw_if_ne (tgt := 104) dT_seek_98 (by decide) (fun _ => ?_) (fun q => absurd q (by decide))
      exact an_weak (kt J2 B2 h2 (Or.inl ⟨rfl, hp⟩)) ⟨rfl, rfl, rfl, rfl, rfl, trivial⟩
    · refine aw_goto (tgt := 94) dT_seek_61 (by decide) ?_
      refine si6_5 dT_seek_94 (by decide) ?_
      refine aw_iload dT_seek_96 rfl ?_
      refine aw_if_ne (tgt := 104) dT_seek_98 (by decide) (fun q => absurd q (by decide)) (fun _ => ?_)
      refine aw_goto (tgt := 113) dT_seek_101 (by decide) ?_
      exact an_weak (kf J2 B2 h2 (fun q => q.elim (fun z => hp z.2) (fun q => q.elim (fun z => absurd z.1 (by decide)) (fun z => absurd z.1 (by decide))))) ⟨rfl, rfl, rfl, rfl, rfl, trivial⟩
  · refine aw_iload_n dT_seek_50 rfl ?_
    refine aw_if_ne (tgt := 64) dT_seek_51 (by decide) (fun _ => ?_) (fun q => absurd q (by decide))
    refine aw_iload_n dT_seek_64 rfl ?_
    refine aw_iconst (v := 1) dT_seek_65 (by decide) ?_
    refine aw_icmp_ne (tgt := 79) dT_seek_66 (by decide) (fun q => absurd q (by decide)) (fun _ => ?_)
    refine aw_aload_r dT_seek_69 rfl ?_
    refine aw_iload_n dT_seek_70 rfl ?_
    refine aw_iload dT_seek_71 rfl ?_
    refine an_callVx cg_T_169 (c_T_isCross N V K J B hI hP hk (by omega)) dT_seek_73 rfl rfl rfl rfl rfl (Nat.le_of_ble_eq_true rfl) (by omega) ?_
    rintro _ _ ⟨J2, B2, rfl, h2, ⟨hp, rfl⟩ | ⟨hp, rfl⟩⟩
    · refine aw_goto (tgt := 94) dT_seek_76 (by decide) ?_
      refine si6_5 dT_seek_94 (by decide) ?_
      refine aw_iload dT_seek_96 rfl ?_
      refine aw_if_ne (tgt := 104) dT_seek_98 (by decide) (fun _ => ?_) (fun q => absurd q (by decide))
      exact an_weak (kt J2 B2 h2 (Or.inr (Or.inl ⟨rfl, hp⟩))) ⟨rfl, rfl, rfl, rfl, rfl, trivial⟩
    · refine aw_goto (tgt := 94) dT_seek_76 (by decide) ?_
      refine si6_5 dT_seek_94 (by decide) ?_
      refine aw_iload dT_seek_96 rfl ?_
      refine aw_if_ne (tgt := 104) dT_seek_98 (by decide) (fun q => absurd q (by decide)) (fun _ => ?_)
      refine aw_goto (tgt := 113) dT_seek_101 (by decide) ?_
      exact an_weak (kf J2 B2 h2 (fun q => q.elim (fun z => absurd z.1 (by decide)) (fun q => q.elim (fun z => hp z.2) (fun z => absurd z.1 (by decide))))) ⟨rfl, rfl, rfl, rfl, rfl, trivial⟩
  · refine aw_iload_n dT_seek_50 rfl ?_
    refine aw_if_ne (tgt := 64) dT_seek_51 (by decide) (fun _ => ?_) (fun q => absurd q (by decide))
    refine aw_iload_n dT_seek_64 rfl ?_
    refine aw_iconst (v := 1) dT_seek_65 (by decide) ?_
    refine aw_icmp_ne (tgt := 79) dT_seek_66 (by decide) (fun _ => ?_) (fun q => absurd q (by decide))
    refine aw_aload_r dT_seek_79 rfl ?_
    refine aw_iload_n dT_seek_80 rfl ?_
    refine aw_iload dT_seek_81 rfl ?_
    refine an_callVb cg_T_91 (c_T_hasValue N V K J B hI _ _) dT_seek_83 rfl rfl rfl rfl rfl (Nat.le_of_ble_eq_true rfl) (by omega) (fun p83 => ?_) (fun p83 => ?_)
    · refine aw_if_ne (tgt := 93) dT_seek_86 (by decide) (fun _ => ?_) (fun q => absurd q (by decide))
      refine aw_iconst (v := 0) dT_seek_93 (by decide) ?_
      refine si6_5 dT_seek_94 (by decide) ?_
      refine aw_iload dT_seek_96 rfl ?_
      refine aw_if_ne (tgt := 104) dT_seek_98 (by decide) (fun q => absurd q (by decide)) (fun _ => ?_)
      refine aw_goto (tgt := 113) dT_seek_101 (by decide) ?_
      exact an_weak (kf J B hI (fun q => q.elim (fun z => absurd z.1 (by decide)) (fun q => q.elim (fun z => absurd z.1 (by decide)) (fun z => by obtain ⟨i2, h2, e2, hv2⟩ := hv_i hI.n hk p83; rw [← nI_inj (by omega) (by omega) e2] at hv2; exact hv2 z.2.2)))) ⟨rfl, rfl, rfl, rfl, rfl, trivial⟩
    · refine aw_if_ne (tgt := 93) dT_seek_86 (by decide) (fun q => absurd q (by decide)) (fun _ => ?_)
      refine aw_iconst (v := 1) dT_seek_89 (by decide) ?_
      refine aw_goto (tgt := 94) dT_seek_90 (by decide) ?_
      refine si6_5 dT_seek_94 (by decide) ?_
      refine aw_iload dT_seek_96 rfl ?_
      refine aw_if_ne (tgt := 104) dT_seek_98 (by decide) (fun _ => ?_) (fun q => absurd q (by decide))
      exact an_weak (kt J B hI (Or.inr (Or.inr ⟨rfl, hi, Classical.byContradiction fun q => p83 ⟨k, i, hk, hi, rfl, rfl, q⟩⟩))) ⟨rfl, rfl, rfl, rfl, rfl, trivial⟩
  · omega

set_option maxHeartbeats 4000000 in
set_option maxRecDepth 100000 in
theorem l_T_seekF (N : Nat → Nat) (V : Nat → Nat → Int32) (K : Nat → Int32) (J : Nat → Int32) (B : Nat → Nat → Int32) (hI : TInv N V K J B) (hP : PInv N V K) {k : Nat} {on w : Int32} (hk : k < 4) (hw0 : 0 ≤ w.toInt) (hw2 : w.toInt ≤ 2) (hon : ¬ on = 0) : ∀ (n i : Nat) (J1 : Nat → Int32) (B1 : Nat → Nat → Int32), i + n = N k → TInv N V K J1 B1 → AN kT_seek 9 (fun v h' => ∃ E, v = some (.int E) ∧ E = fwd (Mk N V K k w) n i ∧ ∃ J2 B2, h' = hT J2 B2 ∧ TInv N V (if E = -1 then K else upd K 13 E) J2 B2) 40 [some (.ref 0), some (.int on), some (.int w), some (.int (nI k)), some (.int (nI i)), none] [] (hT J1 B1) := by
  intro n
  induction n with
  | zero =>
    intro i J1 B1 hin h1
    have h40 := hI.n k hk
    refine aw_aload_r dT_seek_40 rfl ?_
    refine aw_iload_n dT_seek_41 rfl ?_
    refine aw_iload dT_seek_42 rfl ?_
    refine an_callVb cg_T_76 (c_T_isStep N V K _ _ h1 _ _) dT_seek_44 rfl rfl rfl rfl rfl (Nat.le_of_ble_eq_true rfl) (Nat.le_of_ble_eq_true rfl) (fun q9 => absurd q9 (fun q => by obtain ⟨i2, h2, e2⟩ := stp_i hI.n hk q; have := nI_inj (by omega) (by omega) e2; omega)) (fun p44 => ?_)
    refine aw_if_eq (tgt := 130) dT_seek_47 (by decide) (fun _ => ?_) (fun q => absurd q (by decide))
    refine aw_iconst (v := (-1)) dT_seek_130 (by decide) ?_
    exact aw_iret rfl dT_seek_131 ⟨-1, rfl, rfl, J1, B1, rfl, h1⟩
  | succ n ih =>
    intro i J1 B1 hin h1
    have h40 := hI.n k hk
    have hi : i < N k := by omega
    refine aw_aload_r dT_seek_40 rfl ?_
    refine aw_iload_n dT_seek_41 rfl ?_
    refine aw_iload dT_seek_42 rfl ?_
    refine an_callVb cg_T_76 (c_T_isStep N V K _ _ h1 _ _) dT_seek_44 rfl rfl rfl rfl rfl (Nat.le_of_ble_eq_true rfl) (Nat.le_of_ble_eq_true rfl) (fun p44 => ?_) (fun q9 => absurd (⟨k, i, hk, hi, rfl, rfl⟩) q9)
    refine aw_if_eq (tgt := 130) dT_seek_47 (by decide) (fun q => absurd q (by decide)) (fun _ => ?_)
    refine g_T_seek50 N V K J1 B1 h1 hP hk hi hw0 hw2 (by decide) (fun J2 B2 h2 hp => ?_) (fun J2 B2 h2 hp => ?_)
    · refine aw_aload_r dT_seek_104 rfl ?_
      refine aw_iload dT_seek_105 rfl ?_
      refine an_putT fp_T_163 dT_seek_107 (by decide) ?_
      refine aw_iload dT_seek_110 rfl ?_
      exact aw_iret rfl dT_seek_112 ⟨nI i, rfl, (fwd_t hp).symm, _, _, rfl, by rw [if_neg (nI_nm1 (by omega))]; exact tinv_13 h2 _⟩
    · refine aw_iload dT_seek_113 rfl ?_
      refine aw_iload_n dT_seek_115 rfl ?_
      refine aw_if_eq (tgt := 123) dT_seek_116 (by decide) (fun c116 => absurd c116 hon) (fun c116 => ?_)
      refine aw_iconst (v := 1) dT_seek_119 (by decide) ?_
      refine aw_goto (tgt := 124) dT_seek_120 (by decide) ?_
      refine aw_iadd dT_seek_124 ?_
      refine an_top (nI_1 i) ?_
      refine si6_4 dT_seek_125 (by decide) ?_
      refine aw_goto (tgt := 40) dT_seek_127 (by decide) ?_
      rw [fwd_f hp]
      exact an_weak (ih (i + 1) J2 B2 (by omega) h2) ⟨rfl, rfl, rfl, rfl, rfl, trivial⟩

set_option maxHeartbeats 4000000 in
set_option maxRecDepth 100000 in
theorem l_T_seekB (N : Nat → Nat) (V : Nat → Nat → Int32) (K : Nat → Int32) (J : Nat → Int32) (B : Nat → Nat → Int32) (hI : TInv N V K J B) (hP : PInv N V K) {k : Nat} {on w : Int32} (hk : k < 4) (hw0 : 0 ≤ w.toInt) (hw2 : w.toInt ≤ 2) (hon : on = 0) : ∀ (m : Nat) (J1 : Nat → Int32) (B1 : Nat → Nat → Int32), m ≤ N k → TInv N V K J1 B1 → AN kT_seek 9 (fun v h' => ∃ E, v = some (.int E) ∧ E = bwd (Mk N V K k w) m ∧ ∃ J2 B2, h' = hT J2 B2 ∧ TInv N V (if E = -1 then K else upd K 13 E) J2 B2) 40 [some (.ref 0), some (.int on), some (.int w), some (.int (nI k)), some (.int (nI m - 1)), none] [] (hT J1 B1) := by
  intro m
  induction m with
  | zero =>
    intro J1 B1 hin h1
    have h40 := hI.n k hk
    refine aw_aload_r dT_seek_40 rfl ?_
    refine aw_iload_n dT_seek_41 rfl ?_
    refine aw_iload dT_seek_42 rfl ?_
    refine an_callVb cg_T_76 (c_T_isStep N V K _ _ h1 _ _) dT_seek_44 rfl rfl rfl rfl rfl (Nat.le_of_ble_eq_true rfl) (Nat.le_of_ble_eq_true rfl) (fun q9 => absurd q9 (fun q => by obtain ⟨i2, h2, e2⟩ := stp_i hI.n hk q; exact nI_nm1 (by omega) (e2.symm.trans (by decide)))) (fun p44 => ?_)
    refine aw_if_eq (tgt := 130) dT_seek_47 (by decide) (fun _ => ?_) (fun q => absurd q (by decide))
    refine aw_iconst (v := (-1)) dT_seek_130 (by decide) ?_
    exact aw_iret rfl dT_seek_131 ⟨-1, rfl, rfl, J1, B1, rfl, h1⟩
  | succ m ih =>
    intro J1 B1 hin h1
    have h40 := hI.n k hk
    have hi : m < N k := by omega
    rw [nI_pred m]
    refine aw_aload_r dT_seek_40 rfl ?_
    refine aw_iload_n dT_seek_41 rfl ?_
    refine aw_iload dT_seek_42 rfl ?_
    refine an_callVb cg_T_76 (c_T_isStep N V K _ _ h1 _ _) dT_seek_44 rfl rfl rfl rfl rfl (Nat.le_of_ble_eq_true rfl) (Nat.le_of_ble_eq_true rfl) (fun p44 => ?_) (fun q9 => absurd (⟨k, m, hk, hi, rfl, rfl⟩) q9)
    refine aw_if_eq (tgt := 130) dT_seek_47 (by decide) (fun q => absurd q (by decide)) (fun _ => ?_)
    refine g_T_seek50 N V K J1 B1 h1 hP hk hi hw0 hw2 (by decide) (fun J2 B2 h2 hp => ?_) (fun J2 B2 h2 hp => ?_)
    · refine aw_aload_r dT_seek_104 rfl ?_
      refine aw_iload dT_seek_105 rfl ?_
      refine an_putT fp_T_163 dT_seek_107 (by decide) ?_
      refine aw_iload dT_seek_110 rfl ?_
      exact aw_iret rfl dT_seek_112 ⟨nI m, rfl, (bwd_t hp).symm, _, _, rfl, by rw [if_neg (nI_nm1 (by omega))]; exact tinv_13 h2 _⟩
    · refine aw_iload dT_seek_113 rfl ?_
      refine aw_iload_n dT_seek_115 rfl ?_
      refine aw_if_eq (tgt := 123) dT_seek_116 (by decide) (fun c116 => ?_) (fun c116 => absurd hon c116)
      refine aw_iconst (v := (-1)) dT_seek_123 (by decide) ?_
      refine aw_iadd dT_seek_124 ?_
      refine an_top (Int32.sub_eq_add_neg _ _).symm ?_
      refine si6_4 dT_seek_125 (by decide) ?_
      refine aw_goto (tgt := 40) dT_seek_127 (by decide) ?_
      rw [bwd_f hp]
      exact an_weak (ih J2 B2 (by omega) h2) ⟨rfl, rfl, rfl, rfl, rfl, trivial⟩

theorem mk_out {N : Nat → Nat} {V : Nat → Nat → Int32} {K : Nat → Int32} {k : Nat} {w : Int32} {s : Nat} (h : w.toInt < 0 ∨ 2 < w.toInt) : ¬ Mk N V K k w s := by
  rintro (⟨rfl, -⟩ | ⟨rfl, -⟩ | ⟨rfl, -⟩)
  · rw [z_0] at h; omega
  · rw [z_1] at h; omega
  · rw [z_2] at h; omega
theorem bwd_none {P : Nat → Prop} : ∀ i, (∀ j, ¬ P j) → bwd P i = -1
  | 0, _ => rfl
  | i + 1, h => by rw [bwd_f (h i)]; exact bwd_none i h
theorem sp_seek_out {N : Nat → Nat} {V : Nat → Nat → Int32} {K : Nat → Int32} {on w : Int32} (h : w.toInt < 0 ∨ 2 < w.toInt) : sp_seek N V K on w = (-1, N, V, K) := by
  have e : skE N V K on w = -1 := by
    unfold skE
    split
    · exact bwd_none _ (fun j => mk_out h)
    · exact fwd_none _ _ (fun j _ => mk_out h)
  unfold sp_seek
  by_cases q : K 12 = -1
  · rw [cif_t q]
  · rw [cif_f q, e, if_pos rfl]

theorem an_mono {M : MI} {d : Nat} {Q Q' : QT} {pc : Nat} {L : List (Option Value)} {st : List Value} {h : List AC} (kk : AN M d Q pc L st h) (hq : ∀ v h', Q v h' → Q' v h') : AN M d Q' pc L st h := by
  intro p l e s m args below meth c b D κ N0 H locs ls C X T hT S
  obtain ⟨t, a1, o, b1, b2, ⟨⟨r, h', q1, q2, q3⟩, q4⟩, b3⟩ := kk p l e s m args below meth c b D κ N0 H locs ls C X T hT S
  exact ⟨t, a1, o, b1, b2, ⟨⟨r, h', q1, hq _ _ q2, q3⟩, q4⟩, b3⟩

set_option maxHeartbeats 4000000 in
set_option maxRecDepth 100000 in
theorem c_T_seek (N : Nat → Nat) (V : Nat → Nat → Int32) (K : Nat → Int32) (J : Nat → Int32) (B : Nat → Nat → Int32) (hI : TInv N V K J B) (hP : PInv N V K) (on w : Int32) : AM kT_seek 9 [.ref 0, .int on, .int w] (hT J B) (TR (sp_seek N V K on w)) := by
  refine AMet.of (by decide) (by simp [Value.category]) (Nat.le_of_ble_eq_true rfl) ?_
  show AN _ _ _ 0 [some _, some _, some _, none, none, none] [] _
  refine aw_aload_r dT_seek_0 rfl ?_
  refine aw_get fg_T_26 dT_seek_1 rfl rfl ?_
  show AN _ _ _ _ _ (.int (J 5) :: _) _
  rw [hI.2.2.2.2.2.1]
  refine aw_iconst (v := (-1)) dT_seek_4 (by decide) ?_
  refine aw_icmp_eq (tgt := 17) dT_seek_5 (by decide) (fun c5 => ?_) (fun c5 => ?_)
  · refine aw_iconst (v := (-1)) dT_seek_17 (by decide) ?_
    exact aw_iret rfl dT_seek_18 (by unfold sp_seek; rw [cif_t c5]; exact ⟨rfl, J, B, rfl, hI⟩)
  · refine aw_iload_n dT_seek_8 rfl ?_
    refine aw_if_lt (tgt := 17) dT_seek_9 (by decide) (fun c9 => ?_) (fun c9 => ?_)
    · refine aw_iconst (v := (-1)) dT_seek_17 (by decide) ?_
      exact aw_iret rfl dT_seek_18 (by rw [sp_seek_out (Or.inl (by rw [lt_T, z_0] at c9; exact c9))]; exact ⟨rfl, J, B, rfl, hI⟩)
    · refine aw_iload_n dT_seek_12 rfl ?_
      refine aw_iconst (v := 2) dT_seek_13 (by decide) ?_
      refine aw_icmp_le (tgt := 19) dT_seek_14 (by decide) (fun c14 => ?_) (fun c14 => ?_)
      · have hwk := hP.2.2.2.2.2.resolve_left c5
        obtain ⟨k, i, hk, hi, e12, e13⟩ := hwk
        have h40 := hI.n k hk
        refine aw_aload_r dT_seek_19 rfl ?_
        refine aw_get fg_T_26 dT_seek_20 rfl rfl ?_
        show AN _ _ _ _ _ (.int (J 5) :: _) _
        rw [hI.2.2.2.2.2.1]
        rw [e12]
        refine si6_3 dT_seek_23 (by decide) ?_
        refine aw_aload_r dT_seek_24 rfl ?_
        refine aw_get fg_T_163 dT_seek_25 rfl rfl ?_
        show AN _ _ _ _ _ (.int (J 6) :: _) _
        rw [hI.2.2.2.2.2.2, e13]
        refine aw_iload_n dT_seek_28 rfl ?_
        refine aw_if_eq (tgt := 36) dT_seek_29 (by decide) (fun c29 => ?_) (fun c29 => ?_)
        · refine aw_iconst (v := (-1)) dT_seek_36 (by decide) ?_
          refine aw_iadd dT_seek_37 ?_
          refine an_top (Int32.sub_eq_add_neg _ _).symm ?_
          refine si6_4 dT_seek_38 (by decide) ?_
          refine an_mono (an_weak (l_T_seekB N V K J B hI hP hk (by rw [lt_T, z_0] at c9; omega) (by rw [le_T, z_2] at c14; exact c14) c29 i J B (by omega) hI) ⟨rfl, rfl, rfl, rfl, rfl, trivial⟩) ?_
          rintro v h9 ⟨E, rfl, hE, J2, B2, rfl, h2⟩
          have e : skE N V K on w = E := by unfold skE; rw [if_pos c29, e12, e13, rn_n (by omega), rn_n (by omega), hE]
          unfold sp_seek
          rw [cif_f c5, e]
          exact ⟨rfl, J2, B2, rfl, h2⟩
        · refine aw_iconst (v := 1) dT_seek_32 (by decide) ?_
          refine aw_goto (tgt := 37) dT_seek_33 (by decide) ?_
          refine aw_iadd dT_seek_37 ?_
          refine an_top (nI_1 i) ?_
          refine si6_4 dT_seek_38 (by decide) ?_
          refine an_mono (an_weak (l_T_seekF N V K J B hI hP hk (by rw [lt_T, z_0] at c9; omega) (by rw [le_T, z_2] at c14; exact c14) c29 (N k - (i + 1)) (i + 1) J B (by omega) hI) ⟨rfl, rfl, rfl, rfl, rfl, trivial⟩) ?_
          rintro v h9 ⟨E, rfl, hE, J2, B2, rfl, h2⟩
          have e : skE N V K on w = E := by unfold skE; rw [if_neg c29, e12, e13, rn_n (by omega), rn_n (by omega), hE]; exact fwd_trunc _ _ _ (by omega) (fun j hj q => by have := mk_lt hI.n hk q; omega)
          unfold sp_seek
          rw [cif_f c5, e]
          exact ⟨rfl, J2, B2, rfl, h2⟩
      · refine aw_iconst (v := (-1)) dT_seek_17 (by decide) ?_
        exact aw_iret rfl dT_seek_18 (by rw [sp_seek_out (Or.inr (by rw [le_T, z_2] at c14; omega))]; exact ⟨rfl, J, B, rfl, hI⟩)
