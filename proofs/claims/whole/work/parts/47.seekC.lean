set_option maxHeartbeats 4000000 in
set_option maxRecDepth 100000 in
theorem l_E_markBehind (I : Nat → Int32) (A : Nat → Nat → Int32) {P : Nat → Prop} (hM : MKs (A 27) P) {x1 : Int32} : ∀ (n i : Nat), i + n = 40 → AN kE_markBehind 1 (RQ (fwd P n i) (hC I A)) 4 [some (.ref 0), some (.int x1), some (.int (nI i))] [] (hC I A) := by
  intro n
  induction n with
  | zero =>
    intro i hin
    have hi : i = 40 := by omega
    subst hi
    refine aw_iload_n dE_markBehind_4 rfl ?_
    refine aw_bipush (v := 40) dE_markBehind_5 (by decide) ?_
    refine aw_icmp_ge (tgt := 27) dE_markBehind_7 (by decide) (fun c7 => ?_) (fun c7 => absurd (by decide) c7)
    refine aw_iconst (v := (-1)) dE_markBehind_27 (by decide) ?_
    exact aw_iret rfl dE_markBehind_28 ⟨rfl, rfl⟩
  | succ n ih =>
    intro i hin
    rcases hM i (by omega) with ⟨hp, e27⟩ | ⟨hp, e27⟩
    · refine aw_iload_n dE_markBehind_4 rfl ?_
      refine aw_bipush (v := 40) dE_markBehind_5 (by decide) ?_
      refine aw_icmp_ge (tgt := 27) dE_markBehind_7 (by decide) (fun c7 => absurd c7 (nI_ge (b := 40) (by omega) (by omega))) (fun c7 => ?_)
      refine aw_aload_r dE_markBehind_10 rfl ?_
      refine aw_get fg_E_37 dE_markBehind_11 rfl rfl ?_
      refine aw_iload_n dE_markBehind_14 rfl ?_
      refine an_lzC dE_markBehind_15 ac_27 rfl (by omega) (by decide) ?_
      rw [e27]
      refine aw_if_eq (tgt := 21) dE_markBehind_16 (by decide) (fun c16 => absurd c16 (by decide)) (fun c16 => ?_)
      refine aw_iload_n dE_markBehind_19 rfl ?_
      exact aw_iret rfl dE_markBehind_20 ⟨rfl, by rw [fwd_t hp]⟩
    · refine aw_iload_n dE_markBehind_4 rfl ?_
      refine aw_bipush (v := 40) dE_markBehind_5 (by decide) ?_
      refine aw_icmp_ge (tgt := 27) dE_markBehind_7 (by decide) (fun c7 => absurd c7 (nI_ge (b := 40) (by omega) (by omega))) (fun c7 => ?_)
      refine aw_aload_r dE_markBehind_10 rfl ?_
      refine aw_get fg_E_37 dE_markBehind_11 rfl rfl ?_
      refine aw_iload_n dE_markBehind_14 rfl ?_
      refine an_lzC dE_markBehind_15 ac_27 rfl (by omega) (by decide) ?_
      rw [e27]
      refine aw_if_eq (tgt := 21) dE_markBehind_16 (by decide) (fun c16 => ?_) (fun c16 => absurd rfl c16)
      refine ic3_2 dE_markBehind_21 (nI_1 i) (by decide) ?_
      refine aw_goto (tgt := 4) dE_markBehind_24 (by decide) ?_
      rw [fwd_f hp]
      exact an_weak (ih (i + 1) (by omega)) ⟨rfl, rfl, rfl, trivial⟩

set_option maxHeartbeats 4000000 in
set_option maxRecDepth 100000 in
theorem c_E_markBehind (I : Nat → Int32) (A : Nat → Nat → Int32) {P : Nat → Prop} (hM : MKs (A 27) P) {i : Nat} (hi : i < 40) : AM kE_markBehind 1 [.ref 0, .int (nI i)] (hC I A) (RQ (fwd P (39 - i) (i + 1)) (hC I A)) := by
  refine AMet.of (by decide) (by simp [Value.category]) (Nat.le_of_ble_eq_true rfl) ?_
  show AN _ _ _ 0 [some _, some _, none] [] _
  refine aw_iload_n dE_markBehind_0 rfl ?_
  refine aw_iconst (v := 1) dE_markBehind_1 (by decide) ?_
  refine aw_iadd dE_markBehind_2 ?_
  refine an_top (nI_1 i) ?_
  refine si3_2 dE_markBehind_3 (by decide) ?_
  exact an_weak (l_E_markBehind I A hM (39 - i) (i + 1) (by omega)) ⟨rfl, rfl, rfl, trivial⟩

set_option maxHeartbeats 4000000 in
set_option maxRecDepth 100000 in
theorem l_E_markAhead (I : Nat → Int32) (A : Nat → Nat → Int32) {P : Nat → Prop} (hM : MKs (A 27) P) {x1 : Int32} : ∀ (m : Nat), m ≤ 40 → AN kE_markAhead 1 (RQ (bwd P m) (hC I A)) 4 [some (.ref 0), some (.int x1), some (.int (nI m - 1))] [] (hC I A) := by
  intro m
  induction m with
  | zero =>
    intro hm
    refine aw_iload_n dE_markAhead_4 rfl ?_
    refine aw_if_lt (tgt := 25) dE_markAhead_5 (by decide) (fun c5 => ?_) (fun c5 => absurd (by decide) c5)
    refine aw_iconst (v := (-1)) dE_markAhead_25 (by decide) ?_
    exact aw_iret rfl dE_markAhead_26 ⟨rfl, rfl⟩
  | succ m ih =>
    intro hm
    rw [nI_pred m]
    rcases hM m (by omega) with ⟨hp, e27⟩ | ⟨hp, e27⟩
    · refine aw_iload_n dE_markAhead_4 rfl ?_
      refine aw_if_lt (tgt := 25) dE_markAhead_5 (by decide) (fun c5 => absurd c5 (nI_pos (by omega))) (fun c5 => ?_)
      refine aw_aload_r dE_markAhead_8 rfl ?_
      refine aw_get fg_E_37 dE_markAhead_9 rfl rfl ?_
      refine aw_iload_n dE_markAhead_12 rfl ?_
      refine an_lzC dE_markAhead_13 ac_27 rfl (by omega) (by decide) ?_
      rw [e27]
      refine aw_if_eq (tgt := 19) dE_markAhead_14 (by decide) (fun c14 => absurd c14 (by decide)) (fun c14 => ?_)
      refine aw_iload_n dE_markAhead_17 rfl ?_
      exact aw_iret rfl dE_markAhead_18 ⟨rfl, by rw [bwd_t hp]⟩
    · refine aw_iload_n dE_markAhead_4 rfl ?_
      refine aw_if_lt (tgt := 25) dE_markAhead_5 (by decide) (fun c5 => absurd c5 (nI_pos (by omega))) (fun c5 => ?_)
      refine aw_aload_r dE_markAhead_8 rfl ?_
      refine aw_get fg_E_37 dE_markAhead_9 rfl rfl ?_
      refine aw_iload_n dE_markAhead_12 rfl ?_
      refine an_lzC dE_markAhead_13 ac_27 rfl (by omega) (by decide) ?_
      rw [e27]
      refine aw_if_eq (tgt := 19) dE_markAhead_14 (by decide) (fun c14 => ?_) (fun c14 => absurd rfl c14)
      refine ic3_2 dE_markAhead_19 (show nI m + Int32.ofInt (-1) = nI m - 1 by rw [Int32.sub_eq_add_neg]; rfl) (by decide) ?_
      refine aw_goto (tgt := 4) dE_markAhead_22 (by decide) ?_
      rw [bwd_f hp]
      exact an_weak (ih (by omega)) ⟨rfl, rfl, rfl, trivial⟩

set_option maxHeartbeats 4000000 in
set_option maxRecDepth 100000 in
theorem c_E_markAhead (I : Nat → Int32) (A : Nat → Nat → Int32) {P : Nat → Prop} (hM : MKs (A 27) P) {i : Nat} (hi : i ≤ 40) : AM kE_markAhead 1 [.ref 0, .int (nI i)] (hC I A) (RQ (bwd P i) (hC I A)) := by
  refine AMet.of (by decide) (by simp [Value.category]) (Nat.le_of_ble_eq_true rfl) ?_
  show AN _ _ _ 0 [some _, some _, none] [] _
  refine aw_iload_n dE_markAhead_0 rfl ?_
  refine aw_iconst (v := 1) dE_markAhead_1 (by decide) ?_
  refine aw_isub dE_markAhead_2 ?_
  refine si3_2 dE_markAhead_3 (by decide) ?_
  exact an_weak (l_E_markAhead I A hM i hi) ⟨rfl, rfl, rfl, trivial⟩

set_option maxHeartbeats 4000000 in
set_option maxRecDepth 100000 in
theorem l_E_markTurns (N : Nat → Nat) (V : Nat → Nat → Int32) (K : Nat → Int32) (I : Nat → Int32) (A : Nat → Nat → Int32) (hI : CInv N V K I A) (hP : PInv N V K) {k : Nat} (hk : k < 4) {P : Nat → Prop} (e6 : I 1006 = nI (turnL N V K k).length) (hal : AL (A 14) (turnL N V K k)) : ∀ (n i : Nat) (A1 : Nat → Nat → Int32), i + n = (turnL N V K k).length → CInv N V K I A1 → A1 14 = A 14 → MKs (A1 27) (fun s => P s ∨ Pre (turnL N V K k) i s) → AN kE_markTurns 6 (MQ1 N V K (fun s => P s ∨ s ∈ (turnL N V K k))) 14 [some (.ref 0), some (.ref (2 + 2 * k)), some (.int (nI i))] [] (hC I A1) := by
  have hln := turnL_len (N := N) (V := V) (K := K) (k := k)
  intro n
  induction n with
  | zero =>
    intro i A1 hin h1 h14 hM
    have hi : i = (turnL N V K k).length := by omega
    subst hi
    refine aw_iload_n dE_markTurns_14 rfl ?_
    refine aw_aload_r dE_markTurns_15 rfl ?_
    refine aw_get fg_E_19 dE_markTurns_16 rfl rfl ?_
    refine aw_get fg_E_113 dE_markTurns_19 rfl rfl ?_
    show AN _ _ _ _ _ (.int (I 1006) :: _) _
    rw [e6]
    refine aw_icmp_ge (tgt := 46) dE_markTurns_22 (by decide) (fun c22 => ?_) (fun c22 => absurd (Int32.le_refl _) c22)
    exact aw_vret rfl dE_markTurns_46 ⟨rfl, I, A1, rfl, h1, hM.congr (fun s => or_congr_right pre_all)⟩
  | succ n ih =>
    intro i A1 hin h1 h14 hM
    have hil : i < (turnL N V K k).length := by omega
    have hlt : (turnL N V K k).getD i 0 < 40 := by
      have q := mk_lt (w := 0) hI.n hk (Or.inl ⟨rfl, mem_getD hil⟩)
      have := hI.n k hk
      omega
    refine aw_iload_n dE_markTurns_14 rfl ?_
    refine aw_aload_r dE_markTurns_15 rfl ?_
    refine aw_get fg_E_19 dE_markTurns_16 rfl rfl ?_
    refine aw_get fg_E_113 dE_markTurns_19 rfl rfl ?_
    show AN _ _ _ _ _ (.int (I 1006) :: _) _
    rw [e6]
    refine aw_icmp_ge (tgt := 46) dE_markTurns_22 (by decide) (fun c22 => absurd c22 (nI_ge (by omega) (by omega))) (fun c22 => ?_)
    refine aw_aload_r dE_markTurns_25 rfl ?_
    refine aw_get fg_E_37 dE_markTurns_26 rfl rfl ?_
    refine aw_aload_r dE_markTurns_29 rfl ?_
    refine aw_get fg_E_19 dE_markTurns_30 rfl rfl ?_
    refine aw_get fg_E_116 dE_markTurns_33 rfl rfl ?_
    refine aw_iload_n dE_markTurns_36 rfl ?_
    refine an_ldC dE_markTurns_37 ac_14 rfl (by omega) (by decide) ?_
    rw [h14, hal i hil]
    refine aw_iconst (v := 1) dE_markTurns_38 (by decide) ?_
    refine an_szC dE_markTurns_39 ac_27 rfl hlt (by decide) (Or.inr rfl) ?_
    refine ic3_2 dE_markTurns_40 (nI_1 i) (by decide) ?_
    refine aw_goto (tgt := 14) dE_markTurns_43 (by decide) ?_
    exact an_weak (ih (i + 1) _ (by omega) (cinv_a h1 (by decide) _) h14 ((hM.put _).congr (fun s => by rw [pre_succ hil, or_assoc]))) ⟨rfl, rfl, rfl, trivial⟩

set_option maxHeartbeats 4000000 in
set_option maxRecDepth 100000 in
theorem c_E_markTurns (N : Nat → Nat) (V : Nat → Nat → Int32) (K : Nat → Int32) (I : Nat → Int32) (A : Nat → Nat → Int32) (hI : CInv N V K I A) (hP : PInv N V K) {k : Nat} (hk : k < 4) {P : Nat → Prop} (hM : MKs (A 27) P) : AM kE_markTurns 6 [.ref 0, .ref (2 + 2 * k)] (hC I A) (MQ1 N V K (fun s => P s ∨ s ∈ (turnL N V K k))) := by
  refine AMet.of (by decide) (by simp [Value.category]) (Nat.le_of_ble_eq_true rfl) ?_
  show AN _ _ _ 0 [some _, some _, none] [] _
  refine aw_aload_r dE_markTurns_0 rfl ?_
  refine aw_get fg_E_19 dE_markTurns_1 rfl rfl ?_
  refine aw_aload_r dE_markTurns_4 rfl ?_
  refine aw_aload_r dE_markTurns_5 rfl ?_
  refine aw_get fg_E_41 dE_markTurns_6 rfl rfl ?_
  show AN _ _ _ _ _ (.int (I 5) :: _) _
  rw [hI.2.1]
  refine an_callVx cg_E_180 (c_S_read N V K _ _ hI hP hk) dE_markTurns_9 rfl rfl rfl rfl rfl (Nat.le_of_ble_eq_true rfl) (Nat.le_of_ble_eq_true rfl) ?_
  rintro _ _ ⟨rfl, I1, A1, rfl, hs, e6, hal, e27⟩
  refine aw_iconst (v := 0) dE_markTurns_12 (by decide) ?_
  refine si3_2 dE_markTurns_13 (by decide) ?_
  exact an_weak (l_E_markTurns N V K I1 A1 hs.1 hP hk e6 hal (turnL N V K k).length 0 A1 (by omega) hs.1 rfl (by rw [e27]; exact hM.congr (fun s => ⟨Or.inl, fun q => q.elim id (fun z => absurd z pre_zero)⟩))) ⟨rfl, rfl, rfl, trivial⟩

set_option maxHeartbeats 4000000 in
set_option maxRecDepth 100000 in
theorem l_E_markCr1 {Q : QT} (N : Nat → Nat) (V : Nat → Nat → Int32) (K : Nat → Int32) (I : Nat → Int32) (A : Nat → Nat → Int32) (hI : CInv N V K I A) (hP : PInv N V K) {k b : Nat} (hk : k < 4) {P : Nat → Prop} (e16 : I 2001 = nI (crossL N V K k b).length) (hal : AL (A 21) (crossL N V K k b)) (kk : ∀ A2, CInv N V K I A2 → MKs (A2 27) (fun s => P s ∨ s ∈ (crossL N V K k b)) → AN kE_markCrossings 4 Q 66 [some (.ref 0), some (.ref (2 + 2 * k)), some (.int (nI b)), none] [] (hC I A2)) : ∀ (n i : Nat) (A1 : Nat → Nat → Int32), i + n = (crossL N V K k b).length → CInv N V K I A1 → A1 21 = A 21 → MKs (A1 27) (fun s => P s ∨ Pre (crossL N V K k b) i s) → AN kE_markCrossings 4 Q 34 [some (.ref 0), some (.ref (2 + 2 * k)), some (.int (nI b)), some (.int (nI i))] [] (hC I A1) := by
  have hln : (crossL N V K k b).length ≤ 40 := crL_len _
  intro n
  induction n with
  | zero =>
    intro i A1 hin h1 h21 hM
    have hi : i = (crossL N V K k b).length := by omega
    subst hi
    refine aw_iload_n dE_markCrossings_34 rfl ?_
    refine aw_aload_r dE_markCrossings_35 rfl ?_
    refine aw_get fg_E_26 dE_markCrossings_36 rfl rfl ?_
    refine aw_get fg_E_130 dE_markCrossings_39 rfl rfl ?_
    show AN _ _ _ _ _ (.int (I 2001) :: _) _
    rw [e16]
    refine aw_icmp_ge (tgt := 66) dE_markCrossings_42 (by decide) (fun c42 => ?_) (fun c42 => absurd (Int32.le_refl _) c42)
    exact an_weak (kk A1 h1 (hM.congr (fun s => or_congr_right pre_all))) ⟨rfl, rfl, rfl, trivial⟩
  | succ n ih =>
    intro i A1 hin h1 h21 hM
    have hil : i < (crossL N V K k b).length := by omega
    have hlt := (crL_lt 40 _ (mem_getD hil)).1
    refine aw_iload_n dE_markCrossings_34 rfl ?_
    refine aw_aload_r dE_markCrossings_35 rfl ?_
    refine aw_get fg_E_26 dE_markCrossings_36 rfl rfl ?_
    refine aw_get fg_E_130 dE_markCrossings_39 rfl rfl ?_
    show AN _ _ _ _ _ (.int (I 2001) :: _) _
    rw [e16]
    refine aw_icmp_ge (tgt := 66) dE_markCrossings_42 (by decide) (fun c42 => absurd c42 (nI_ge (by omega) (by omega))) (fun c42 => ?_)
    refine aw_aload_r dE_markCrossings_45 rfl ?_
    refine aw_get fg_E_37 dE_markCrossings_46 rfl rfl ?_
    refine aw_aload_r dE_markCrossings_49 rfl ?_
    refine aw_get fg_E_26 dE_markCrossings_50 rfl rfl ?_
    refine aw_get fg_E_131 dE_markCrossings_53 rfl rfl ?_
    refine aw_iload_n dE_markCrossings_56 rfl ?_
    refine an_ldC dE_markCrossings_57 ac_21 rfl (by omega) (by decide) ?_
    rw [h21, hal i hil]
    refine aw_iconst (v := 1) dE_markCrossings_58 (by decide) ?_
    refine an_szC dE_markCrossings_59 ac_27 rfl hlt (by decide) (Or.inr rfl) ?_
    refine ic4_3 dE_markCrossings_60 (nI_1 i) (by decide) ?_
    refine aw_goto (tgt := 34) dE_markCrossings_63 (by decide) ?_
    exact an_weak (ih (i + 1) _ (by omega) (cinv_a h1 (by decide) _) h21 ((hM.put _).congr (fun s => by rw [pre_succ hil, or_assoc]))) ⟨rfl, rfl, rfl, rfl, trivial⟩

theorem cr_next {N : Nat → Nat} {V : Nat → Nat → Int32} {K : Nat → Int32} {P : Nat → Prop} {k b : Nat} (h : ¬ b = k) (s : Nat) : ((P s ∨ ∃ c, c < b ∧ ¬ c = k ∧ s ∈ crossL N V K k c) ∨ s ∈ crossL N V K k b) ↔ (P s ∨ ∃ c, c < b + 1 ∧ ¬ c = k ∧ s ∈ crossL N V K k c) := by
  constructor
  · rintro ((h1 | ⟨c, h1, h2, h3⟩) | h1)
    · exact Or.inl h1
    · exact Or.inr ⟨c, by omega, h2, h3⟩
    · exact Or.inr ⟨b, by omega, h, h1⟩
  · rintro (h1 | ⟨c, h1, h2, h3⟩)
    · exact Or.inl (Or.inl h1)
    · by_cases e : c = b
      · subst e; exact Or.inr h3
      · exact Or.inl (Or.inr ⟨c, by omega, h2, h3⟩)
theorem cr_skip {N : Nat → Nat} {V : Nat → Nat → Int32} {K : Nat → Int32} {P : Nat → Prop} {k b : Nat} (h : b = k) (s : Nat) : (P s ∨ ∃ c, c < b ∧ ¬ c = k ∧ s ∈ crossL N V K k c) ↔ (P s ∨ ∃ c, c < b + 1 ∧ ¬ c = k ∧ s ∈ crossL N V K k c) := by
  constructor
  · rintro (h1 | ⟨c, h1, h2, h3⟩)
    · exact Or.inl h1
    · exact Or.inr ⟨c, by omega, h2, h3⟩
  · rintro (h1 | ⟨c, h1, h2, h3⟩)
    · exact Or.inl h1
    · exact Or.inr ⟨c, by omega, h2, h3⟩

set_option maxHeartbeats 4000000 in
set_option maxRecDepth 100000 in
theorem l_E_markCr2 (N : Nat → Nat) (V : Nat → Nat → Int32) (K : Nat → Int32) (I : Nat → Int32) (A : Nat → Nat → Int32) (hI : CInv N V K I A) (hP : PInv N V K) {k : Nat} (hk : k < 4) (e12 : K 12 = nI k) {P : Nat → Prop} : ∀ (n b : Nat) (I1 : Nat → Int32) (A1 : Nat → Nat → Int32), b + n = 4 → CInv N V K I1 A1 → MKs (A1 27) (fun s => P s ∨ ∃ c, c < b ∧ ¬ c = k ∧ s ∈ crossL N V K k c) → AN kE_markCrossings 4 (MQ1 N V K (fun s => P s ∨ ∃ b, b < 4 ∧ ¬ b = k ∧ s ∈ crossL N V K k b)) 2 [some (.ref 0), some (.ref (2 + 2 * k)), some (.int (nI b)), none] [] (hC I1 A1) := by
  intro n
  induction n with
  | zero =>
    intro b I1 A1 hin h1 hM
    have hb : b = 4 := by omega
    subst hb
    refine aw_iload_n dE_markCrossings_2 rfl ?_
    refine aw_iconst (v := 4) dE_markCrossings_3 (by decide) ?_
    refine aw_icmp_ge (tgt := 72) dE_markCrossings_4 (by decide) (fun c4 => ?_) (fun c4 => absurd (by decide) c4)
    exact aw_vret rfl dE_markCrossings_72 ⟨rfl, I1, A1, rfl, h1, hM⟩
  | succ n ih =>
    intro b I1 A1 hin h1 hM
    have hb : b < 4 := by omega
    refine aw_iload_n dE_markCrossings_2 rfl ?_
    refine aw_iconst (v := 4) dE_markCrossings_3 (by decide) ?_
    refine aw_icmp_ge (tgt := 72) dE_markCrossings_4 (by decide) (fun c4 => absurd c4 (nI_ge (b := 4) (by omega) (by omega))) (fun c4 => ?_)
    refine aw_iload_n dE_markCrossings_7 rfl ?_
    refine aw_aload_r dE_markCrossings_8 rfl ?_
    refine aw_get fg_E_54 dE_markCrossings_9 rfl rfl ?_
    show AN _ _ _ _ _ (.int (I1 9) :: _) _
    rw [h1.2.2.2.2.2.1, e12]
    refine aw_icmp_ne (tgt := 18) dE_markCrossings_12 (by decide) (fun c12 => ?_) (fun c12 => ?_)
    · refine aw_aload_r dE_markCrossings_18 rfl ?_
      refine aw_get fg_E_26 dE_markCrossings_19 rfl rfl ?_
      refine aw_aload_r dE_markCrossings_22 rfl ?_
      refine aw_aload_r dE_markCrossings_23 rfl ?_
      refine aw_get fg_E_11 dE_markCrossings_24 rfl rfl ?_
      refine aw_iload_n dE_markCrossings_27 rfl ?_
      refine an_rows dE_markCrossings_28 rfl hb ?_
      refine an_callVx cg_E_183 (c_M_read N V K I1 A1 h1 hP hk hb) dE_markCrossings_29 rfl rfl rfl rfl rfl (Nat.le_of_ble_eq_true rfl) (Nat.le_of_ble_eq_true rfl) ?_
      rintro _ _ ⟨rfl, I2, A2, rfl, h2, e16, hal, h27⟩
      refine aw_iconst (v := 0) dE_markCrossings_32 (by decide) ?_
      refine si4_3 dE_markCrossings_33 (by decide) ?_
      refine an_weak (l_E_markCr1 N V K I2 A2 h2 hP hk e16 hal (fun A3 h3 hM3 => ?_) (crossL N V K k b).length 0 A2 (by omega) h2 rfl (by rw [h27]; exact hM.congr (fun s => ⟨Or.inl, fun q => q.elim id (fun z => absurd z pre_zero)⟩))) ⟨rfl, rfl, rfl, rfl, trivial⟩
      refine ic4_2 dE_markCrossings_66 (nI_1 b) (by decide) ?_
      refine aw_goto (tgt := 2) dE_markCrossings_69 (by decide) ?_
      exact an_weak (ih (b + 1) I2 A3 (by omega) h3 (hM3.congr (cr_next (fun e => c12 (by rw [e]))))) ⟨rfl, rfl, rfl, trivial⟩
    · refine aw_goto (tgt := 66) dE_markCrossings_15 (by decide) ?_
      refine ic4_2 dE_markCrossings_66 (nI_1 b) (by decide) ?_
      refine aw_goto (tgt := 2) dE_markCrossings_69 (by decide) ?_
      exact an_weak (ih (b + 1) I1 A1 (by omega) h1 (hM.congr (cr_skip (nI_inj (by omega) (by omega) c12)))) ⟨rfl, rfl, rfl, trivial⟩

set_option maxHeartbeats 4000000 in
set_option maxRecDepth 100000 in
theorem c_E_markCrossings (N : Nat → Nat) (V : Nat → Nat → Int32) (K : Nat → Int32) (I : Nat → Int32) (A : Nat → Nat → Int32) (hI : CInv N V K I A) (hP : PInv N V K) {k : Nat} (hk : k < 4) (e12 : K 12 = nI k) {P : Nat → Prop} (hM : MKs (A 27) P) : AM kE_markCrossings 4 [.ref 0, .ref (2 + 2 * k)] (hC I A) (MQ1 N V K (fun s => P s ∨ ∃ b, b < 4 ∧ ¬ b = k ∧ s ∈ crossL N V K k b)) := by
  refine AMet.of (by decide) (by simp [Value.category]) (Nat.le_of_ble_eq_true rfl) ?_
  show AN _ _ _ 0 [some _, some _, none, none] [] _
  refine aw_iconst (v := 0) dE_markCrossings_0 (by decide) ?_
  refine si4_2 dE_markCrossings_1 (by decide) ?_
  exact an_weak (l_E_markCr2 N V K I A hI hP hk e12 4 0 I A (by omega) hI (hM.congr (fun s => ⟨Or.inl, fun q => q.elim id (fun ⟨c, h, _⟩ => by omega)⟩))) ⟨rfl, rfl, rfl, trivial⟩

theorem MKs1 {f : Nat → Int32} {P : Nat → Prop} {i : Nat} {x : Int32} (h : ∀ j, j < i → (P j ∧ f j = 1) ∨ (¬ P j ∧ f j = 0)) (hx : (P i ∧ x = 1) ∨ (¬ P i ∧ x = 0)) : ∀ j, j < i + 1 → (P j ∧ upd f i x j = 1) ∨ (¬ P j ∧ upd f i x j = 0) := fun j hj => by
  by_cases e : j = i
  · subst e; rw [pk_us]; exact hx
  · rw [pk_un e]; exact h j (by omega)
set_option maxHeartbeats 4000000 in
set_option maxRecDepth 100000 in
theorem l_E_markSought {Q : QT} (N : Nat → Nat) (V : Nat → Nat → Int32) (K : Nat → Int32) (I : Nat → Int32) (A : Nat → Nat → Int32) (hI : CInv N V K I A) (hP : PInv N V K) {k : Nat} (hk : k < 4) {w : Int32} (kk : ∀ A2, CInv N V K I A2 → MKs (A2 27) (fun s => w = 2 ∧ s < N k ∧ V k s = -5000) → AN kE_markSought 7 Q 46 [some (.ref 0), some (.ref (2 + 2 * k)), some (.int w), none] [] (hC I A2)) : ∀ (n i : Nat) (A1 : Nat → Nat → Int32), i + n = 40 → CInv N V K I A1 → (∀ j, j < i → ((fun s => w = 2 ∧ s < N k ∧ V k s = -5000) j ∧ A1 27 j = 1) ∨ (¬ (fun s => w = 2 ∧ s < N k ∧ V k s = -5000) j ∧ A1 27 j = 0)) → AN kE_markSought 7 Q 2 [some (.ref 0), some (.ref (2 + 2 * k)), some (.int w), some (.int (nI i))] [] (hC I A1) := by
  intro n
  induction n with
  | zero =>
    intro i A1 hin h1 hM
    have hi : i = 40 := by omega
    subst hi
    refine aw_iload_n dE_markSought_2 rfl ?_
    refine aw_bipush (v := 40) dE_markSought_3 (by decide) ?_
    refine aw_icmp_ge (tgt := 46) dE_markSought_5 (by decide) (fun c5 => ?_) (fun c5 => absurd (by decide) c5)
    exact an_weak (kk A1 h1 hM) ⟨rfl, rfl, rfl, trivial⟩
  | succ n ih =>
    intro i A1 hin h1 hM
    have h40 := hI.n k hk
    refine aw_iload_n dE_markSought_2 rfl ?_
    refine aw_bipush (v := 40) dE_markSought_3 (by decide) ?_
    refine aw_icmp_ge (tgt := 46) dE_markSought_5 (by decide) (fun c5 => absurd c5 (nI_ge (b := 40) (by omega) (by omega))) (fun c5 => ?_)
    refine aw_aload_r dE_markSought_8 rfl ?_
    refine aw_get fg_E_37 dE_markSought_9 rfl rfl ?_
    refine aw_iload_n dE_markSought_12 rfl ?_
    refine aw_iload_n dE_markSought_13 rfl ?_
    refine aw_iconst (v := 2) dE_markSought_14 (by decide) ?_
    refine aw_icmp_ne (tgt := 38) dE_markSought_15 (by decide) (fun c15 => ?_) (fun c15 => ?_)
    · refine aw_iconst (v := 0) dE_markSought_38 (by decide) ?_
      refine an_szC dE_markSought_39 ac_27 rfl (by omega) (by decide) (Or.inl rfl) ?_
      refine ic4_3 dE_markSought_40 (nI_1 i) (by decide) ?_
      refine aw_goto (tgt := 2) dE_markSought_43 (by decide) ?_
      exact an_weak (ih (i + 1) _ (by omega) (cinv_a h1 (by decide) _) (MKs1 hM (Or.inr ⟨fun q => c15 q.1, rfl⟩))) ⟨rfl, rfl, rfl, rfl, trivial⟩
    · refine aw_aload_r dE_markSought_18 rfl ?_
      refine aw_iload_n dE_markSought_19 rfl ?_
      refine an_callVb cg_E_72 (c_R_hasStep N V K _ _ h1 hk _) dE_markSought_20 rfl (hC_row _ _ hk) rfl rfl rfl (Nat.le_of_ble_eq_true rfl) (Nat.le_of_ble_eq_true rfl) (fun p20 => ?_) (fun p20 => ?_)
      · refine aw_if_eq (tgt := 38) dE_markSought_23 (by decide) (fun q => absurd q (by decide)) (fun _ => ?_)
        refine aw_aload_r dE_markSought_26 rfl ?_
        refine aw_iload_n dE_markSought_27 rfl ?_
        refine an_callVb cg_E_154 (c_R_hasValue N V K _ _ h1 hk _) dE_markSought_28 rfl (hC_row _ _ hk) rfl rfl rfl (Nat.le_of_ble_eq_true rfl) (Nat.le_of_ble_eq_true rfl) (fun p28 => ?_) (fun p28 => ?_)
        · refine aw_if_ne (tgt := 38) dE_markSought_31 (by decide) (fun _ => ?_) (fun q => absurd q (by decide))
          refine aw_iconst (v := 0) dE_markSought_38 (by decide) ?_
          refine an_szC dE_markSought_39 ac_27 rfl (by omega) (by decide) (Or.inl rfl) ?_
          refine ic4_3 dE_markSought_40 (nI_1 i) (by decide) ?_
          refine aw_goto (tgt := 2) dE_markSought_43 (by decide) ?_
          exact an_weak (ih (i + 1) _ (by omega) (cinv_a h1 (by decide) _) (MKs1 hM (Or.inr ⟨fun q => by obtain ⟨i2, h2, e2, hv2⟩ := hv_i hI.n hk p28; rw [← nI_inj (by omega) (by omega) e2] at hv2; exact hv2 q.2.2, rfl⟩))) ⟨rfl, rfl, rfl, rfl, trivial⟩
        · refine aw_if_ne (tgt := 38) dE_markSought_31 (by decide) (fun q => absurd q (by decide)) (fun _ => ?_)
          refine aw_iconst (v := 1) dE_markSought_34 (by decide) ?_
          refine aw_goto (tgt := 39) dE_markSought_35 (by decide) ?_
          refine an_szC dE_markSought_39 ac_27 rfl (by omega) (by decide) (Or.inr rfl) ?_
          refine ic4_3 dE_markSought_40 (nI_1 i) (by decide) ?_
          refine aw_goto (tgt := 2) dE_markSought_43 (by decide) ?_
          exact an_weak (ih (i + 1) _ (by omega) (cinv_a h1 (by decide) _) (MKs1 hM (Or.inl ⟨⟨c15, by obtain ⟨i2, h2, e2⟩ := stp_i hI.n hk p20; rw [nI_inj (by omega) (by omega) e2]; exact h2, Classical.byContradiction fun q => p28 ⟨k, i, hk, by obtain ⟨i2, h2, e2⟩ := stp_i hI.n hk p20; rw [nI_inj (by omega) (by omega) e2]; exact h2, rfl, rfl, q⟩⟩, rfl⟩))) ⟨rfl, rfl, rfl, rfl, trivial⟩
      · refine aw_if_eq (tgt := 38) dE_markSought_23 (by decide) (fun _ => ?_) (fun q => absurd q (by decide))
        refine aw_iconst (v := 0) dE_markSought_38 (by decide) ?_
        refine an_szC dE_markSought_39 ac_27 rfl (by omega) (by decide) (Or.inl rfl) ?_
        refine ic4_3 dE_markSought_40 (nI_1 i) (by decide) ?_
        refine aw_goto (tgt := 2) dE_markSought_43 (by decide) ?_
        exact an_weak (ih (i + 1) _ (by omega) (cinv_a h1 (by decide) _) (MKs1 hM (Or.inr ⟨fun q => p20 ⟨k, i, hk, q.2.1, rfl, rfl⟩, rfl⟩))) ⟨rfl, rfl, rfl, rfl, trivial⟩

set_option maxHeartbeats 4000000 in
set_option maxRecDepth 100000 in
theorem c_E_markSought (N : Nat → Nat) (V : Nat → Nat → Int32) (K : Nat → Int32) (I : Nat → Int32) (A : Nat → Nat → Int32) (hI : CInv N V K I A) (hP : PInv N V K) {k : Nat} (hk : k < 4) (e12 : K 12 = nI k) (w : Int32) : AM kE_markSought 7 [.ref 0, .ref (2 + 2 * k), .int w] (hC I A) (MQ1 N V K (Mk N V K k w)) := by
  refine AMet.of (by decide) (by simp [Value.category]) (Nat.le_of_ble_eq_true rfl) ?_
  show AN _ _ _ 0 [some _, some _, some _, none] [] _
  refine aw_iconst (v := 0) dE_markSought_0 (by decide) ?_
  refine si4_3 dE_markSought_1 (by decide) ?_
  refine an_weak (l_E_markSought N V K I A hI hP hk (fun A2 h2 hM => ?_) 40 0 A (by omega) hI (fun j hj => by omega)) ⟨rfl, rfl, rfl, rfl, trivial⟩
  refine aw_iload_n dE_markSought_46 rfl ?_
  refine aw_if_ne (tgt := 58) dE_markSought_47 (by decide) (fun c47 => ?_) (fun c47 => ?_)
  · refine aw_iload_n dE_markSought_58 rfl ?_
    refine aw_iconst (v := 1) dE_markSought_59 (by decide) ?_
    refine aw_icmp_ne (tgt := 68) dE_markSought_60 (by decide) (fun c60 => ?_) (fun c60 => ?_)
    · exact aw_vret rfl dE_markSought_68 ⟨rfl, I, A2, rfl, h2, hM.congr (fun s => ⟨fun z => Or.inr (Or.inr z), fun q => q.elim (fun z => absurd z.1 c47) (fun q => q.elim (fun z => absurd z.1 c60) id)⟩)⟩
    · refine aw_aload_r dE_markSought_63 rfl ?_
      refine aw_aload_r dE_markSought_64 rfl ?_
      refine an_callVx cg_E_214 (c_E_markCrossings N V K I A2 h2 hP hk e12 hM) dE_markSought_65 rfl rfl rfl rfl rfl (Nat.le_of_ble_eq_true rfl) (Nat.le_of_ble_eq_true rfl) ?_
      rintro _ _ ⟨rfl, I3, A3, rfl, h3, hM3⟩
      exact aw_vret rfl dE_markSought_68 ⟨rfl, I3, A3, rfl, h3, hM3.congr (fun s => ⟨fun q => q.elim (fun z => absurd (c60.symm.trans z.1) (by decide)) (fun z => Or.inr (Or.inl ⟨c60, z⟩)), fun q => q.elim (fun z => absurd z.1 c47) (fun q => q.elim (fun z => Or.inr z.2) (fun z => absurd (c60.symm.trans z.1) (by decide)))⟩)⟩
  · refine aw_aload_r dE_markSought_50 rfl ?_
    refine aw_aload_r dE_markSought_51 rfl ?_
    refine an_callVx cg_E_210 (c_E_markTurns N V K I A2 h2 hP hk hM) dE_markSought_52 rfl rfl rfl rfl rfl (Nat.le_of_ble_eq_true rfl) (Nat.le_of_ble_eq_true rfl) ?_
    rintro _ _ ⟨rfl, I3, A3, rfl, h3, hM3⟩
    refine aw_goto (tgt := 68) dE_markSought_55 (by decide) ?_
    exact aw_vret rfl dE_markSought_68 ⟨rfl, I3, A3, rfl, h3, hM3.congr (fun s => ⟨fun q => q.elim (fun z => absurd (c47.symm.trans z.1) (by decide)) (fun z => Or.inl ⟨c47, z⟩), fun q => q.elim (fun z => Or.inr z.2) (fun q => q.elim (fun z => absurd (c47.symm.trans z.1) (by decide)) (fun z => absurd (c47.symm.trans z.1) (by decide)))⟩)⟩

set_option maxHeartbeats 4000000 in
set_option maxRecDepth 100000 in
theorem c_E_seek (N : Nat → Nat) (V : Nat → Nat → Int32) (K : Nat → Int32) (I : Nat → Int32) (A : Nat → Nat → Int32) (hI : CInv N V K I A) (hP : PInv N V K) (on w : Int32) : AM kE_seek 8 [.ref 0, .int on, .int w] (hC I A) (CR (sp_seek N V K on w)) := by
  refine AMet.of (by decide) (by simp [Value.category]) (Nat.le_of_ble_eq_true rfl) ?_
  show AN _ _ _ 0 [some _, some _, some _, none, none] [] _
  refine aw_aload_r dE_seek_0 rfl ?_
  refine aw_aload_r dE_seek_1 rfl ?_
  refine aw_get fg_E_54 dE_seek_2 rfl rfl ?_
  show AN _ _ _ _ _ (.int (I 9) :: _) _
  rw [hI.2.2.2.2.2.1]
  refine an_callVx cg_E_60 (c_E_rowOf _ _ _) dE_seek_5 rfl rfl rfl rfl rfl (Nat.le_of_ble_eq_true rfl) (Nat.le_of_ble_eq_true rfl) ?_
  rintro _ _ ⟨rfl, ⟨k, hk, ek, rfl⟩ | ⟨nk, rfl⟩⟩
  · refine sa5_3 dE_seek_8 (by decide) ?_
    refine aw_aload_r dE_seek_9 rfl ?_
    refine an_ifnonnull_r (tgt := 15) dE_seek_10 (by decide) ?_
    have hw := hP.2.2.2.2.2.resolve_left (by rw [ek]; exact row_ne hk)
    obtain ⟨k9, i, hk9, hi, e9, e13⟩ := hw
    have e9b := nI_inj (by omega) (by omega) (ek.symm.trans e9)
    subst e9b
    have h40 := hI.n k hk
    refine aw_aload_r dE_seek_15 rfl ?_
    refine aw_aload_r dE_seek_16 rfl ?_
    refine aw_iload_n dE_seek_17 rfl ?_
    refine an_callVx cg_E_170 (c_E_markSought N V K I A hI hP hk ek w) dE_seek_18 rfl rfl rfl rfl rfl (Nat.le_of_ble_eq_true rfl) (Nat.le_of_ble_eq_true rfl) ?_
    rintro _ _ ⟨rfl, I1, A1, rfl, h1, hM⟩
    refine aw_iload_n dE_seek_21 rfl ?_
    refine aw_if_eq (tgt := 36) dE_seek_22 (by decide) (fun c22 => ?_) (fun c22 => ?_)
    · refine aw_aload_r dE_seek_36 rfl ?_
      refine aw_aload_r dE_seek_37 rfl ?_
      refine aw_get fg_E_57 dE_seek_38 rfl rfl ?_
      show AN _ _ _ _ _ (.int (I1 10) :: _) _
      rw [h1.2.2.2.2.2.2, e13]
      refine an_callVr cg_E_177 (c_E_markAhead I1 A1 hM (i := i) (by omega)) dE_seek_41 rfl rfl rfl rfl rfl (Nat.le_of_ble_eq_true rfl) (Nat.le_of_ble_eq_true rfl) ?_
      refine si5_4 dE_seek_44 (by decide) ?_
      refine aw_iload dE_seek_46 rfl ?_
      refine aw_iconst (v := (-1)) dE_seek_48 (by decide) ?_
      refine aw_icmp_eq (tgt := 58) dE_seek_49 (by decide) (fun c49 => ?_) (fun c49 => ?_)
      · refine aw_iload dE_seek_58 rfl ?_
        exact aw_iret rfl dE_seek_60 (by unfold sp_seek; rw [cif_f (by rw [ek]; exact row_ne hk), show skE N V K on w = (bwd (Mk N V K k w) i) by unfold skE; rw [if_pos c22, ek, e13, rn_n (by omega), rn_n (by omega)]]; rw [if_pos c49]; exact ⟨rfl, I1, A1, rfl, h1⟩)
      · refine aw_aload_r dE_seek_52 rfl ?_
        refine aw_iload dE_seek_53 rfl ?_
        refine an_putE fp_E_57 dE_seek_55 (by decide) ?_
        refine aw_iload dE_seek_58 rfl ?_
        exact aw_iret rfl dE_seek_60 (by unfold sp_seek; rw [cif_f (by rw [ek]; exact row_ne hk), show skE N V K on w = (bwd (Mk N V K k w) i) by unfold skE; rw [if_pos c22, ek, e13, rn_n (by omega), rn_n (by omega)]]; rw [if_neg c49]; exact ⟨rfl, _, _, rfl, cinv_13 h1 _⟩)
    · refine aw_aload_r dE_seek_25 rfl ?_
      refine aw_aload_r dE_seek_26 rfl ?_
      refine aw_get fg_E_57 dE_seek_27 rfl rfl ?_
      show AN _ _ _ _ _ (.int (I1 10) :: _) _
      rw [h1.2.2.2.2.2.2, e13]
      refine an_callVr cg_E_174 (c_E_markBehind I1 A1 hM (i := i) (by omega)) dE_seek_30 rfl rfl rfl rfl rfl (Nat.le_of_ble_eq_true rfl) (Nat.le_of_ble_eq_true rfl) ?_
      refine aw_goto (tgt := 44) dE_seek_33 (by decide) ?_
      refine si5_4 dE_seek_44 (by decide) ?_
      refine aw_iload dE_seek_46 rfl ?_
      refine aw_iconst (v := (-1)) dE_seek_48 (by decide) ?_
      refine aw_icmp_eq (tgt := 58) dE_seek_49 (by decide) (fun c49 => ?_) (fun c49 => ?_)
      · refine aw_iload dE_seek_58 rfl ?_
        exact aw_iret rfl dE_seek_60 (by unfold sp_seek; rw [cif_f (by rw [ek]; exact row_ne hk), show skE N V K on w = (fwd (Mk N V K k w) (39 - i) (i + 1)) by unfold skE; rw [if_neg c22, ek, e13, rn_n (by omega), rn_n (by omega)]]; rw [if_pos c49]; exact ⟨rfl, I1, A1, rfl, h1⟩)
      · refine aw_aload_r dE_seek_52 rfl ?_
        refine aw_iload dE_seek_53 rfl ?_
        refine an_putE fp_E_57 dE_seek_55 (by decide) ?_
        refine aw_iload dE_seek_58 rfl ?_
        exact aw_iret rfl dE_seek_60 (by unfold sp_seek; rw [cif_f (by rw [ek]; exact row_ne hk), show skE N V K on w = (fwd (Mk N V K k w) (39 - i) (i + 1)) by unfold skE; rw [if_neg c22, ek, e13, rn_n (by omega), rn_n (by omega)]]; rw [if_neg c49]; exact ⟨rfl, _, _, rfl, cinv_13 h1 _⟩)
  · refine an_astore_0 dE_seek_8 (by decide) ?_
    refine an_aload_0 dE_seek_9 rfl ?_
    refine an_ifnonnull_0 (tgt := 15) dE_seek_10 (by decide) ?_
    refine aw_iconst (v := (-1)) dE_seek_13 (by decide) ?_
    exact aw_iret rfl dE_seek_14 (by unfold sp_seek; rw [cif_t (hP.2.2.2.2.2.resolve_right (fun ⟨k, i, hk, _, e, _⟩ => nk (by rw [e]; exact isRow_n hk)))]; exact ⟨rfl, I, A, rfl, hI⟩)
