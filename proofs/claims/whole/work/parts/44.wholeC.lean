set_option maxHeartbeats 4000000 in
set_option maxRecDepth 100000 in
theorem l_S_allWays (N : Nat → Nat) (V : Nat → Nat → Int32) (K : Nat → Int32) (I : Nat → Int32) (A : Nat → Nat → Int32) {k : Nat} (hs : CSh N V K k I A) (hk : k < 4) : ∀ (n i : Nat), i + n = (cS N V K k) → AN kS_allWays 2 (RQ (nI (sW (wvF N V K k) (cS N V K k))) (hC I A)) 4 [some (.ref 10), some (.int (nI (sW (wvF N V K k) i))), some (.int (nI i))] [] (hC I A) := by
  have hc40 : (cS N V K k) ≤ 40 := cS_le
  have h40 := hs.1.n k hk
  have hwb := wv_b (N := N) (V := V) (K := K) (k := k) h40
  have hWb := sW_b (w := (wvF N V K k)) (M := 40) (cS N V K k) (fun i hi => (hwb i hi).2)
  have hWp := sW_pos (w := (wvF N V K k)) (cS N V K k) (fun i hi => (hwb i hi).1)
  intro n
  induction n with
  | zero =>
    intro i hin
    have hi : i = (cS N V K k) := by omega
    subst hi
    refine aw_iload_n dS_allWays_4 rfl ?_
    refine aw_aload_r dS_allWays_5 rfl ?_
    refine aw_get fg_S_29 dS_allWays_6 rfl rfl ?_
    refine an_top (y := nI (cS N V K k)) hs.2.1 ?_
    refine aw_icmp_ge (tgt := 26) dS_allWays_9 (by decide) (fun c9 => ?_) (fun c9 => absurd (Int32.le_refl _) c9)
    refine aw_iload_n dS_allWays_26 rfl ?_
    exact aw_iret rfl dS_allWays_27 ⟨rfl, rfl⟩
  | succ n ih =>
    intro i hin
    refine aw_iload_n dS_allWays_4 rfl ?_
    refine aw_aload_r dS_allWays_5 rfl ?_
    refine aw_get fg_S_29 dS_allWays_6 rfl rfl ?_
    refine an_top (y := nI (cS N V K k)) hs.2.1 ?_
    refine aw_icmp_ge (tgt := 26) dS_allWays_9 (by decide) (fun c9 => absurd c9 (nI_ge (by omega) (by omega))) (fun c9 => ?_)
    refine aw_iload_n dS_allWays_12 rfl ?_
    refine aw_aload_r dS_allWays_13 rfl ?_
    refine aw_iload_n dS_allWays_14 rfl ?_
    refine an_callVr cg_S_97 (c_S_waysOfSpan N V K I A hs (j := i) (show i < (cS N V K k) by omega)) dS_allWays_15 rfl rfl rfl rfl rfl (Nat.le_of_ble_eq_true rfl) (Nat.le_of_ble_eq_true rfl) ?_
    refine aw_iadd dS_allWays_18 ?_
    refine an_top (nI_add _ _) ?_
    refine si3_1 dS_allWays_19 (by decide) ?_
    refine ic3_2 dS_allWays_20 (nI_1 i) (by decide) ?_
    refine aw_goto (tgt := 4) dS_allWays_23 (by decide) ?_
    exact an_weak (ih (i + 1) (by omega)) ⟨rfl, rfl, rfl, trivial⟩

set_option maxHeartbeats 4000000 in
set_option maxRecDepth 100000 in
theorem c_S_allWays (N : Nat → Nat) (V : Nat → Nat → Int32) (K : Nat → Int32) (I : Nat → Int32) (A : Nat → Nat → Int32) {k : Nat} (hs : CSh N V K k I A) (hk : k < 4) : AM kS_allWays 2 [.ref 10] (hC I A) (RQ (nI (sW (wvF N V K k) (cS N V K k))) (hC I A)) := by
  refine AMet.of (by decide) (by simp [Value.category]) (Nat.le_of_ble_eq_true rfl) ?_
  show AN _ _ _ 0 [some _, none, none] [] _
  refine aw_iconst (v := 0) dS_allWays_0 (by decide) ?_
  refine si3_1 dS_allWays_1 (by decide) ?_
  refine aw_iconst (v := 0) dS_allWays_2 (by decide) ?_
  refine si3_2 dS_allWays_3 (by decide) ?_
  exact an_weak (l_S_allWays N V K I A hs hk (cS N V K k) 0 (by omega)) ⟨rfl, rfl, rfl, trivial⟩

set_option maxHeartbeats 4000000 in
set_option maxRecDepth 100000 in
theorem l_S_beats (N : Nat → Nat) (V : Nat → Nat → Int32) (K : Nat → Int32) (I : Nat → Int32) (A : Nat → Nat → Int32) {k : Nat} (hs : CSh N V K k I A) (hk : k < 4) {n j : Nat} (hj : j < (cS N V K k)) (hn : (cS N V K k) ≤ n) (hn2 : n ≤ 200) : ∀ (m i : Nat), i + m = (cS N V K k) → AN kS_beatsOfSpan 3 (RQ (nI (wbE (wvF N V K k) (cS N V K k) (n - (cS N V K k)) j)) (hC I A)) 42 [some (.ref 10), some (.int (nI j)), some (.int (nI n)), some (.int (nI (sW (wvF N V K k) (cS N V K k)))), some (.int (nI (n - (cS N V K k)))), some (.int (nI ((n - (cS N V K k)) - sW (fl (wvF N V K k) (n - (cS N V K k)) (sW (wvF N V K k) (cS N V K k))) i))), some (.int (nI (cntB (fun o => bfB (rs (wvF N V K k) (n - (cS N V K k)) (sW (wvF N V K k) (cS N V K k))) o j) i))), some (.int (nI (rs (wvF N V K k) (n - (cS N V K k)) (sW (wvF N V K k) (cS N V K k)) j))), some (.int (nI i)), none] [] (hC I A) := by
  have hc40 : (cS N V K k) ≤ 40 := cS_le
  have h40 := hs.1.n k hk
  have hwb := wv_b (N := N) (V := V) (K := K) (k := k) h40
  have hWb := sW_b (w := (wvF N V K k)) (M := 40) (cS N V K k) (fun i hi => (hwb i hi).2)
  have hWp := sW_pos (w := (wvF N V K k)) (cS N V K k) (fun i hi => (hwb i hi).1)
  have hmb : ∀ o, o < (cS N V K k) → (n - (cS N V K k)) * (wvF N V K k) o < 2 ^ 31 := fun o ho => by
    have := Nat.mul_le_mul (show n - (cS N V K k) ≤ 200 by omega) (hwb o ho).2
    omega
  have hrb : ∀ o, (rs (wvF N V K k) (n - (cS N V K k)) (sW (wvF N V K k) (cS N V K k)) o) < 2 ^ 31 := fun o => Nat.lt_trans (Nat.mod_lt _ (by omega)) (by omega)
  have hWle : (sW (wvF N V K k) (cS N V K k)) ≤ 1600 := by have := Nat.mul_le_mul_right 40 hc40; omega
  intro m
  induction m with
  | zero =>
    intro i hin
    have hi : i = (cS N V K k) := by omega
    subst hi
    have hcb := cntB_bound (b := fun o => bfB (rs (wvF N V K k) (n - (cS N V K k)) (sW (wvF N V K k) (cS N V K k))) o j) (cS N V K k)
    refine aw_iload dS_beatsOfSpan_42 rfl ?_
    refine aw_aload_r dS_beatsOfSpan_44 rfl ?_
    refine aw_get fg_S_29 dS_beatsOfSpan_45 rfl rfl ?_
    refine an_top (y := nI (cS N V K k)) hs.2.1 ?_
    refine aw_icmp_ge (tgt := 109) dS_beatsOfSpan_48 (by decide) (fun c48 => ?_) (fun c48 => absurd (Int32.le_refl _) c48)
    refine aw_iconst (v := 1) dS_beatsOfSpan_109 (by decide) ?_
    refine aw_iload dS_beatsOfSpan_110 rfl ?_
    refine aw_aload_r dS_beatsOfSpan_112 rfl ?_
    refine aw_iload_n dS_beatsOfSpan_113 rfl ?_
    refine an_callVr cg_S_97 (c_S_waysOfSpan N V K I A hs (j := j) (show j < (cS N V K k) by omega)) dS_beatsOfSpan_114 rfl rfl rfl rfl rfl (Nat.le_of_ble_eq_true rfl) (Nat.le_of_ble_eq_true rfl) ?_
    refine aw_imul dS_beatsOfSpan_117 ?_
    refine an_top (pk_mul _ _) ?_
    refine aw_iload_n dS_beatsOfSpan_118 rfl ?_
    refine aw_idiv dS_beatsOfSpan_119 (nI_ne0 (by omega) (by omega)) ?_
    refine an_top (show nI ((n - (cS N V K k)) * (wvF N V K k) j) / nI (sW (wvF N V K k) (cS N V K k)) = nI (fl (wvF N V K k) (n - (cS N V K k)) (sW (wvF N V K k) (cS N V K k)) j) from pk_div (hmb j (by omega)) (by omega) (by omega)) ?_
    refine aw_iadd dS_beatsOfSpan_120 ?_
    refine an_top (show 1 + nI (fl (wvF N V K k) (n - (cS N V K k)) (sW (wvF N V K k) (cS N V K k)) j) = nI (1 + (fl (wvF N V K k) (n - (cS N V K k)) (sW (wvF N V K k) (cS N V K k)) j)) from nI_add 1 _) ?_
    refine si10_8 dS_beatsOfSpan_121 (by decide) ?_
    refine aw_iload dS_beatsOfSpan_123 rfl ?_
    refine aw_iload dS_beatsOfSpan_125 rfl ?_
    refine aw_icmp_ge (tgt := 137) dS_beatsOfSpan_127 (by decide) (fun c127 => ?_) (fun c127 => ?_)
    · refine aw_iload dS_beatsOfSpan_137 rfl ?_
      exact aw_iret rfl dS_beatsOfSpan_139 ⟨rfl, by unfold wbE; rw [if_neg (by rw [nI_leI (by omega) (by omega)] at c127; omega)]; rfl⟩
    · refine aw_iload dS_beatsOfSpan_130 rfl ?_
      refine aw_iconst (v := 1) dS_beatsOfSpan_132 (by decide) ?_
      refine aw_iadd dS_beatsOfSpan_133 ?_
      refine aw_goto (tgt := 139) dS_beatsOfSpan_134 (by decide) ?_
      exact aw_iret rfl dS_beatsOfSpan_139 ⟨rfl, by unfold wbE; rw [if_pos (by rw [nI_leI (by omega) (by omega)] at c127; omega)]; rw [show nI (1 + (fl (wvF N V K k) (n - (cS N V K k)) (sW (wvF N V K k) (cS N V K k)) j)) + 1 = nI (1 + (fl (wvF N V K k) (n - (cS N V K k)) (sW (wvF N V K k) (cS N V K k)) j) + 1) from nI_1 _]⟩
  | succ m ih =>
    intro i hin
    have hfl := fl_le (w := (wvF N V K k)) (L := (n - (cS N V K k))) (c := (cS N V K k)) (i := i + 1) (by omega) (by omega)
    have hrbi := hrb i
    have hrbj := hrb j
    refine aw_iload dS_beatsOfSpan_42 rfl ?_
    refine aw_aload_r dS_beatsOfSpan_44 rfl ?_
    refine aw_get fg_S_29 dS_beatsOfSpan_45 rfl rfl ?_
    refine an_top (y := nI (cS N V K k)) hs.2.1 ?_
    refine aw_icmp_ge (tgt := 109) dS_beatsOfSpan_48 (by decide) (fun c48 => absurd c48 (nI_ge (by omega) (by omega))) (fun c48 => ?_)
    refine aw_iload dS_beatsOfSpan_51 rfl ?_
    refine aw_iload dS_beatsOfSpan_53 rfl ?_
    refine aw_aload_r dS_beatsOfSpan_55 rfl ?_
    refine aw_iload dS_beatsOfSpan_56 rfl ?_
    refine an_callVr cg_S_97 (c_S_waysOfSpan N V K I A hs (j := i) (show i < (cS N V K k) by omega)) dS_beatsOfSpan_58 rfl rfl rfl rfl rfl (Nat.le_of_ble_eq_true rfl) (Nat.le_of_ble_eq_true rfl) ?_
    refine aw_imul dS_beatsOfSpan_61 ?_
    refine an_top (pk_mul _ _) ?_
    refine aw_iload_n dS_beatsOfSpan_62 rfl ?_
    refine aw_idiv dS_beatsOfSpan_63 (nI_ne0 (by omega) (by omega)) ?_
    refine an_top (show nI ((n - (cS N V K k)) * (wvF N V K k) i) / nI (sW (wvF N V K k) (cS N V K k)) = nI (fl (wvF N V K k) (n - (cS N V K k)) (sW (wvF N V K k) (cS N V K k)) i) from pk_div (hmb i (by omega)) (by omega) (by omega)) ?_
    refine aw_isub dS_beatsOfSpan_64 ?_
    refine an_top (pk_sub (by simp only [sW] at hfl; omega)) ?_
    refine si10_5 dS_beatsOfSpan_65 (by decide) ?_
    refine aw_iload dS_beatsOfSpan_67 rfl ?_
    refine aw_aload_r dS_beatsOfSpan_69 rfl ?_
    refine aw_iload dS_beatsOfSpan_70 rfl ?_
    refine an_callVr cg_S_97 (c_S_waysOfSpan N V K I A hs (j := i) (show i < (cS N V K k) by omega)) dS_beatsOfSpan_72 rfl rfl rfl rfl rfl (Nat.le_of_ble_eq_true rfl) (Nat.le_of_ble_eq_true rfl) ?_
    refine aw_imul dS_beatsOfSpan_75 ?_
    refine an_top (pk_mul _ _) ?_
    refine aw_iload_n dS_beatsOfSpan_76 rfl ?_
    refine aw_irem dS_beatsOfSpan_77 (nI_ne0 (by omega) (by omega)) ?_
    refine an_top (show nI ((n - (cS N V K k)) * (wvF N V K k) i) - nI ((n - (cS N V K k)) * (wvF N V K k) i) / nI (sW (wvF N V K k) (cS N V K k)) * nI (sW (wvF N V K k) (cS N V K k)) = nI (rs (wvF N V K k) (n - (cS N V K k)) (sW (wvF N V K k) (cS N V K k)) i) from pk_rem (hmb i (by omega)) (by omega) (by omega)) ?_
    refine si10_9 dS_beatsOfSpan_78 (by decide) ?_
    refine aw_iload dS_beatsOfSpan_80 rfl ?_
    refine aw_iload dS_beatsOfSpan_82 rfl ?_
    refine aw_icmp_gt (tgt := 100) dS_beatsOfSpan_84 (by decide) (fun c84 => ?_) (fun c84 => ?_)
    · refine ic10_6 dS_beatsOfSpan_100 (nI_1 _) (by decide) ?_
      refine ic10_8 dS_beatsOfSpan_103 (nI_1 i) (by decide) ?_
      refine aw_goto (tgt := 42) dS_beatsOfSpan_106 (by decide) ?_
      have ecn := (show cntB (fun o => bfB (rs (wvF N V K k) (n - (cS N V K k)) (sW (wvF N V K k) (cS N V K k))) o j) (i + 1) = (cntB (fun o => bfB (rs (wvF N V K k) (n - (cS N V K k)) (sW (wvF N V K k) (cS N V K k))) o j) i) + 1 by simp only [cntB]; rw [if_pos (bfB_iff.mpr (by rw [lt_T, nI_toInt (by omega), nI_toInt (by omega)] at c84; exact Or.inl (by omega)))])
      exact an_weak (ih (i + 1) (by omega)) ⟨rfl, rfl, rfl, rfl, rfl, by rw [show ((n - (cS N V K k)) - sW (fl (wvF N V K k) (n - (cS N V K k)) (sW (wvF N V K k) (cS N V K k))) (i + 1)) = ((n - (cS N V K k)) - sW (fl (wvF N V K k) (n - (cS N V K k)) (sW (wvF N V K k) (cS N V K k))) i) - (fl (wvF N V K k) (n - (cS N V K k)) (sW (wvF N V K k) (cS N V K k)) i) by simp only [sW]; omega]; rfl, by rw [ecn]; rfl, rfl, rfl, trivial⟩
    · refine aw_iload dS_beatsOfSpan_87 rfl ?_
      refine aw_iload dS_beatsOfSpan_89 rfl ?_
      refine aw_icmp_ne (tgt := 103) dS_beatsOfSpan_91 (by decide) (fun c91 => ?_) (fun c91 => ?_)
      · refine ic10_8 dS_beatsOfSpan_103 (nI_1 i) (by decide) ?_
        refine aw_goto (tgt := 42) dS_beatsOfSpan_106 (by decide) ?_
        have ecn := (show cntB (fun o => bfB (rs (wvF N V K k) (n - (cS N V K k)) (sW (wvF N V K k) (cS N V K k))) o j) (i + 1) = (cntB (fun o => bfB (rs (wvF N V K k) (n - (cS N V K k)) (sW (wvF N V K k) (cS N V K k))) o j) i) by simp only [cntB]; rw [if_neg (fun q => (fun z => by rw [lt_T, nI_toInt (by omega), nI_toInt (by omega)] at c84; have : ¬ (rs (wvF N V K k) (n - (cS N V K k)) (sW (wvF N V K k) (cS N V K k)) i) = (rs (wvF N V K k) (n - (cS N V K k)) (sW (wvF N V K k) (cS N V K k)) j) := fun e => c91 (by rw [e]); omega) (bfB_iff.mp q)), Nat.add_zero])
        exact an_weak (ih (i + 1) (by omega)) ⟨rfl, rfl, rfl, rfl, rfl, by rw [show ((n - (cS N V K k)) - sW (fl (wvF N V K k) (n - (cS N V K k)) (sW (wvF N V K k) (cS N V K k))) (i + 1)) = ((n - (cS N V K k)) - sW (fl (wvF N V K k) (n - (cS N V K k)) (sW (wvF N V K k) (cS N V K k))) i) - (fl (wvF N V K k) (n - (cS N V K k)) (sW (wvF N V K k) (cS N V K k)) i) by simp only [sW]; omega]; rfl, by rw [ecn]; rfl, rfl, rfl, trivial⟩
      · refine aw_iload dS_beatsOfSpan_94 rfl ?_
        refine aw_iload_n dS_beatsOfSpan_96 rfl ?_
        refine aw_icmp_ge (tgt := 103) dS_beatsOfSpan_97 (by decide) (fun c97 => ?_) (fun c97 => ?_)
        · refine ic10_8 dS_beatsOfSpan_103 (nI_1 i) (by decide) ?_
          refine aw_goto (tgt := 42) dS_beatsOfSpan_106 (by decide) ?_
          have ecn := (show cntB (fun o => bfB (rs (wvF N V K k) (n - (cS N V K k)) (sW (wvF N V K k) (cS N V K k))) o j) (i + 1) = (cntB (fun o => bfB (rs (wvF N V K k) (n - (cS N V K k)) (sW (wvF N V K k) (cS N V K k))) o j) i) by simp only [cntB]; rw [if_neg (fun q => (fun z => by rw [nI_leI (by omega) (by omega)] at c97; rw [lt_T, nI_toInt (by omega), nI_toInt (by omega)] at c84; omega) (bfB_iff.mp q)), Nat.add_zero])
          exact an_weak (ih (i + 1) (by omega)) ⟨rfl, rfl, rfl, rfl, rfl, by rw [show ((n - (cS N V K k)) - sW (fl (wvF N V K k) (n - (cS N V K k)) (sW (wvF N V K k) (cS N V K k))) (i + 1)) = ((n - (cS N V K k)) - sW (fl (wvF N V K k) (n - (cS N V K k)) (sW (wvF N V K k) (cS N V K k))) i) - (fl (wvF N V K k) (n - (cS N V K k)) (sW (wvF N V K k) (cS N V K k)) i) by simp only [sW]; omega]; rfl, by rw [ecn]; rfl, rfl, rfl, trivial⟩
        · refine ic10_6 dS_beatsOfSpan_100 (nI_1 _) (by decide) ?_
          refine ic10_8 dS_beatsOfSpan_103 (nI_1 i) (by decide) ?_
          refine aw_goto (tgt := 42) dS_beatsOfSpan_106 (by decide) ?_
          have ecn := (show cntB (fun o => bfB (rs (wvF N V K k) (n - (cS N V K k)) (sW (wvF N V K k) (cS N V K k))) o j) (i + 1) = (cntB (fun o => bfB (rs (wvF N V K k) (n - (cS N V K k)) (sW (wvF N V K k) (cS N V K k))) o j) i) + 1 by simp only [cntB]; rw [if_pos (bfB_iff.mpr (Or.inr ⟨nI_inj (by omega) (by omega) c91, by rw [nI_leI (by omega) (by omega)] at c97; omega⟩))])
          exact an_weak (ih (i + 1) (by omega)) ⟨rfl, rfl, rfl, rfl, rfl, by rw [show ((n - (cS N V K k)) - sW (fl (wvF N V K k) (n - (cS N V K k)) (sW (wvF N V K k) (cS N V K k))) (i + 1)) = ((n - (cS N V K k)) - sW (fl (wvF N V K k) (n - (cS N V K k)) (sW (wvF N V K k) (cS N V K k))) i) - (fl (wvF N V K k) (n - (cS N V K k)) (sW (wvF N V K k) (cS N V K k)) i) by simp only [sW]; omega]; rfl, by rw [ecn]; rfl, rfl, rfl, trivial⟩

set_option maxHeartbeats 4000000 in
set_option maxRecDepth 100000 in
theorem c_S_beatsOfSpan (N : Nat → Nat) (V : Nat → Nat → Int32) (K : Nat → Int32) (I : Nat → Int32) (A : Nat → Nat → Int32) {k : Nat} (hs : CSh N V K k I A) (hk : k < 4) {n j : Nat} (hj : j < (cS N V K k)) (hn : (cS N V K k) ≤ n) (hn2 : n ≤ 200) : AM kS_beatsOfSpan 3 [.ref 10, .int (nI j), .int (nI n)] (hC I A) (RQ (nI (wbE (wvF N V K k) (cS N V K k) (n - (cS N V K k)) j)) (hC I A)) := by
  refine AMet.of (by decide) (by simp [Value.category]) (Nat.le_of_ble_eq_true rfl) ?_
  show AN _ _ _ 0 [some _, some _, some _, none, none, none, none, none, none, none] [] _
  have hc40 : (cS N V K k) ≤ 40 := cS_le
  have h40 := hs.1.n k hk
  have hwb := wv_b (N := N) (V := V) (K := K) (k := k) h40
  have hWb := sW_b (w := (wvF N V K k)) (M := 40) (cS N V K k) (fun i hi => (hwb i hi).2)
  have hWp := sW_pos (w := (wvF N V K k)) (cS N V K k) (fun i hi => (hwb i hi).1)
  have hmb : ∀ o, o < (cS N V K k) → (n - (cS N V K k)) * (wvF N V K k) o < 2 ^ 31 := fun o ho => by
    have := Nat.mul_le_mul (show n - (cS N V K k) ≤ 200 by omega) (hwb o ho).2
    omega
  refine aw_aload_r dS_beatsOfSpan_0 rfl ?_
  refine an_callVr cg_S_100 (c_S_allWays N V K I A hs hk) dS_beatsOfSpan_1 rfl rfl rfl rfl rfl (Nat.le_of_ble_eq_true rfl) (Nat.le_of_ble_eq_true rfl) ?_
  refine si10_3 dS_beatsOfSpan_4 (by decide) ?_
  refine aw_iload_n dS_beatsOfSpan_5 rfl ?_
  refine aw_iconst (v := 1) dS_beatsOfSpan_6 (by decide) ?_
  refine aw_icmp_ge (tgt := 12) dS_beatsOfSpan_7 (by decide) (fun c7 => ?_) (fun c7 => absurd (nI_le (a := 1) (by omega) (by have := Nat.mul_le_mul_right 40 hc40; omega)) c7)
  refine aw_iload_n dS_beatsOfSpan_12 rfl ?_
  refine aw_aload_r dS_beatsOfSpan_13 rfl ?_
  refine aw_get fg_S_29 dS_beatsOfSpan_14 rfl rfl ?_
  refine an_top (y := nI (cS N V K k)) hs.2.1 ?_
  refine aw_isub dS_beatsOfSpan_17 ?_
  refine an_top (pk_sub hn) ?_
  refine si10_4 dS_beatsOfSpan_18 (by decide) ?_
  refine aw_iload dS_beatsOfSpan_20 rfl ?_
  refine si10_5 dS_beatsOfSpan_22 (by decide) ?_
  refine aw_iconst (v := 0) dS_beatsOfSpan_24 (by decide) ?_
  refine si10_6 dS_beatsOfSpan_25 (by decide) ?_
  refine aw_iload dS_beatsOfSpan_27 rfl ?_
  refine aw_aload_r dS_beatsOfSpan_29 rfl ?_
  refine aw_iload_n dS_beatsOfSpan_30 rfl ?_
  refine an_callVr cg_S_97 (c_S_waysOfSpan N V K I A hs (j := j) (show j < (cS N V K k) by omega)) dS_beatsOfSpan_31 rfl rfl rfl rfl rfl (Nat.le_of_ble_eq_true rfl) (Nat.le_of_ble_eq_true rfl) ?_
  refine aw_imul dS_beatsOfSpan_34 ?_
  refine an_top (pk_mul _ _) ?_
  refine aw_iload_n dS_beatsOfSpan_35 rfl ?_
  refine aw_irem dS_beatsOfSpan_36 (nI_ne0 (by omega) (by omega)) ?_
  refine an_top (show nI ((n - (cS N V K k)) * (wvF N V K k) j) - nI ((n - (cS N V K k)) * (wvF N V K k) j) / nI (sW (wvF N V K k) (cS N V K k)) * nI (sW (wvF N V K k) (cS N V K k)) = nI (rs (wvF N V K k) (n - (cS N V K k)) (sW (wvF N V K k) (cS N V K k)) j) from pk_rem (hmb j (by omega)) (by omega) (by omega)) ?_
  refine si10_7 dS_beatsOfSpan_37 (by decide) ?_
  refine aw_iconst (v := 0) dS_beatsOfSpan_39 (by decide) ?_
  refine si10_8 dS_beatsOfSpan_40 (by decide) ?_
  exact an_weak (l_S_beats N V K I A hs hk hj hn hn2 (cS N V K k) 0 (by omega)) ⟨rfl, rfl, rfl, rfl, rfl, rfl, rfl, rfl, rfl, trivial⟩

set_option maxHeartbeats 4000000 in
set_option maxRecDepth 100000 in
theorem c_E_whole (N : Nat → Nat) (V : Nat → Nat → Int32) (K : Nat → Int32) (I : Nat → Int32) (A : Nat → Nat → Int32) (hI : CInv N V K I A) (hP : PInv N V K) (r n j : Int32) : AM kE_whole 7 [.ref 0, .int r, .int n, .int j] (hC I A) (CR (sp_whole N V K r n j)) := by
  refine AMet.of (by decide) (by simp [Value.category]) (Nat.le_of_ble_eq_true rfl) ?_
  show AN _ _ _ 0 [some _, some _, some _, some _] [] _
  refine aw_iload_n dE_whole_0 rfl ?_
  refine aw_iconst (v := 1) dE_whole_1 (by decide) ?_
  refine aw_sipush (v := 200) dE_whole_2 (by decide) ?_
  refine an_callSb cg_E_82 (c_E_within _ _ _ _) dE_whole_5 rfl rfl (Nat.le_of_ble_eq_true rfl) (Nat.le_of_ble_eq_true rfl) (fun p5 => ?_) (fun p5 => ?_)
  · refine aw_if_eq (tgt := 19) dE_whole_8 (by decide) (fun q => absurd q (by decide)) (fun _ => ?_)
    refine aw_aload_r dE_whole_11 rfl ?_
    refine aw_iload_n dE_whole_12 rfl ?_
    refine an_callVx cg_E_89 (c_E_readShape N V K I A hI hP _) dE_whole_13 rfl rfl rfl rfl rfl (Nat.le_of_ble_eq_true rfl) (Nat.le_of_ble_eq_true rfl) ?_
    rintro _ _ (⟨p13, rfl, rfl⟩ | ⟨p13, rfl, I1, A1, rfl, hs, e6, hal⟩)
    · refine aw_if_ne (tgt := 21) dE_whole_16 (by decide) (fun q => absurd q (by decide)) (fun _ => ?_)
      refine aw_iconst (v := (-1)) dE_whole_19 (by decide) ?_
      exact aw_iret rfl dE_whole_20 (by unfold sp_whole; rw [cif_f (fun q => p13 q.1)]; exact ⟨rfl, I, A, rfl, hI⟩)
    · refine aw_if_ne (tgt := 21) dE_whole_16 (by decide) (fun _ => ?_) (fun q => absurd q (by decide))
      obtain ⟨k, hk, rfl⟩ := isRow_k p13
      rw [rn_n (k := k) (by omega)] at hs
      have hcl : cS N V K k ≤ 40 := cS_le
      have p5b := id p5
      unfold In at p5b
      rw [z_1, z_200] at p5b
      obtain ⟨m, hm, rfl⟩ := in_ix (n := 201) (by decide) (show 0 ≤ n.toInt by omega) (by omega)
      refine aw_aload_r dE_whole_21 rfl ?_
      refine aw_get fg_E_19 dE_whole_22 rfl rfl ?_
      refine aw_iload_n dE_whole_25 rfl ?_
      refine an_callVb cg_E_98 (c_S_hasSpan I1 A1 hs.2.1 cS_le j) dE_whole_26 rfl rfl rfl rfl rfl (Nat.le_of_ble_eq_true rfl) (Nat.le_of_ble_eq_true rfl) (fun p26 => ?_) (fun p26 => ?_)
      · refine aw_if_eq (tgt := 55) dE_whole_29 (by decide) (fun q => absurd q (by decide)) (fun _ => ?_)
        refine aw_iload_n dE_whole_32 rfl ?_
        refine aw_aload_r dE_whole_33 rfl ?_
        refine aw_get fg_E_19 dE_whole_34 rfl rfl ?_
        refine aw_get fg_E_92 dE_whole_37 rfl rfl ?_
        refine an_top (y := nI (cS N V K k)) hs.2.1 ?_
        refine aw_icmp_lt (tgt := 55) dE_whole_40 (by decide) (fun c40 => ?_) (fun c40 => ?_)
        · refine aw_iconst (v := (-1)) dE_whole_55 (by decide) ?_
          exact aw_iret rfl dE_whole_56 (by unfold sp_whole; rw [rn_n (k := k) (by omega), cif_f (fun q => by have := q.2.2.2; rw [lt_T, nI_toInt (by omega), nI_toInt (by omega)] at c40; rw [nI_toInt (by omega)] at this; omega)]; exact ⟨rfl, I1, A1, rfl, hs.1⟩)
        · rw [lt_T, nI_toInt (by omega), nI_toInt (by omega)] at c40
          obtain ⟨i, hil, rfl⟩ := in_ix (n := cS N V K k) (by omega) p26.1 p26.2
          refine aw_aload_r dE_whole_43 rfl ?_
          refine aw_get fg_E_19 dE_whole_44 rfl rfl ?_
          refine aw_iload_n dE_whole_47 rfl ?_
          refine aw_iload_n dE_whole_48 rfl ?_
          refine an_callVr cg_E_166 (c_S_beatsOfSpan N V K I1 A1 hs hk (n := m) (j := i) hil (by omega) (by omega)) dE_whole_49 rfl rfl rfl rfl rfl (Nat.le_of_ble_eq_true rfl) (Nat.le_of_ble_eq_true rfl) ?_
          refine aw_goto (tgt := 56) dE_whole_52 (by decide) ?_
          exact aw_iret rfl dE_whole_56 (by unfold sp_whole; rw [rn_n (k := k) (by omega), cif_t ⟨p13, p5, p26, by rw [nI_toInt (by omega)]; omega⟩, rn_n (k := m) (by omega), rn_n (k := i) (by omega)]; exact ⟨rfl, I1, A1, rfl, hs.1⟩)
      · refine aw_if_eq (tgt := 55) dE_whole_29 (by decide) (fun _ => ?_) (fun q => absurd q (by decide))
        refine aw_iconst (v := (-1)) dE_whole_55 (by decide) ?_
        exact aw_iret rfl dE_whole_56 (by unfold sp_whole; rw [rn_n (k := k) (by omega), cif_f (fun q => p26 q.2.2.1)]; exact ⟨rfl, I1, A1, rfl, hs.1⟩)
  · refine aw_if_eq (tgt := 19) dE_whole_8 (by decide) (fun _ => ?_) (fun q => absurd q (by decide))
    refine aw_iconst (v := (-1)) dE_whole_19 (by decide) ?_
    exact aw_iret rfl dE_whole_20 (by unfold sp_whole; rw [cif_f (fun q => p5 q.2.1)]; exact ⟨rfl, I, A, rfl, hI⟩)
