set_option maxHeartbeats 4000000 in
set_option maxRecDepth 100000 in
theorem c_T_ways (N : Nat → Nat) (V : Nat → Nat → Int32) (K : Nat → Int32) (J : Nat → Int32) (B : Nat → Nat → Int32) {k : Nat} (hs : ShQ N V K k J B) {j : Nat} (hj : j < (cS N V K k)) : AM kT_ways 1 [.ref 0, .int (nI j)] (hT J B) (RQ (nI ((wvF N V K k) j)) (hT J B)) := by
  refine AMet.of (by decide) (by simp [Value.category]) (Nat.le_of_ble_eq_true rfl) ?_
  show AN _ _ _ 0 [some _, some _] [] _
  have hc40 : (cS N V K k) ≤ 40 := cS_le
  have h1 := (sp_ok (v := V k) (n := N k) (p := K 8) 40).1 j hj
  refine aw_aload_r dT_ways_0 rfl ?_
  refine aw_get fg_T_41 dT_ways_1 rfl rfl ?_
  refine aw_iload_n dT_ways_4 rfl ?_
  refine an_ldT dT_ways_5 at_9 rfl (by omega) (by decide) ?_
  rw [hs.2.2.2.2.2.2 j hj]
  refine aw_aload_r dT_ways_6 rfl ?_
  refine aw_get fg_T_38 dT_ways_7 rfl rfl ?_
  refine aw_iload_n dT_ways_10 rfl ?_
  refine an_ldT dT_ways_11 at_8 rfl (by omega) (by decide) ?_
  rw [hs.2.2.2.2.2.1 j hj]
  refine aw_isub dT_ways_12 ?_
  exact aw_iret rfl dT_ways_13 ⟨rfl, by unfold wvF; rw [pk_sub (by omega)]⟩

set_option maxHeartbeats 4000000 in
set_option maxRecDepth 100000 in
theorem l_T_wh1 {Q : QT} (N : Nat → Nat) (V : Nat → Nat → Int32) (K : Nat → Int32) (J : Nat → Int32) (B : Nat → Nat → Int32) {k : Nat} (hs : ShQ N V K k J B) (hk : k < 4) {n j : Nat} (hj : j < (cS N V K k)) (hn : (cS N V K k) ≤ n) (hn2 : n ≤ 200) (kk : AN kT_whole 8 Q 79 [some (.ref 0), some (.int (nI k)), some (.int (nI n)), some (.int (nI j)), some (.int (nI (sW (wvF N V K k) (cS N V K k)))), none, none, none, none] [] (hT J B)) : ∀ (m i : Nat), i + m = (cS N V K k) → AN kT_whole 8 Q 53 [some (.ref 0), some (.int (nI k)), some (.int (nI n)), some (.int (nI j)), some (.int (nI (sW (wvF N V K k) i))), some (.int (nI i)), none, none, none] [] (hT J B) := by
  have hc40 : (cS N V K k) ≤ 40 := cS_le
  have h40 := hs.1.n k hk
  have hwb := wv_b (N := N) (V := V) (K := K) (k := k) h40
  have hWb := sW_b (w := (wvF N V K k)) (M := 40) (cS N V K k) (fun i hi => (hwb i hi).2)
  have hWp := sW_pos (w := (wvF N V K k)) (cS N V K k) (fun i hi => (hwb i hi).1)
  have hmb : ∀ o, o < (cS N V K k) → (n - (cS N V K k)) * (wvF N V K k) o < 2 ^ 31 := fun o ho => by
    have := Nat.mul_le_mul (show n - (cS N V K k) ≤ 200 by omega) (hwb o ho).2
    omega
  intro m
  induction m with
  | zero =>
    intro i hin
    have hi : i = (cS N V K k) := by omega
    subst hi
    refine aw_iload dT_whole_53 rfl ?_
    refine aw_aload_r dT_whole_55 rfl ?_
    refine aw_get fg_T_106 dT_whole_56 rfl rfl ?_
    refine an_top (y := nI (cS N V K k)) hs.2.1 ?_
    refine aw_icmp_ge (tgt := 79) dT_whole_59 (by decide) (fun c59 => ?_) (fun c59 => absurd (Int32.le_refl _) c59)
    exact an_weak kk ⟨rfl, rfl, rfl, rfl, rfl, trivial⟩
  | succ m ih =>
    intro i hin
    refine aw_iload dT_whole_53 rfl ?_
    refine aw_aload_r dT_whole_55 rfl ?_
    refine aw_get fg_T_106 dT_whole_56 rfl rfl ?_
    refine an_top (y := nI (cS N V K k)) hs.2.1 ?_
    refine aw_icmp_ge (tgt := 79) dT_whole_59 (by decide) (fun c59 => absurd c59 (nI_ge (by omega) (by omega))) (fun c59 => ?_)
    refine aw_iload dT_whole_62 rfl ?_
    refine aw_aload_r dT_whole_64 rfl ?_
    refine aw_iload dT_whole_65 rfl ?_
    refine an_callVr cg_T_160 (c_T_ways N V K _ _ (by exact hs) (j := i) (show i < (cS N V K k) by omega)) dT_whole_67 rfl rfl rfl rfl rfl (Nat.le_of_ble_eq_true rfl) (Nat.le_of_ble_eq_true rfl) ?_
    refine aw_iadd dT_whole_70 ?_
    refine an_top (nI_add _ _) ?_
    refine si9_4 dT_whole_71 (by decide) ?_
    refine ic9_5 dT_whole_73 (nI_1 i) (by decide) ?_
    refine aw_goto (tgt := 53) dT_whole_76 (by decide) ?_
    exact an_weak (ih (i + 1) (by omega)) ⟨rfl, rfl, rfl, rfl, rfl, rfl, trivial⟩

theorem zin {f : Nat → Int32} {i : Nat} (h : ∀ j, j < i → f j = 0) (j : Nat) (hj : j < i + 1) : upd f i 0 j = 0 := by
  by_cases e : j = i
  · subst e; rw [pk_us]
  · rw [pk_un e]; exact h j (by omega)
def MI1 (f : Nat → Int32) (m : Nat → Bool) (c : Nat) : Prop := ∀ o, o < c → f o = if m o = true then 1 else 0
theorem MI1.put {f : Nat → Int32} {m : Nat → Bool} {c b : Nat} (h : MI1 f m c) : MI1 (upd f b 1) (fun i => decide (i = b) || m i) c := fun o ho => by
  by_cases e : o = b
  · subst e; rw [pk_us]; simp
  · rw [pk_un e, h o ho]; simp [e]
def BI (r : Nat → Nat) (m : Nat → Bool) (i : Nat) (x : Int32) : Prop := (x = -1 ∧ ∀ o, o < i → m o = true) ∨ (∃ b, b < i ∧ x = nI b ∧ ¬ m b = true ∧ ∀ o, o < i → ¬ m o = true → o = b ∨ bfB r b o = true)
theorem BI.skip {r : Nat → Nat} {m : Nat → Bool} {i : Nat} {x : Int32} (h : BI r m i x) (hm : m i = true) : BI r m (i + 1) x := by
  rcases h with ⟨rfl, h⟩ | ⟨b, hb, rfl, h1, h2⟩
  · refine Or.inl ⟨rfl, fun o ho => ?_⟩
    by_cases e : o = i
    · rw [e]; exact hm
    · exact h o (by omega)
  · refine Or.inr ⟨b, by omega, rfl, h1, fun o ho hn => ?_⟩
    by_cases e : o = i
    · rw [e] at hn; exact absurd hm hn
    · exact h2 o (by omega) hn
theorem BI.first {r : Nat → Nat} {m : Nat → Bool} {i : Nat} (h : ∀ o, o < i → m o = true) (hm : ¬ m i = true) : BI r m (i + 1) (nI i) :=
  Or.inr ⟨i, by omega, rfl, hm, fun o ho hn => by
    by_cases e : o = i
    · exact Or.inl e
    · exact absurd (h o (by omega)) hn⟩
theorem BI.keep {r : Nat → Nat} {m : Nat → Bool} {i b : Nat} (hb : b < i) (h1 : ¬ m b = true) (h2 : ∀ o, o < i → ¬ m o = true → o = b ∨ bfB r b o = true) (hr : r i ≤ r b) : BI r m (i + 1) (nI b) :=
  Or.inr ⟨b, by omega, rfl, h1, fun o ho hn => by
    by_cases e : o = i
    · subst e; exact Or.inr (bfB_iff.mpr (by omega))
    · exact h2 o (by omega) hn⟩
theorem BI.swap {r : Nat → Nat} {m : Nat → Bool} {i b : Nat} (hm : ¬ m i = true) (h2 : ∀ o, o < i → ¬ m o = true → o = b ∨ bfB r b o = true) (hr : r b < r i) : BI r m (i + 1) (nI i) :=
  Or.inr ⟨i, by omega, rfl, hm, fun o ho hn => by
    by_cases e : o = i
    · exact Or.inl e
    · refine Or.inr (bfB_iff.mpr (Or.inl ?_))
      rcases h2 o (by omega) hn with e2 | e2
      · rw [e2]; exact hr
      · rw [bfB_iff] at e2; omega⟩
theorem BI.end {r : Nat → Nat} {m : Nat → Bool} {c : Nat} {x : Int32} (h : BI r m c x) (hc : cntB m c < c) : ∃ b, b < c ∧ x = nI b ∧ ¬ m b = true ∧ ∀ o, o < c → ¬ m o = true → o = b ∨ bfB r b o = true := by
  rcases h with ⟨-, h⟩ | h
  · rw [cntB_all c h] at hc; omega
  · exact h

set_option maxHeartbeats 4000000 in
set_option maxRecDepth 100000 in
theorem l_T_wh2 {Q : QT} (N : Nat → Nat) (V : Nat → Nat → Int32) (K : Nat → Int32) (J : Nat → Int32) (B : Nat → Nat → Int32) {k : Nat} (hs : ShQ N V K k J B) (hk : k < 4) {n j : Nat} (hj : j < (cS N V K k)) (hn : (cS N V K k) ≤ n) (hn2 : n ≤ 200) (kk : ∀ B2, ShQ N V K k J B2 → (∀ o, o < (cS N V K k) → B2 15 o = nI (fl (wvF N V K k) (n - (cS N V K k)) (sW (wvF N V K k) (cS N V K k)) o)) → (∀ o, o < (cS N V K k) → B2 16 o = 0) → AN kT_whole 8 Q 148 [some (.ref 0), some (.int (nI k)), some (.int (nI n)), some (.int (nI j)), some (.int (nI (sW (wvF N V K k) (cS N V K k)))), some (.int (nI (n - (cS N V K k)))), some (.int (nI ((n - (cS N V K k)) - sW (fl (wvF N V K k) (n - (cS N V K k)) (sW (wvF N V K k) (cS N V K k))) (cS N V K k)))), none, none] [] (hT J B2)) : ∀ (m i : Nat) (B1 : Nat → Nat → Int32), i + m = (cS N V K k) → ShQ N V K k J B1 → (∀ o, o < i → B1 15 o = nI (fl (wvF N V K k) (n - (cS N V K k)) (sW (wvF N V K k) (cS N V K k)) o)) → (∀ o, o < i → B1 16 o = 0) → AN kT_whole 8 Q 94 [some (.ref 0), some (.int (nI k)), some (.int (nI n)), some (.int (nI j)), some (.int (nI (sW (wvF N V K k) (cS N V K k)))), some (.int (nI (n - (cS N V K k)))), some (.int (nI ((n - (cS N V K k)) - sW (fl (wvF N V K k) (n - (cS N V K k)) (sW (wvF N V K k) (cS N V K k))) i))), some (.int (nI i)), none] [] (hT J B1) := by
  have hc40 : (cS N V K k) ≤ 40 := cS_le
  have h40 := hs.1.n k hk
  have hwb := wv_b (N := N) (V := V) (K := K) (k := k) h40
  have hWb := sW_b (w := (wvF N V K k)) (M := 40) (cS N V K k) (fun i hi => (hwb i hi).2)
  have hWp := sW_pos (w := (wvF N V K k)) (cS N V K k) (fun i hi => (hwb i hi).1)
  have hmb : ∀ o, o < (cS N V K k) → (n - (cS N V K k)) * (wvF N V K k) o < 2 ^ 31 := fun o ho => by
    have := Nat.mul_le_mul (show n - (cS N V K k) ≤ 200 by omega) (hwb o ho).2
    omega
  intro m
  induction m with
  | zero =>
    intro i B1 hin h1 hb hm
    have hi : i = (cS N V K k) := by omega
    subst hi
    refine aw_iload dT_whole_94 rfl ?_
    refine aw_aload_r dT_whole_96 rfl ?_
    refine aw_get fg_T_106 dT_whole_97 rfl rfl ?_
    refine an_top (y := nI (cS N V K k)) h1.2.1 ?_
    refine aw_icmp_ge (tgt := 148) dT_whole_100 (by decide) (fun c100 => ?_) (fun c100 => absurd (Int32.le_refl _) c100)
    exact an_weak (kk B1 h1 hb hm) ⟨rfl, rfl, rfl, rfl, rfl, rfl, rfl, trivial⟩
  | succ m ih =>
    intro i B1 hin h1 hb hm
    have hfl := fl_le (w := (wvF N V K k)) (L := (n - (cS N V K k))) (c := (cS N V K k)) (i := i + 1) (by omega) (by omega)
    refine aw_iload dT_whole_94 rfl ?_
    refine aw_aload_r dT_whole_96 rfl ?_
    refine aw_get fg_T_106 dT_whole_97 rfl rfl ?_
    refine an_top (y := nI (cS N V K k)) h1.2.1 ?_
    refine aw_icmp_ge (tgt := 148) dT_whole_100 (by decide) (fun c100 => absurd c100 (nI_ge (by omega) (by omega))) (fun c100 => ?_)
    refine aw_aload_r dT_whole_103 rfl ?_
    refine aw_get fg_T_65 dT_whole_104 rfl rfl ?_
    refine aw_iload dT_whole_107 rfl ?_
    refine aw_iload dT_whole_109 rfl ?_
    refine aw_aload_r dT_whole_111 rfl ?_
    refine aw_iload dT_whole_112 rfl ?_
    refine an_callVr cg_T_160 (c_T_ways N V K _ _ (by exact h1) (j := i) (show i < (cS N V K k) by omega)) dT_whole_114 rfl rfl rfl rfl rfl (Nat.le_of_ble_eq_true rfl) (Nat.le_of_ble_eq_true rfl) ?_
    refine aw_imul dT_whole_117 ?_
    refine an_top (pk_mul _ _) ?_
    refine aw_iload dT_whole_118 rfl ?_
    refine aw_idiv dT_whole_120 (nI_ne0 (by omega) (by omega)) ?_
    refine an_top (show nI ((n - (cS N V K k)) * (wvF N V K k) i) / nI (sW (wvF N V K k) (cS N V K k)) = nI (fl (wvF N V K k) (n - (cS N V K k)) (sW (wvF N V K k) (cS N V K k)) i) from pk_div (hmb i (by omega)) (by omega) (by omega)) ?_
    refine an_stT dT_whole_121 at_15 rfl (by omega) (by decide) ?_
    refine aw_iload dT_whole_122 rfl ?_
    refine aw_aload_r dT_whole_124 rfl ?_
    refine aw_get fg_T_65 dT_whole_125 rfl rfl ?_
    refine aw_iload dT_whole_128 rfl ?_
    refine an_ldT dT_whole_130 at_15 rfl (by omega) (by decide) ?_
    refine an_top (y := nI (fl (wvF N V K k) (n - (cS N V K k)) (sW (wvF N V K k) (cS N V K k)) i)) pk_us ?_
    refine aw_isub dT_whole_131 ?_
    refine an_top (pk_sub (by simp only [sW] at hfl; omega)) ?_
    refine si9_6 dT_whole_132 (by decide) ?_
    refine aw_aload_r dT_whole_134 rfl ?_
    refine aw_get fg_T_68 dT_whole_135 rfl rfl ?_
    refine aw_iload dT_whole_138 rfl ?_
    refine aw_iconst (v := 0) dT_whole_140 (by decide) ?_
    refine an_szT dT_whole_141 at_16 rfl (by omega) (by decide) (Or.inl rfl) ?_
    refine ic9_7 dT_whole_142 (nI_1 i) (by decide) ?_
    refine aw_goto (tgt := 94) dT_whole_145 (by decide) ?_
    exact an_weak (ih (i + 1) _ (by omega) (by exact h1) (fun o ho => kin1 hb o ho) (fun o ho => zin hm o ho)) ⟨rfl, rfl, rfl, rfl, rfl, rfl, by rw [show ((n - (cS N V K k)) - sW (fl (wvF N V K k) (n - (cS N V K k)) (sW (wvF N V K k) (cS N V K k))) (i + 1)) = ((n - (cS N V K k)) - sW (fl (wvF N V K k) (n - (cS N V K k)) (sW (wvF N V K k) (cS N V K k))) i) - (fl (wvF N V K k) (n - (cS N V K k)) (sW (wvF N V K k) (cS N V K k)) i) by simp only [sW]; omega]; rfl, rfl, trivial⟩

theorem nI_nm1 {b : Nat} (h : b < 2 ^ 31) : ¬ nI b = -1 := by
  intro q
  have := congrArg Int32.toInt q
  rw [nI_toInt h, z_m1] at this
  omega

set_option maxHeartbeats 4000000 in
set_option maxRecDepth 100000 in
theorem l_T_wh4 {Q : QT} (N : Nat → Nat) (V : Nat → Nat → Int32) (K : Nat → Int32) (J : Nat → Int32) (B : Nat → Nat → Int32) {k : Nat} (hs : ShQ N V K k J B) (hk : k < 4) {n j : Nat} (hj : j < (cS N V K k)) (hn : (cS N V K k) ≤ n) (hn2 : n ≤ 200) {B1 : Nat → Nat → Int32} {mm : Nat → Bool} {t : Nat} (h1 : ShQ N V K k J B1) (hM : MI1 (B1 16) mm (cS N V K k)) (hcl : cntB mm (cS N V K k) < (cS N V K k)) (kk : ∀ b, b < (cS N V K k) → ¬ mm b = true → (∀ o, o < (cS N V K k) → ¬ mm o = true → o = b ∨ bfB (rs (wvF N V K k) (n - (cS N V K k)) (sW (wvF N V K k) (cS N V K k))) b o = true) → AN kT_whole 8 Q 221 [some (.ref 0), some (.int (nI k)), some (.int (nI n)), some (.int (nI j)), some (.int (nI (sW (wvF N V K k) (cS N V K k)))), some (.int (nI (n - (cS N V K k)))), some (.int (nI t)), some (.int (nI b)), none] [] (hT J B1)) : ∀ (m i : Nat) (x : Int32), i + m = (cS N V K k) → BI (rs (wvF N V K k) (n - (cS N V K k)) (sW (wvF N V K k) (cS N V K k))) mm i x → AN kT_whole 8 Q 159 [some (.ref 0), some (.int (nI k)), some (.int (nI n)), some (.int (nI j)), some (.int (nI (sW (wvF N V K k) (cS N V K k)))), some (.int (nI (n - (cS N V K k)))), some (.int (nI t)), some (.int x), some (.int (nI i))] [] (hT J B1) := by
  have hc40 : (cS N V K k) ≤ 40 := cS_le
  have h40 := hs.1.n k hk
  have hwb := wv_b (N := N) (V := V) (K := K) (k := k) h40
  have hWb := sW_b (w := (wvF N V K k)) (M := 40) (cS N V K k) (fun i hi => (hwb i hi).2)
  have hWp := sW_pos (w := (wvF N V K k)) (cS N V K k) (fun i hi => (hwb i hi).1)
  have hmb : ∀ o, o < (cS N V K k) → (n - (cS N V K k)) * (wvF N V K k) o < 2 ^ 31 := fun o ho => by
    have := Nat.mul_le_mul (show n - (cS N V K k) ≤ 200 by omega) (hwb o ho).2
    omega
  have hrb : ∀ o, (rs (wvF N V K k) (n - (cS N V K k)) (sW (wvF N V K k) (cS N V K k)) o) < 2 ^ 31 := fun o => Nat.lt_trans (Nat.mod_lt _ (by omega)) (by omega)
  intro m
  induction m with
  | zero =>
    intro i x hin hB
    have hi : i = (cS N V K k) := by omega
    subst hi
    obtain ⟨b, hb, rfl, hnb, hmin⟩ := hB.end hcl
    refine aw_iload dT_whole_159 rfl ?_
    refine aw_aload_r dT_whole_161 rfl ?_
    refine aw_get fg_T_106 dT_whole_162 rfl rfl ?_
    refine an_top (y := nI (cS N V K k)) h1.2.1 ?_
    refine aw_icmp_ge (tgt := 221) dT_whole_165 (by decide) (fun c165 => ?_) (fun c165 => absurd (Int32.le_refl _) c165)
    exact an_weak (kk b hb hnb hmin) ⟨rfl, rfl, rfl, rfl, rfl, rfl, rfl, rfl, trivial⟩
  | succ m ih =>
    intro i x hin hB
    have hci : i < (cS N V K k) := by omega
    by_cases hm : mm i = true
    · refine aw_iload dT_whole_159 rfl ?_
      refine aw_aload_r dT_whole_161 rfl ?_
      refine aw_get fg_T_106 dT_whole_162 rfl rfl ?_
      refine an_top (y := nI (cS N V K k)) h1.2.1 ?_
      refine aw_icmp_ge (tgt := 221) dT_whole_165 (by decide) (fun c165 => absurd c165 (nI_ge (by omega) (by omega))) (fun c165 => ?_)
      refine aw_aload_r dT_whole_168 rfl ?_
      refine aw_get fg_T_68 dT_whole_169 rfl rfl ?_
      refine aw_iload dT_whole_172 rfl ?_
      refine an_lzT dT_whole_174 at_16 rfl (by omega) (by decide) ?_
      rw [hM i hci, if_pos hm]
      refine aw_if_ne (tgt := 215) dT_whole_175 (by decide) (fun c175 => ?_) (fun c175 => absurd c175 (by decide))
      refine ic9_8 dT_whole_215 (nI_1 i) (by decide) ?_
      refine aw_goto (tgt := 159) dT_whole_218 (by decide) ?_
      exact an_weak (ih (i + 1) x (by omega) (hB.skip hm)) ⟨rfl, rfl, rfl, rfl, rfl, rfl, rfl, rfl, rfl, trivial⟩
    · rcases hB with ⟨rfl, hall⟩ | ⟨b, hb, rfl, hnb, hmin⟩
      · refine aw_iload dT_whole_159 rfl ?_
        refine aw_aload_r dT_whole_161 rfl ?_
        refine aw_get fg_T_106 dT_whole_162 rfl rfl ?_
        refine an_top (y := nI (cS N V K k)) h1.2.1 ?_
        refine aw_icmp_ge (tgt := 221) dT_whole_165 (by decide) (fun c165 => absurd c165 (nI_ge (by omega) (by omega))) (fun c165 => ?_)
        refine aw_aload_r dT_whole_168 rfl ?_
        refine aw_get fg_T_68 dT_whole_169 rfl rfl ?_
        refine aw_iload dT_whole_172 rfl ?_
        refine an_lzT dT_whole_174 at_16 rfl (by omega) (by decide) ?_
        rw [hM i hci, if_neg hm]
        refine aw_if_ne (tgt := 215) dT_whole_175 (by decide) (fun c175 => absurd rfl c175) (fun c175 => ?_)
        refine aw_iload dT_whole_178 rfl ?_
        refine aw_iconst (v := (-1)) dT_whole_180 (by decide) ?_
        refine aw_icmp_eq (tgt := 211) dT_whole_181 (by decide) (fun _ => ?_) (fun q => absurd q (by decide))
        refine aw_iload dT_whole_211 rfl ?_
        refine si9_7 dT_whole_213 (by decide) ?_
        refine ic9_8 dT_whole_215 (nI_1 i) (by decide) ?_
        refine aw_goto (tgt := 159) dT_whole_218 (by decide) ?_
        exact an_weak (ih (i + 1) (nI i) (by omega) (BI.first hall hm)) ⟨rfl, rfl, rfl, rfl, rfl, rfl, rfl, rfl, rfl, trivial⟩
      · refine aw_iload dT_whole_159 rfl ?_
        refine aw_aload_r dT_whole_161 rfl ?_
        refine aw_get fg_T_106 dT_whole_162 rfl rfl ?_
        refine an_top (y := nI (cS N V K k)) h1.2.1 ?_
        refine aw_icmp_ge (tgt := 221) dT_whole_165 (by decide) (fun c165 => absurd c165 (nI_ge (by omega) (by omega))) (fun c165 => ?_)
        refine aw_aload_r dT_whole_168 rfl ?_
        refine aw_get fg_T_68 dT_whole_169 rfl rfl ?_
        refine aw_iload dT_whole_172 rfl ?_
        refine an_lzT dT_whole_174 at_16 rfl (by omega) (by decide) ?_
        rw [hM i hci, if_neg hm]
        refine aw_if_ne (tgt := 215) dT_whole_175 (by decide) (fun c175 => absurd rfl c175) (fun c175 => ?_)
        refine aw_iload dT_whole_178 rfl ?_
        refine aw_iconst (v := (-1)) dT_whole_180 (by decide) ?_
        refine aw_icmp_eq (tgt := 211) dT_whole_181 (by decide) (fun c181 => absurd c181 (nI_nm1 (by omega))) (fun c181 => ?_)
        refine aw_iload dT_whole_184 rfl ?_
        refine aw_aload_r dT_whole_186 rfl ?_
        refine aw_iload dT_whole_187 rfl ?_
        refine an_callVr cg_T_160 (c_T_ways N V K _ _ (by exact h1) (j := i) (show i < (cS N V K k) by omega)) dT_whole_189 rfl rfl rfl rfl rfl (Nat.le_of_ble_eq_true rfl) (Nat.le_of_ble_eq_true rfl) ?_
        refine aw_imul dT_whole_192 ?_
        refine an_top (pk_mul _ _) ?_
        refine aw_iload dT_whole_193 rfl ?_
        refine aw_irem dT_whole_195 (nI_ne0 (by omega) (by omega)) ?_
        refine an_top (show nI ((n - (cS N V K k)) * (wvF N V K k) i) - nI ((n - (cS N V K k)) * (wvF N V K k) i) / nI (sW (wvF N V K k) (cS N V K k)) * nI (sW (wvF N V K k) (cS N V K k)) = nI (rs (wvF N V K k) (n - (cS N V K k)) (sW (wvF N V K k) (cS N V K k)) i) from pk_rem (hmb i (by omega)) (by omega) (by omega)) ?_
        refine aw_iload dT_whole_196 rfl ?_
        refine aw_aload_r dT_whole_198 rfl ?_
        refine aw_iload dT_whole_199 rfl ?_
        refine an_callVr cg_T_160 (c_T_ways N V K _ _ (by exact h1) (j := b) (show b < (cS N V K k) by omega)) dT_whole_201 rfl rfl rfl rfl rfl (Nat.le_of_ble_eq_true rfl) (Nat.le_of_ble_eq_true rfl) ?_
        refine aw_imul dT_whole_204 ?_
        refine an_top (pk_mul _ _) ?_
        refine aw_iload dT_whole_205 rfl ?_
        refine aw_irem dT_whole_207 (nI_ne0 (by omega) (by omega)) ?_
        refine an_top (show nI ((n - (cS N V K k)) * (wvF N V K k) b) - nI ((n - (cS N V K k)) * (wvF N V K k) b) / nI (sW (wvF N V K k) (cS N V K k)) * nI (sW (wvF N V K k) (cS N V K k)) = nI (rs (wvF N V K k) (n - (cS N V K k)) (sW (wvF N V K k) (cS N V K k)) b) from pk_rem (hmb b (by omega)) (by omega) (by omega)) ?_
        refine aw_icmp_le (tgt := 215) dT_whole_208 (by decide) (fun c208 => ?_) (fun c208 => ?_)
        · refine ic9_8 dT_whole_215 (nI_1 i) (by decide) ?_
          refine aw_goto (tgt := 159) dT_whole_218 (by decide) ?_
          exact an_weak (ih (i + 1) (nI b) (by omega) (BI.keep hb hnb hmin (by rw [nI_leI (hrb i) (hrb b)] at c208; exact c208))) ⟨rfl, rfl, rfl, rfl, rfl, rfl, rfl, rfl, rfl, trivial⟩
        · refine aw_iload dT_whole_211 rfl ?_
          refine si9_7 dT_whole_213 (by decide) ?_
          refine ic9_8 dT_whole_215 (nI_1 i) (by decide) ?_
          refine aw_goto (tgt := 159) dT_whole_218 (by decide) ?_
          exact an_weak (ih (i + 1) (nI i) (by omega) (BI.swap hm hmin (by rw [nI_leI (hrb i) (hrb b)] at c208; omega))) ⟨rfl, rfl, rfl, rfl, rfl, rfl, rfl, rfl, rfl, trivial⟩

set_option maxHeartbeats 4000000 in
set_option maxRecDepth 100000 in
theorem l_T_wh3 (N : Nat → Nat) (V : Nat → Nat → Int32) (K : Nat → Int32) (J : Nat → Int32) (B : Nat → Nat → Int32) {k : Nat} (hs : ShQ N V K k J B) (hk : k < 4) {n j : Nat} (hj : j < (cS N V K k)) (hn : (cS N V K k) ≤ n) (hn2 : n ≤ 200) : ∀ (t : Nat) (B1 : Nat → Nat → Int32) (mm : Nat → Bool), ShQ N V K k J B1 → (∀ o, o < (cS N V K k) → B1 15 o = nI (fl (wvF N V K k) (n - (cS N V K k)) (sW (wvF N V K k) (cS N V K k)) o)) → MI1 (B1 16) mm (cS N V K k) → clo (rs (wvF N V K k) (n - (cS N V K k)) (sW (wvF N V K k) (cS N V K k))) mm (cS N V K k) → cntB mm (cS N V K k) + t = ((n - (cS N V K k)) - sW (fl (wvF N V K k) (n - (cS N V K k)) (sW (wvF N V K k) (cS N V K k))) (cS N V K k)) → AN kT_whole 8 (TR ((nI (wbE (wvF N V K k) (cS N V K k) (n - (cS N V K k)) j)), N, V, K)) 148 [some (.ref 0), some (.int (nI k)), some (.int (nI n)), some (.int (nI j)), some (.int (nI (sW (wvF N V K k) (cS N V K k)))), some (.int (nI (n - (cS N V K k)))), some (.int (nI t)), none, none] [] (hT J B1) := by
  have hc40 : (cS N V K k) ≤ 40 := cS_le
  have h40 := hs.1.n k hk
  have hwb := wv_b (N := N) (V := V) (K := K) (k := k) h40
  have hWb := sW_b (w := (wvF N V K k)) (M := 40) (cS N V K k) (fun i hi => (hwb i hi).2)
  have hWp := sW_pos (w := (wvF N V K k)) (cS N V K k) (fun i hi => (hwb i hi).1)
  have hmb : ∀ o, o < (cS N V K k) → (n - (cS N V K k)) * (wvF N V K k) o < 2 ^ 31 := fun o ho => by
    have := Nat.mul_le_mul (show n - (cS N V K k) ≤ 200 by omega) (hwb o ho).2
    omega
  have hll := lack_lt (w := (wvF N V K k)) (L := (n - (cS N V K k))) (c := (cS N V K k)) (by omega) (by omega)
  intro t
  induction t with
  | zero =>
    intro B1 mm h1 hb hM hcl hct
    have hfin := clo_rank hcl hj
    rw [show cntB mm (cS N V K k) = ((n - (cS N V K k)) - sW (fl (wvF N V K k) (n - (cS N V K k)) (sW (wvF N V K k) (cS N V K k))) (cS N V K k)) by omega] at hfin
    by_cases hmj : mm j = true
    · refine aw_iload dT_whole_148 rfl ?_
      refine aw_if_le (tgt := 235) dT_whole_150 (by decide) (fun c150 => ?_) (fun c150 => absurd (by decide) c150)
      refine aw_iconst (v := 1) dT_whole_235 (by decide) ?_
      refine aw_aload_r dT_whole_236 rfl ?_
      refine aw_get fg_T_65 dT_whole_237 rfl rfl ?_
      refine aw_iload_n dT_whole_240 rfl ?_
      refine an_ldT dT_whole_241 at_15 rfl (by omega) (by decide) ?_
      rw [hb j hj]
      refine aw_iadd dT_whole_242 ?_
      refine an_top (show 1 + nI (fl (wvF N V K k) (n - (cS N V K k)) (sW (wvF N V K k) (cS N V K k)) j) = nI (1 + (fl (wvF N V K k) (n - (cS N V K k)) (sW (wvF N V K k) (cS N V K k)) j)) from nI_add 1 _) ?_
      refine aw_aload_r dT_whole_243 rfl ?_
      refine aw_get fg_T_68 dT_whole_244 rfl rfl ?_
      refine aw_iload_n dT_whole_247 rfl ?_
      refine an_lzT dT_whole_248 at_16 rfl (by omega) (by decide) ?_
      rw [hM j hj, if_pos hmj]
      refine aw_if_eq (tgt := 256) dT_whole_249 (by decide) (fun c249 => absurd c249 (by decide)) (fun c249 => ?_)
      refine aw_iconst (v := 1) dT_whole_252 (by decide) ?_
      refine aw_goto (tgt := 257) dT_whole_253 (by decide) ?_
      refine aw_iadd dT_whole_257 ?_
      exact aw_iret rfl dT_whole_258 ⟨by unfold wbE; rw [if_pos (hfin.mp hmj)]; rw [show nI (1 + (fl (wvF N V K k) (n - (cS N V K k)) (sW (wvF N V K k) (cS N V K k)) j)) + 1 = nI (1 + (fl (wvF N V K k) (n - (cS N V K k)) (sW (wvF N V K k) (cS N V K k)) j) + 1) from nI_1 _], J, B1, rfl, h1.1⟩
    · refine aw_iload dT_whole_148 rfl ?_
      refine aw_if_le (tgt := 235) dT_whole_150 (by decide) (fun c150 => ?_) (fun c150 => absurd (by decide) c150)
      refine aw_iconst (v := 1) dT_whole_235 (by decide) ?_
      refine aw_aload_r dT_whole_236 rfl ?_
      refine aw_get fg_T_65 dT_whole_237 rfl rfl ?_
      refine aw_iload_n dT_whole_240 rfl ?_
      refine an_ldT dT_whole_241 at_15 rfl (by omega) (by decide) ?_
      rw [hb j hj]
      refine aw_iadd dT_whole_242 ?_
      refine an_top (show 1 + nI (fl (wvF N V K k) (n - (cS N V K k)) (sW (wvF N V K k) (cS N V K k)) j) = nI (1 + (fl (wvF N V K k) (n - (cS N V K k)) (sW (wvF N V K k) (cS N V K k)) j)) from nI_add 1 _) ?_
      refine aw_aload_r dT_whole_243 rfl ?_
      refine aw_get fg_T_68 dT_whole_244 rfl rfl ?_
      refine aw_iload_n dT_whole_247 rfl ?_
      refine an_lzT dT_whole_248 at_16 rfl (by omega) (by decide) ?_
      rw [hM j hj, if_neg hmj]
      refine aw_if_eq (tgt := 256) dT_whole_249 (by decide) (fun c249 => ?_) (fun c249 => absurd rfl c249)
      refine aw_iconst (v := 0) dT_whole_256 (by decide) ?_
      refine aw_iadd dT_whole_257 ?_
      exact aw_iret rfl dT_whole_258 ⟨by unfold wbE; rw [if_neg (fun q => hmj (hfin.mpr q))]; rw [Int32.add_zero]; rfl, J, B1, rfl, h1.1⟩
  | succ t ih =>
    intro B1 mm h1 hb hM hcl hct
    refine aw_iload dT_whole_148 rfl ?_
    refine aw_if_le (tgt := 235) dT_whole_150 (by decide) (fun c150 => absurd c150 (nI_nle (by omega) (by omega))) (fun c150 => ?_)
    refine aw_iconst (v := (-1)) dT_whole_153 (by decide) ?_
    refine si9_7 dT_whole_154 (by decide) ?_
    refine aw_iconst (v := 0) dT_whole_156 (by decide) ?_
    refine si9_8 dT_whole_157 (by decide) ?_
    refine an_weak (l_T_wh4 N V K J B hs hk hj hn hn2 h1 hM (by omega) (fun b hb2 hnb hmin => ?_) (cS N V K k) 0 (-1) (by omega) (Or.inl ⟨rfl, fun o ho => by omega⟩)) ⟨rfl, rfl, rfl, rfl, rfl, rfl, rfl, rfl, rfl, trivial⟩
    refine aw_aload_r dT_whole_221 rfl ?_
    refine aw_get fg_T_68 dT_whole_222 rfl rfl ?_
    refine aw_iload dT_whole_225 rfl ?_
    refine aw_iconst (v := 1) dT_whole_227 (by decide) ?_
    refine an_szT dT_whole_228 at_16 rfl (by omega) (by decide) (Or.inr rfl) ?_
    refine ic9_6 dT_whole_229 (pk_m1 t) (by decide) ?_
    refine aw_goto (tgt := 148) dT_whole_232 (by decide) ?_
    exact an_weak (ih _ _ (by exact h1) (by exact hb) hM.put (clo_add hcl hb2 hnb hmin) (by rw [cntB_add hnb, if_pos hb2]; omega)) ⟨rfl, rfl, rfl, rfl, rfl, rfl, rfl, trivial⟩

set_option maxHeartbeats 4000000 in
set_option maxRecDepth 100000 in
theorem c_T_whole (N : Nat → Nat) (V : Nat → Nat → Int32) (K : Nat → Int32) (J : Nat → Int32) (B : Nat → Nat → Int32) (hI : TInv N V K J B) (hP : PInv N V K) (r n j : Int32) : AM kT_whole 8 [.ref 0, .int r, .int n, .int j] (hT J B) (TR (sp_whole N V K r n j)) := by
  refine AMet.of (by decide) (by simp [Value.category]) (Nat.le_of_ble_eq_true rfl) ?_
  show AN _ _ _ 0 [some _, some _, some _, some _, none, none, none, none, none] [] _
  refine aw_iload_n dT_whole_0 rfl ?_
  refine an_callSb cg_T_72 (c_T_isRow _ _) dT_whole_1 rfl rfl (Nat.le_of_ble_eq_true rfl) (Nat.le_of_ble_eq_true rfl) (fun p1 => ?_) (fun p1 => ?_)
  · refine aw_if_eq (tgt := 22) dT_whole_4 (by decide) (fun q => absurd q (by decide)) (fun _ => ?_)
    refine aw_iload_n dT_whole_7 rfl ?_
    refine aw_iconst (v := 1) dT_whole_8 (by decide) ?_
    refine aw_sipush (v := 200) dT_whole_9 (by decide) ?_
    refine an_callSb cg_T_80 (c_T_isIn _ _ _ _) dT_whole_12 rfl rfl (Nat.le_of_ble_eq_true rfl) (Nat.le_of_ble_eq_true rfl) (fun p12 => ?_) (fun p12 => ?_)
    · refine aw_if_eq (tgt := 22) dT_whole_15 (by decide) (fun q => absurd q (by decide)) (fun _ => ?_)
      refine aw_iload_n dT_whole_18 rfl ?_
      refine aw_if_ge (tgt := 24) dT_whole_19 (by decide) (fun c19 => ?_) (fun c19 => ?_)
      · obtain ⟨k, hk, rfl⟩ := isRow_k p1
        have hcl : cS N V K k ≤ 40 := cS_le
        refine aw_aload_r dT_whole_24 rfl ?_
        refine aw_iload_n dT_whole_25 rfl ?_
        refine an_callVx cg_T_112 (c_T_shapes N V K _ _ hI hP hk) dT_whole_26 rfl rfl rfl rfl rfl (Nat.le_of_ble_eq_true rfl) (Nat.le_of_ble_eq_true rfl) ?_
        rintro _ _ ⟨rfl, J1, B1, rfl, hs⟩
        refine aw_iload_n dT_whole_29 rfl ?_
        refine aw_aload_r dT_whole_30 rfl ?_
        refine aw_get fg_T_106 dT_whole_31 rfl rfl ?_
        refine an_top (y := nI (cS N V K k)) hs.2.1 ?_
        refine aw_icmp_ge (tgt := 45) dT_whole_34 (by decide) (fun c34 => ?_) (fun c34 => ?_)
        · refine aw_iconst (v := (-1)) dT_whole_45 (by decide) ?_
          exact aw_iret rfl dT_whole_46 (by unfold sp_whole; rw [rn_n (k := k) (by omega), cif_f (fun q => by have := q.2.2.1.2; rw [le_T, nI_toInt (by omega)] at c34; omega)]; exact ⟨rfl, J1, B1, rfl, hs.1⟩)
        · refine aw_iload_n dT_whole_37 rfl ?_
          refine aw_aload_r dT_whole_38 rfl ?_
          refine aw_get fg_T_106 dT_whole_39 rfl rfl ?_
          refine an_top (y := nI (cS N V K k)) hs.2.1 ?_
          refine aw_icmp_ge (tgt := 47) dT_whole_42 (by decide) (fun c42 => ?_) (fun c42 => ?_)
          · have p12b := id p12
            unfold In at p12b
            rw [z_1, z_200] at p12b
            obtain ⟨m, hm, rfl⟩ := in_ix (n := 201) (by decide) (show 0 ≤ n.toInt by omega) (by omega)
            rw [le_T, nI_toInt (by omega), nI_toInt (by omega)] at c42
            rw [le_T, nI_toInt (by omega)] at c34
            rw [le_T, z_0] at c19
            obtain ⟨i, hil, rfl⟩ := in_ix (n := cS N V K k) (by omega) c19 (by omega)
            have hnm : cS N V K k ≤ m := by omega
            have e : sp_whole N V K (nI k) (nI m) (nI i) = (nI (wbE (wvF N V K k) (cS N V K k) (m - cS N V K k) i), N, V, K) := by
              unfold sp_whole
              rw [rn_n (k := k) (by omega), cif_t ⟨p1, p12, ⟨c19, by rw [nI_toInt (by omega)]; omega⟩, by rw [nI_toInt (by omega)]; omega⟩, rn_n (k := m) (by omega), rn_n (k := i) (by omega)]
            rw [e]
            refine aw_iconst (v := 0) dT_whole_47 (by decide) ?_
            refine si9_4 dT_whole_48 (by decide) ?_
            refine aw_iconst (v := 0) dT_whole_50 (by decide) ?_
            refine si9_5 dT_whole_51 (by decide) ?_
            refine an_weak (l_T_wh1 N V K J1 B1 hs hk (n := m) (j := i) hil hnm (by omega) ?_ (cS N V K k) 0 (by omega)) ⟨rfl, rfl, rfl, rfl, rfl, rfl, trivial⟩
            refine aw_iload_n dT_whole_79 rfl ?_
            refine aw_aload_r dT_whole_80 rfl ?_
            refine aw_get fg_T_106 dT_whole_81 rfl rfl ?_
            refine an_top (y := nI (cS N V K k)) hs.2.1 ?_
            refine aw_isub dT_whole_84 ?_
            refine an_top (pk_sub hnm) ?_
            refine si9_5 dT_whole_85 (by decide) ?_
            refine aw_iload dT_whole_87 rfl ?_
            refine si9_6 dT_whole_89 (by decide) ?_
            refine aw_iconst (v := 0) dT_whole_91 (by decide) ?_
            refine si9_7 dT_whole_92 (by decide) ?_
            exact an_weak (l_T_wh2 N V K J1 B1 hs hk hil hnm (by omega) (fun B2 h2 hb hz => l_T_wh3 N V K J1 B1 hs hk hil hnm (by omega) _ B2 (fun _ => false) h2 hb (fun o ho => by rw [hz o ho]; rfl) (fun i o hi ho h => by cases h) (by rw [cntB_none _ (fun i hi h => by cases h)]; omega)) (cS N V K k) 0 B1 (by omega) hs (fun o ho => by omega) (fun o ho => by omega)) ⟨rfl, rfl, rfl, rfl, rfl, rfl, rfl, rfl, trivial⟩
          · refine aw_iconst (v := (-1)) dT_whole_45 (by decide) ?_
            exact aw_iret rfl dT_whole_46 (by unfold sp_whole; rw [rn_n (k := k) (by omega), cif_f (fun q => by have := q.2.2.2; rw [le_T, nI_toInt (by omega)] at c42; omega)]; exact ⟨rfl, J1, B1, rfl, hs.1⟩)
      · refine aw_iconst (v := (-1)) dT_whole_22 (by decide) ?_
        exact aw_iret rfl dT_whole_23 (by unfold sp_whole; rw [cif_f (fun q => c19 (by rw [le_T, z_0]; exact q.2.2.1.1))]; exact ⟨rfl, J, B, rfl, hI⟩)
    · refine aw_if_eq (tgt := 22) dT_whole_15 (by decide) (fun _ => ?_) (fun q => absurd q (by decide))
      refine aw_iconst (v := (-1)) dT_whole_22 (by decide) ?_
      exact aw_iret rfl dT_whole_23 (by unfold sp_whole; rw [cif_f (fun q => p12 q.2.1)]; exact ⟨rfl, J, B, rfl, hI⟩)
  · refine aw_if_eq (tgt := 22) dT_whole_4 (by decide) (fun _ => ?_) (fun q => absurd q (by decide))
    refine aw_iconst (v := (-1)) dT_whole_22 (by decide) ?_
    exact aw_iret rfl dT_whole_23 (by unfold sp_whole; rw [cif_f (fun q => p1 q.1)]; exact ⟨rfl, J, B, rfl, hI⟩)
