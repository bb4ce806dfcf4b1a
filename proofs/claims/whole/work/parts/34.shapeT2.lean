set_option maxHeartbeats 4000000 in
set_option maxRecDepth 100000 in
theorem g_T_s46 {d : Nat} {Q : QT} {a1 a4 a5 a6 a3 : Option Value} {N : Nat → Nat} {V : Nat → Nat → Int32} {K J : Nat → Int32} {B : Nat → Nat → Int32} {k i : Nat} (hi : i < 40) (h5 : ∀ j, j < i → B 5 j = nI (kq (V k) (N k) (K 8) j)) (kk : AN kT_shapes d Q 63 [some (.ref 0), a1, some (.int (nI i)), some (.int (nI (bef (V k) (N k) (K 8) i))), a4, a5, a6] [] (hT J B)) : AN kT_shapes d Q 46 [some (.ref 0), a1, some (.int (nI i)), a3, a4, a5, a6] [] (hT J B) := by
  refine aw_iload_n dT_shapes_46 rfl ?_
  refine aw_if_le (tgt := 61) dT_shapes_47 (by decide) (fun c47 => ?_) (fun c47 => ?_)
  · have h0 : i = 0 := by
      rw [le_T, nI_toInt (by omega), z_0] at c47; omega
    subst h0
    refine aw_iconst (v := 0) dT_shapes_61 (by decide) ?_
    refine si7_3 dT_shapes_62 (by decide) ?_
    exact kk
  · obtain ⟨j, rfl⟩ : ∃ j, i = j + 1 := ⟨i - 1, by rw [le_T, nI_toInt (by omega), z_0] at c47; omega⟩
    refine aw_aload_r dT_shapes_50 rfl ?_
    refine aw_get fg_T_29 dT_shapes_51 rfl rfl ?_
    refine aw_iload_n dT_shapes_54 rfl ?_
    refine aw_iconst (v := 1) dT_shapes_55 (by decide) ?_
    refine aw_isub dT_shapes_56 ?_
    refine an_top (nI_pred j) ?_
    refine an_ldT dT_shapes_57 at_5 rfl (by omega) (by decide) ?_
    rw [h5 j (by omega)]
    refine aw_goto (tgt := 62) dT_shapes_58 (by decide) ?_
    refine si7_3 dT_shapes_62 (by decide) ?_
    exact kk

set_option maxHeartbeats 4000000 in
set_option maxRecDepth 100000 in
theorem g_T_s75 {d : Nat} {Q : QT} {a1 a4 a6 : Option Value} {N : Nat → Nat} {V : Nat → Nat → Int32} {K J : Nat → Int32} {B : Nat → Nat → Int32} {k i b q : Nat} (h1 : TInv N V K J B) (hi : i < 40) (hb : b < 1000) (hq1 : 1 ≤ q) (hq3 : q ≤ 3) (hD : ∀ q, 1 ≤ q → q ≤ 3 → B 6 (4 * i + q) = DP (V k) (N k) (K 8) i q) (kk : AN kT_shapes d Q 103 [some (.ref 0), a1, some (.int (nI i)), some (.int (nI b)), a4, some (.int (nI q)), some (.int (cb (DP (V k) (N k) (K 8) i) (K 8) b q))] [] (hT J B)) : AN kT_shapes d Q 75 [some (.ref 0), a1, some (.int (nI i)), some (.int (nI b)), a4, some (.int (nI q)), a6] [] (hT J B) := by
  refine aw_aload_r dT_shapes_75 rfl ?_
  refine aw_get fg_T_32 dT_shapes_76 rfl rfl ?_
  refine aw_iconst (v := 4) dT_shapes_79 (by decide) ?_
  refine aw_iload_n dT_shapes_80 rfl ?_
  refine aw_imul dT_shapes_81 ?_
  refine aw_iload dT_shapes_82 rfl ?_
  refine aw_iadd dT_shapes_84 ?_
  refine an_ldT dT_shapes_85 at_6 ix4 (by omega) (by decide) ?_
  rw [hD q hq1 hq3]
  refine aw_iload dT_shapes_86 rfl ?_
  refine aw_iload_n dT_shapes_88 rfl ?_
  refine aw_icmp_ne (tgt := 96) dT_shapes_89 (by decide) (fun c89 => ?_) (fun c89 => ?_)
  · refine aw_aload_r dT_shapes_96 rfl ?_
    refine aw_get fg_T_22 dT_shapes_97 rfl rfl ?_
    show AN _ _ _ _ _ (.int (J 4) :: _) _
    rw [h1.2.1]
    refine aw_iadd dT_shapes_100 ?_
    refine an_top (show _ = (cb (DP (V k) (N k) (K 8) i) (K 8) b q) by rw [cb_val, if_neg (fun e => c89 (by rw [e]))]) ?_
    refine si7_6 dT_shapes_101 (by decide) ?_
    exact kk
  · refine aw_iconst (v := 0) dT_shapes_92 (by decide) ?_
    refine aw_goto (tgt := 100) dT_shapes_93 (by decide) ?_
    refine aw_iadd dT_shapes_100 ?_
    refine an_top (show _ = (cb (DP (V k) (N k) (K 8) i) (K 8) b q) by rw [cb_val, if_pos (nI_inj (by omega) (by omega) c89)]) ?_
    refine si7_6 dT_shapes_101 (by decide) ?_
    exact kk

set_option maxHeartbeats 4000000 in
set_option maxRecDepth 100000 in
theorem g_T_s103 {d : Nat} {Q : QT} {a1 : Option Value} {bb : Nat} {N : Nat → Nat} {V : Nat → Nat → Int32} {K J : Nat → Int32} {B : Nat → Nat → Int32} {k i b q : Nat} (h1 : TInv N V K J B) (hi : i < 40) (hb : b < 1000) (hq1 : 1 ≤ q) (hq3 : q ≤ 3) (hD : ∀ q, 1 ≤ q → q ≤ 3 → B 6 (4 * i + q) = DP (V k) (N k) (K 8) i q) (hb1 : 1 ≤ bb) (hb3 : bb ≤ 3) (kk : AN kT_shapes d Q 143 [some (.ref 0), a1, some (.int (nI i)), some (.int (nI b)), some (.int (nI (if (cb (DP (V k) (N k) (K 8) i) (K 8) b q) < (cb (DP (V k) (N k) (K 8) i) (K 8) b bb) then q else bb))), some (.int (nI q)), some (.int (cb (DP (V k) (N k) (K 8) i) (K 8) b q))] [] (hT J B)) : AN kT_shapes d Q 103 [some (.ref 0), a1, some (.int (nI i)), some (.int (nI b)), some (.int (nI bb)), some (.int (nI q)), some (.int (cb (DP (V k) (N k) (K 8) i) (K 8) b q))] [] (hT J B) := by
  refine aw_iload dT_shapes_103 rfl ?_
  refine aw_if_eq (tgt := 139) dT_shapes_105 (by decide) (fun c105 => absurd c105 (nI_ne0 (by omega) (by omega))) (fun c105 => ?_)
  refine aw_iload dT_shapes_108 rfl ?_
  refine aw_aload_r dT_shapes_110 rfl ?_
  refine aw_get fg_T_32 dT_shapes_111 rfl rfl ?_
  refine aw_iconst (v := 4) dT_shapes_114 (by decide) ?_
  refine aw_iload_n dT_shapes_115 rfl ?_
  refine aw_imul dT_shapes_116 ?_
  refine aw_iload dT_shapes_117 rfl ?_
  refine aw_iadd dT_shapes_119 ?_
  refine an_ldT dT_shapes_120 at_6 ix4 (by omega) (by decide) ?_
  rw [hD bb hb1 hb3]
  refine aw_iload dT_shapes_121 rfl ?_
  refine aw_iload_n dT_shapes_123 rfl ?_
  refine aw_icmp_ne (tgt := 131) dT_shapes_124 (by decide) (fun c124 => ?_) (fun c124 => ?_)
  · refine aw_aload_r dT_shapes_131 rfl ?_
    refine aw_get fg_T_22 dT_shapes_132 rfl rfl ?_
    show AN _ _ _ _ _ (.int (J 4) :: _) _
    rw [h1.2.1]
    refine aw_iadd dT_shapes_135 ?_
    refine an_top (show _ = (cb (DP (V k) (N k) (K 8) i) (K 8) b bb) by rw [cb_val, if_neg (fun e => c124 (by rw [e]))]) ?_
    refine aw_icmp_ge (tgt := 143) dT_shapes_136 (by decide) (fun c136 => ?_) (fun c136 => ?_)
    · rw [if_neg (Int32.not_lt.mpr c136)] at kk
      exact kk
    · refine aw_iload dT_shapes_139 rfl ?_
      refine si7_4 dT_shapes_141 (by decide) ?_
      rw [if_pos (Int32.not_le.mp c136)] at kk
      exact kk
  · refine aw_iconst (v := 0) dT_shapes_127 (by decide) ?_
    refine aw_goto (tgt := 135) dT_shapes_128 (by decide) ?_
    refine aw_iadd dT_shapes_135 ?_
    refine an_top (show _ = (cb (DP (V k) (N k) (K 8) i) (K 8) b bb) by rw [cb_val, if_pos (nI_inj (by omega) (by omega) c124)]) ?_
    refine aw_icmp_ge (tgt := 143) dT_shapes_136 (by decide) (fun c136 => ?_) (fun c136 => ?_)
    · rw [if_neg (Int32.not_lt.mpr c136)] at kk
      exact kk
    · refine aw_iload dT_shapes_139 rfl ?_
      refine si7_4 dT_shapes_141 (by decide) ?_
      rw [if_pos (Int32.not_le.mp c136)] at kk
      exact kk

theorem bef_lt {v : Nat → Int32} {n : Nat} {p : Int32} {i : Nat} : bef v n p i < 1000 := by
  cases i with
  | zero => show 0 < 1000; decide
  | succ i =>
    show kq v n p i < 1000
    rw [kq_eq]
    split
    · have := bk_range (g := DP v n p i) (p := p) (b := bef v n p i); omega
    · omega
theorem kin2 {f : Nat → Int32} {g : Nat → Nat} {i : Nat} (h : ∀ j, j < i → f j = nI (g j)) (j : Nat) (hj : j < i + 1) : upd (upd f i 0) i (nI (g i)) j = nI (g j) := by
  by_cases e : j = i
  · subst e; rw [pk_us]
  · rw [pk_un e, pk_un e]; exact h j (by omega)
theorem kin0 {f : Nat → Int32} {g : Nat → Nat} {i : Nat} (h : ∀ j, j < i → f j = nI (g j)) (hz : g i = 0) (j : Nat) (hj : j < i + 1) : upd f i 0 j = nI (g j) := by
  by_cases e : j = i
  · subst e; rw [pk_us, hz]; rfl
  · rw [pk_un e]; exact h j (by omega)

set_option maxHeartbeats 4000000 in
set_option maxRecDepth 100000 in
theorem l_T_shapes (N : Nat → Nat) (V : Nat → Nat → Int32) (K : Nat → Int32) (J : Nat → Int32) (B : Nat → Nat → Int32) (hI : TInv N V K J B) (hP : PInv N V K) {k : Nat} (hk : k < 4) : ∀ (n i : Nat) (J1 : Nat → Int32) (B1 : Nat → Nat → Int32), i + n = N k → TInv N V K J1 B1 → J1 10 = nI (spc (V k) (N k) (K 8) i) → J1 9 = (alS (V k) (N k) (K 8) i) → (∀ j, j < i → B1 5 j = nI (kq (V k) (N k) (K 8) j)) → AG (B1 7) (spg (V k) (N k) (K 8) i) (spc (V k) (N k) (K 8) i) → AG (B1 8) (spf (V k) (N k) (K 8) i) (spc (V k) (N k) (K 8) i) → AG (B1 9) (spl (V k) (N k) (K 8) i) (spc (V k) (N k) (K 8) i) → tblD (B1 6) (V k) (N k) (K 8) 0 → AN kT_shapes 6 (SQT N V K k) 17 [some (.ref 0), some (.int (nI k)), some (.int (nI i)), none, none, none, none] [] (hT J1 B1) := by
  have h40 := hI.n k hk
  intro n
  induction n with
  | zero =>
    intro i J1 B1 hin h1 h10 h9 h5 h7 h8 h11 hD
    have hiN : i = N k := by omega
    subst hiN
    refine aw_iload_n dT_shapes_17 rfl ?_
    refine aw_aload_r dT_shapes_18 rfl ?_
    refine aw_get fg_T_7 dT_shapes_19 rfl rfl ?_
    refine aw_iload_n dT_shapes_22 rfl ?_
    refine an_ldT dT_shapes_23 at_1 rfl hk (by decide) ?_
    rw [(h1.1 k hk).2.1]
    refine aw_icmp_ge (tgt := 246) dT_shapes_24 (by decide) (fun c24 => ?_) (fun c24 => absurd (Int32.le_refl _) c24)
    exact aw_vret rfl dT_shapes_246 ⟨rfl, J1, B1, rfl, h1, by rw [spc_40 h40]; exact h10, by rw [(SPs_40 h40).2]; exact h9, h5, by rw [spg_40 h40, spc_40 h40]; exact h7, by rw [spf_40 h40, spc_40 h40]; exact h8, by rw [spl_40 h40, spc_40 h40]; exact h11⟩
  | succ n ih =>
    intro i J1 B1 hin h1 h10 h9 h5 h7 h8 h11 hD
    have hi40 : i < 40 := by omega
    have hcl := spc_le (v := V k) (n := N k) (p := K 8) i
    refine aw_iload_n dT_shapes_17 rfl ?_
    refine aw_aload_r dT_shapes_18 rfl ?_
    refine aw_get fg_T_7 dT_shapes_19 rfl rfl ?_
    refine aw_iload_n dT_shapes_22 rfl ?_
    refine an_ldT dT_shapes_23 at_1 rfl hk (by decide) ?_
    rw [(h1.1 k hk).2.1]
    refine aw_icmp_ge (tgt := 246) dT_shapes_24 (by decide) (fun c24 => absurd c24 (nI_ge (by omega) (by omega))) (fun c24 => ?_)
    refine aw_aload_r dT_shapes_27 rfl ?_
    refine aw_get fg_T_29 dT_shapes_28 rfl rfl ?_
    refine aw_iload_n dT_shapes_31 rfl ?_
    refine aw_iconst (v := 0) dT_shapes_32 (by decide) ?_
    refine an_stT dT_shapes_33 at_5 rfl hi40 (by decide) ?_
    refine aw_aload_r dT_shapes_34 rfl ?_
    refine aw_iload_n dT_shapes_35 rfl ?_
    refine aw_iload_n dT_shapes_36 rfl ?_
    refine an_callVb cg_T_94 (c_T_isWay N V K _ _ (by exact h1) hk (by omega)) dT_shapes_37 rfl rfl rfl rfl rfl (Nat.le_of_ble_eq_true rfl) (Nat.le_of_ble_eq_true rfl) (fun p37 => ?_) (fun p37 => ?_)
    · refine aw_if_ne (tgt := 46) dT_shapes_40 (by decide) (fun _ => ?_) (fun q => absurd q (by decide))
      have h5u : ∀ j, j < i → (va_up B1 5 (upd (B1 5) i 0)) 5 j = nI (kq (V k) (N k) (K 8) j) := fun j hj => (pk_un (by omega)).trans (h5 j hj)
      have hDi : ∀ q, 1 ≤ q → q ≤ 3 → (va_up B1 5 (upd (B1 5) i 0)) 6 (4 * i + q) = DP (V k) (N k) (K 8) i q := fun q a b => hD i (by omega) (by omega) q a b
      have hbf : (bef (V k) (N k) (K 8) i) < 1000 := bef_lt
      refine g_T_s46 hi40 h5u ?_
      refine aw_iconst (v := 0) dT_shapes_63 (by decide) ?_
      refine si7_4 dT_shapes_64 (by decide) ?_
      refine aw_iconst (v := 1) dT_shapes_66 (by decide) ?_
      refine si7_5 dT_shapes_67 (by decide) ?_
      refine aw_iload dT_shapes_69 rfl ?_
      refine aw_iconst (v := 4) dT_shapes_71 (by decide) ?_
      refine aw_icmp_ge (tgt := 149) dT_shapes_72 (by decide) (fun q => absurd q (by decide)) (fun _ => ?_)
      refine g_T_s75 (q := 1) (by exact h1) hi40 hbf (by decide) (by decide) hDi ?_
      refine aw_iload dT_shapes_103 rfl ?_
      refine aw_if_eq (tgt := 139) dT_shapes_105 (by decide) (fun _ => ?_) (fun q => absurd q (by decide))
      refine aw_iload dT_shapes_139 rfl ?_
      refine si7_4 dT_shapes_141 (by decide) ?_
      refine ic7_5 (w := 2) dT_shapes_143 (by decide) (by decide) ?_
      refine aw_goto (tgt := 69) dT_shapes_146 (by decide) ?_
      refine aw_iload dT_shapes_69 rfl ?_
      refine aw_iconst (v := 4) dT_shapes_71 (by decide) ?_
      refine aw_icmp_ge (tgt := 149) dT_shapes_72 (by decide) (fun q => absurd q (by decide)) (fun _ => ?_)
      refine g_T_s75 (q := 2) (by exact h1) hi40 hbf (by decide) (by decide) hDi ?_
      refine g_T_s103 (q := 2) (bb := 1) (by exact h1) hi40 hbf (by decide) (by decide) hDi (by decide) (by decide) ?_
      refine ic7_5 (w := 3) dT_shapes_143 (by decide) (by decide) ?_
      refine aw_goto (tgt := 69) dT_shapes_146 (by decide) ?_
      refine aw_iload dT_shapes_69 rfl ?_
      refine aw_iconst (v := 4) dT_shapes_71 (by decide) ?_
      refine aw_icmp_ge (tgt := 149) dT_shapes_72 (by decide) (fun q => absurd q (by decide)) (fun _ => ?_)
      refine g_T_s75 (q := 3) (by exact h1) hi40 hbf (by decide) (by decide) hDi ?_
      refine g_T_s103 (q := 3) (by exact h1) hi40 hbf (by decide) (by decide) hDi (by split <;> omega) (by split <;> omega) ?_
      refine ic7_5 (w := 4) dT_shapes_143 (by decide) (by decide) ?_
      refine aw_goto (tgt := 69) dT_shapes_146 (by decide) ?_
      refine aw_iload dT_shapes_69 rfl ?_
      refine aw_iconst (v := 4) dT_shapes_71 (by decide) ?_
      refine aw_icmp_ge (tgt := 149) dT_shapes_72 (by decide) (fun _ => ?_) (fun q => absurd q (by decide))
      refine an_weak (L' := [some (.ref 0), some (.int (nI k)), some (.int (nI i)), some (.int (nI (bef (V k) (N k) (K 8) i))), some (.int (nI (kq (V k) (N k) (K 8) i))), none, none]) ?_ ⟨rfl, rfl, rfl, rfl, by rw [kq_eq, if_pos p37]; rfl, trivial⟩
      have hkr := kq_range (p := K 8) p37
      have hk0 : ¬ (kq (V k) (N k) (K 8) i) = 0 := by omega
      refine aw_aload_r dT_shapes_149 rfl ?_
      refine aw_get fg_T_29 dT_shapes_150 rfl rfl ?_
      refine aw_iload_n dT_shapes_153 rfl ?_
      refine aw_iload dT_shapes_154 rfl ?_
      refine an_stT dT_shapes_156 at_5 rfl hi40 (by decide) ?_
      refine aw_aload_r dT_shapes_157 rfl ?_
      refine aw_dup dT_shapes_158 rfl ?_
      refine aw_get fg_T_109 dT_shapes_159 rfl rfl ?_
      refine an_top (y := (alS (V k) (N k) (K 8) i)) h9 ?_
      refine aw_aload_r dT_shapes_162 rfl ?_
      refine aw_iload_n dT_shapes_163 rfl ?_
      refine aw_iload_n dT_shapes_164 rfl ?_
      refine aw_iload dT_shapes_165 rfl ?_
      refine an_callVr cg_T_98 (c_T_wayCost N V K _ _ (by exact h1) hk (by have := p37.1; omega) hkr.1 hkr.2) dT_shapes_167 rfl rfl rfl rfl rfl (Nat.le_of_ble_eq_true rfl) (Nat.le_of_ble_eq_true rfl) ?_
      refine aw_iload dT_shapes_170 rfl ?_
      refine aw_iload_n dT_shapes_172 rfl ?_
      refine aw_icmp_ne (tgt := 180) dT_shapes_173 (by decide) (fun c173 => ?_) (fun c173 => ?_)
      · have q0 : ¬ (kq (V k) (N k) (K 8) i) = (bef (V k) (N k) (K 8) i) := fun e => c173 (by rw [e])
        refine aw_aload_r dT_shapes_180 rfl ?_
        refine aw_get fg_T_22 dT_shapes_181 rfl rfl ?_
        refine an_top (y := K 8) h1.2.1 ?_
        refine aw_iadd dT_shapes_184 ?_
        refine aw_iadd dT_shapes_185 ?_
        refine an_putT fp_T_109 dT_shapes_186 (by decide) ?_
        refine aw_iload dT_shapes_189 rfl ?_
        refine aw_iload_n dT_shapes_191 rfl ?_
        refine aw_icmp_eq (tgt := 226) dT_shapes_192 (by decide) (fun c192 => absurd c192 c173) (fun c192 => ?_)
        refine aw_aload_r dT_shapes_195 rfl ?_
        refine aw_get fg_T_35 dT_shapes_196 rfl rfl ?_
        refine aw_aload_r dT_shapes_199 rfl ?_
        refine aw_get fg_T_106 dT_shapes_200 rfl rfl ?_
        refine aw_iload dT_shapes_203 rfl ?_
        refine an_stT dT_shapes_205 at_7 h10 (by omega) (by decide) ?_
        refine aw_aload_r dT_shapes_206 rfl ?_
        refine aw_get fg_T_38 dT_shapes_207 rfl rfl ?_
        refine aw_aload_r dT_shapes_210 rfl ?_
        refine aw_get fg_T_106 dT_shapes_211 rfl rfl ?_
        refine aw_iload_n dT_shapes_214 rfl ?_
        refine an_stT dT_shapes_215 at_8 h10 (by omega) (by decide) ?_
        refine aw_aload_r dT_shapes_216 rfl ?_
        refine aw_dup dT_shapes_217 rfl ?_
        refine aw_get fg_T_106 dT_shapes_218 rfl rfl ?_
        refine an_top (y := nI (spc (V k) (N k) (K 8) i)) h10 ?_
        refine aw_iconst (v := 1) dT_shapes_221 (by decide) ?_
        refine aw_iadd dT_shapes_222 ?_
        refine an_top (nI_1 _) ?_
        refine an_putT fp_T_106 dT_shapes_223 (by decide) ?_
        refine aw_aload_r dT_shapes_226 rfl ?_
        refine aw_get fg_T_41 dT_shapes_227 rfl rfl ?_
        refine aw_aload_r dT_shapes_230 rfl ?_
        refine aw_get fg_T_106 dT_shapes_231 rfl rfl ?_
        refine an_top (y := nI ((spc (V k) (N k) (K 8) i) + 1)) rfl ?_
        refine aw_iconst (v := 1) dT_shapes_234 (by decide) ?_
        refine aw_isub dT_shapes_235 ?_
        refine an_top (nI_pred _) ?_
        refine aw_iload_n dT_shapes_236 rfl ?_
        refine aw_iconst (v := 1) dT_shapes_237 (by decide) ?_
        refine aw_iadd dT_shapes_238 ?_
        refine an_top (nI_1 i) ?_
        refine an_stT dT_shapes_239 at_9 rfl (by omega) (by decide) ?_
        refine ic7_2 dT_shapes_240 (nI_1 i) (by decide) ?_
        refine aw_goto (tgt := 17) dT_shapes_243 (by decide) ?_
        exact an_weak (ih (i + 1) _ _ (by omega) (by exact h1) (by rw [spc_new hk0 q0]; rfl) (by rw [alS_new hk0 q0]; rfl) (fun j hj => kin2 h5 j hj) (by rw [spg_new hk0 q0, spc_new hk0 q0]; exact h7.snoc _) (by rw [spf_new hk0 q0, spc_new hk0 q0]; exact h8.snoc _) (by rw [spl_new hk0 q0, spc_new hk0 q0]; exact h11.snoc _) hD) ⟨rfl, rfl, rfl, trivial⟩
      · have q0 : (kq (V k) (N k) (K 8) i) = (bef (V k) (N k) (K 8) i) := nI_inj (by omega) (by omega) c173
        refine aw_iconst (v := 0) dT_shapes_176 (by decide) ?_
        refine aw_goto (tgt := 184) dT_shapes_177 (by decide) ?_
        refine aw_iadd dT_shapes_184 ?_
        refine aw_iadd dT_shapes_185 ?_
        refine an_putT fp_T_109 dT_shapes_186 (by decide) ?_
        refine aw_iload dT_shapes_189 rfl ?_
        refine aw_iload_n dT_shapes_191 rfl ?_
        refine aw_icmp_eq (tgt := 226) dT_shapes_192 (by decide) (fun c192 => ?_) (fun c192 => absurd c173 c192)
        refine aw_aload_r dT_shapes_226 rfl ?_
        refine aw_get fg_T_41 dT_shapes_227 rfl rfl ?_
        refine aw_aload_r dT_shapes_230 rfl ?_
        refine aw_get fg_T_106 dT_shapes_231 rfl rfl ?_
        refine an_top (y := nI (spc (V k) (N k) (K 8) i)) h10 ?_
        refine aw_iconst (v := 1) dT_shapes_234 (by decide) ?_
        refine aw_isub dT_shapes_235 ?_
        refine an_top (nI_pm (spc_pos i (fun e => hk0 (q0.trans e)))) ?_
        refine aw_iload_n dT_shapes_236 rfl ?_
        refine aw_iconst (v := 1) dT_shapes_237 (by decide) ?_
        refine aw_iadd dT_shapes_238 ?_
        refine an_top (nI_1 i) ?_
        refine an_stT dT_shapes_239 at_9 rfl (by omega) (by decide) ?_
        refine ic7_2 dT_shapes_240 (nI_1 i) (by decide) ?_
        refine aw_goto (tgt := 17) dT_shapes_243 (by decide) ?_
        exact an_weak (ih (i + 1) _ _ (by omega) (by exact h1) (by rw [spc_on hk0 q0]; exact h10) (by rw [alS_on hk0 q0]; rfl) (fun j hj => kin2 h5 j hj) (by rw [spg_on hk0 q0, spc_on hk0 q0]; exact h7) (by rw [spf_on hk0 q0, spc_on hk0 q0]; exact h8) (by rw [spl_on hk0 q0, spc_on hk0 q0]; exact h11.put _ _) hD) ⟨rfl, rfl, rfl, trivial⟩
    · refine aw_if_ne (tgt := 46) dT_shapes_40 (by decide) (fun q => absurd q (by decide)) (fun _ => ?_)
      refine aw_goto (tgt := 240) dT_shapes_43 (by decide) ?_
      refine ic7_2 dT_shapes_240 (nI_1 i) (by decide) ?_
      refine aw_goto (tgt := 17) dT_shapes_243 (by decide) ?_
      have hz : (kq (V k) (N k) (K 8) i) = 0 := kq_no p37
      exact an_weak (ih (i + 1) _ _ (by omega) (by exact h1) (by rw [spc_no hz]; exact h10) (by rw [alS_no hz]; exact h9) (kin0 h5 hz) (by rw [spg_no hz, spc_no hz]; exact h7) (by rw [spf_no hz, spc_no hz]; exact h8) (by rw [spl_no hz, spc_no hz]; exact h11) hD) ⟨rfl, rfl, rfl, trivial⟩

set_option maxHeartbeats 4000000 in
set_option maxRecDepth 100000 in
theorem c_T_shapes (N : Nat → Nat) (V : Nat → Nat → Int32) (K : Nat → Int32) (J : Nat → Int32) (B : Nat → Nat → Int32) (hI : TInv N V K J B) (hP : PInv N V K) {k : Nat} (hk : k < 4) : AM kT_shapes 6 [.ref 0, .int (nI k)] (hT J B) (SQT N V K k) := by
  refine AMet.of (by decide) (by simp [Value.category]) (Nat.le_of_ble_eq_true rfl) ?_
  show AN _ _ _ 0 [some _, some _, none, none, none, none, none] [] _
  refine aw_aload_r dT_shapes_0 rfl ?_
  refine aw_iload_n dT_shapes_1 rfl ?_
  refine an_callVx cg_T_102 (c_T_weighs N V K J B hI hP hk) dT_shapes_2 rfl rfl rfl rfl rfl (Nat.le_of_ble_eq_true rfl) (Nat.le_of_ble_eq_true rfl) ?_
  rintro _ _ ⟨rfl, B1, rfl, h1, hD⟩
  refine aw_aload_r dT_shapes_5 rfl ?_
  refine aw_iconst (v := 0) dT_shapes_6 (by decide) ?_
  refine an_putT fp_T_106 dT_shapes_7 (by decide) ?_
  refine aw_aload_r dT_shapes_10 rfl ?_
  refine aw_iconst (v := 0) dT_shapes_11 (by decide) ?_
  refine an_putT fp_T_109 dT_shapes_12 (by decide) ?_
  refine aw_iconst (v := 0) dT_shapes_15 (by decide) ?_
  refine si7_2 dT_shapes_16 (by decide) ?_
  exact an_weak (l_T_shapes N V K J B hI hP hk (N k) 0 _ _ (by omega) (show TInv N V K (upd (upd J 10 0) 9 0) B1 from h1) rfl rfl (fun j hj => by omega) AG.zero AG.zero AG.zero hD) ⟨rfl, rfl, rfl, trivial⟩
