theorem isRow_of {r : Int32} (h : In r 0 3) : IsRow r := by
  unfold In at h; rw [z_0, z_3] at h; exact ⟨h.1, by omega⟩
theorem isRow_to {r : Int32} (h : IsRow r) : In r 0 3 := by
  unfold In; rw [z_0, z_3]; have := h.1; have := h.2; omega
section CI
variable {N : Nat → Nat} {V : Nat → Nat → Int32} {K I : Nat → Int32} {A : Nat → Nat → Int32}
theorem CInv.n (h : CInv N V K I A) : ∀ k, k < 4 → N k ≤ 40 := fun k hk => (h.1 k hk).1
theorem cinv_n (h : CInv N V K I A) {k n : Nat} (hk : k < 4) (hn : n ≤ 40) : CInv (va_up N k n) V K (upd I (201 + 200 * k) (nI n)) A := by
  obtain ⟨h1, h2, h3, h4, h5, h6, h7⟩ := h
  refine ⟨fun j hj => ?_, by rw [pk_un (by omega)]; exact h2, by rw [pk_un (by omega)]; exact h3, by rw [pk_un (by omega)]; exact h4, by rw [pk_un (by omega)]; exact h5, by rw [pk_un (by omega)]; exact h6, by rw [pk_un (by omega)]; exact h7⟩
  obtain ⟨a, b, c, d, e⟩ := h1 j hj
  by_cases q : j = k
  · subst q
    rw [up_s]
    exact ⟨hn, pk_us, by rw [pk_un (by omega)]; exact c, by rw [pk_un (by omega)]; exact d, e⟩
  · rw [up_n q]
    exact ⟨a, by rw [pk_un (by omega)]; exact b, by rw [pk_un (by omega)]; exact c, by rw [pk_un (by omega)]; exact d, e⟩
theorem cinv_v (h : CInv N V K I A) {k i : Nat} (hk : k < 4) (hi : i < 40) (v : Int32) : CInv N (va_up V k (upd (V k) i v)) K I (va_up A (3 + 2 * k) (upd (A (3 + 2 * k)) i v)) := by
  refine ⟨fun j hj => ?_, h.2⟩
  obtain ⟨a, b, c, d, e⟩ := h.1 j hj
  refine ⟨a, b, c, d, fun i' hi' => ?_⟩
  by_cases q : j = k
  · subst q
    rw [up_s, up_s]
    by_cases q2 : i' = i
    · subst q2; rw [pk_us, pk_us]
    · rw [pk_un q2, pk_un q2]; exact e i' hi'
  · rw [up_n q, up_n (by omega)]; exact e i' hi'
theorem cinv_miss (h : CInv N V K I A) {k : Nat} (hk : k < 4) (v : Int32) : CInv N V (upd K k v) (upd I (201 + 200 * k + 1) v) A := by
  obtain ⟨h1, h2, h3, h4, h5, h6, h7⟩ := h
  refine ⟨fun j hj => ?_, by rw [pk_un (by omega), pk_un (by omega)]; exact h2, by rw [pk_un (by omega), pk_un (by omega)]; exact h3, by rw [pk_un (by omega), pk_un (by omega)]; exact h4, by rw [pk_un (by omega), pk_un (by omega)]; exact h5, by rw [pk_un (by omega), pk_un (by omega)]; exact h6, by rw [pk_un (by omega), pk_un (by omega)]; exact h7⟩
  obtain ⟨a, b, c, d, e⟩ := h1 j hj
  refine ⟨a, by rw [pk_un (by omega)]; exact b, ?_, by rw [pk_un (by omega), pk_un (by omega)]; exact d, e⟩
  by_cases q : j = k
  · subst q
    rw [show 202 + 200 * j = 201 + 200 * j + 1 by omega, pk_us, pk_us]
  · rw [pk_un (by omega), pk_un q]; exact c
theorem cinv_worth (h : CInv N V K I A) {k : Nat} (hk : k < 4) (v : Int32) : CInv N V (upd K (4 + k) v) (upd I (201 + 200 * k + 2) v) A := by
  obtain ⟨h1, h2, h3, h4, h5, h6, h7⟩ := h
  refine ⟨fun j hj => ?_, by rw [pk_un (by omega), pk_un (by omega)]; exact h2, by rw [pk_un (by omega), pk_un (by omega)]; exact h3, by rw [pk_un (by omega), pk_un (by omega)]; exact h4, by rw [pk_un (by omega), pk_un (by omega)]; exact h5, by rw [pk_un (by omega), pk_un (by omega)]; exact h6, by rw [pk_un (by omega), pk_un (by omega)]; exact h7⟩
  obtain ⟨a, b, c, d, e⟩ := h1 j hj
  refine ⟨a, by rw [pk_un (by omega)]; exact b, by rw [pk_un (by omega), pk_un (by omega)]; exact c, ?_, e⟩
  by_cases q : j = k
  · subst q
    rw [show 203 + 200 * j = 201 + 200 * j + 2 by omega, pk_us, pk_us]
  · rw [pk_un (by omega), pk_un (by omega)]; exact d
theorem cinv_rows (h : CInv N V K I A) {q p : Nat} (hq : 8 ≤ q) (hp : p < 200) (v w : Int32) : ∀ k, k < 4 → N k ≤ 40 ∧ upd I p w (201 + 200 * k) = nI (N k) ∧ upd I p w (202 + 200 * k) = upd K q v k ∧ upd I p w (203 + 200 * k) = upd K q v (4 + k) ∧ ∀ i, i < 40 → A (3 + 2 * k) i = V k i := fun k hk => by
  obtain ⟨a, b, c, d, e⟩ := h.1 k hk
  exact ⟨a, by rw [pk_un (by omega)]; exact b, by rw [pk_un (by omega), pk_un (by omega)]; exact c, by rw [pk_un (by omega), pk_un (by omega)]; exact d, e⟩
theorem cinv_8 (h : CInv N V K I A) (v : Int32) : CInv N V (upd K 8 v) (upd I 5 v) A := ⟨cinv_rows h (by decide) (by decide) v v, rfl, h.2.2⟩
theorem cinv_9 (h : CInv N V K I A) (v : Int32) : CInv N V (upd K 9 v) (upd I 6 v) A := ⟨cinv_rows h (by decide) (by decide) v v, h.2.1, rfl, h.2.2.2⟩
theorem cinv_10 (h : CInv N V K I A) (v : Int32) : CInv N V (upd K 10 v) (upd I 7 v) A := ⟨cinv_rows h (by decide) (by decide) v v, h.2.1, h.2.2.1, rfl, h.2.2.2.2⟩
theorem cinv_11 (h : CInv N V K I A) (v : Int32) : CInv N V (upd K 11 v) (upd I 8 v) A := ⟨cinv_rows h (by decide) (by decide) v v, h.2.1, h.2.2.1, h.2.2.2.1, rfl, h.2.2.2.2.2⟩
theorem cinv_12 (h : CInv N V K I A) (v : Int32) : CInv N V (upd K 12 v) (upd I 9 v) A := ⟨cinv_rows h (by decide) (by decide) v v, h.2.1, h.2.2.1, h.2.2.2.1, h.2.2.2.2.1, rfl, h.2.2.2.2.2.2⟩
theorem cinv_13 (h : CInv N V K I A) (v : Int32) : CInv N V (upd K 13 v) (upd I 10 v) A := ⟨cinv_rows h (by decide) (by decide) v v, h.2.1, h.2.2.1, h.2.2.2.1, h.2.2.2.2.1, h.2.2.2.2.2.1, rfl⟩
end CI
theorem i_sub {a b : Int32} (h1 : -2147483648 ≤ a.toInt - b.toInt) (h2 : a.toInt - b.toInt < 2147483648) : (a - b).toInt = a.toInt - b.toInt := by
  rw [Int32.toInt_sub]; exact Int.bmod_eq_of_le (by omega) (by omega)
theorem i_add {a b : Int32} (h1 : -2147483648 ≤ a.toInt + b.toInt) (h2 : a.toInt + b.toInt < 2147483648) : (a + b).toInt = a.toInt + b.toInt := by
  rw [Int32.toInt_add]; exact Int.bmod_eq_of_le (by omega) (by omega)
theorem i_mul {a b : Int32} (h1 : -2147483648 ≤ a.toInt * b.toInt) (h2 : a.toInt * b.toInt < 2147483648) : (a * b).toInt = a.toInt * b.toInt := by
  rw [Int32.toInt_mul]; exact Int.bmod_eq_of_le (by omega) (by omega)
theorem i_neg {a : Int32} (h1 : -2147483647 ≤ a.toInt) : (-a).toInt = -a.toInt := by
  have := Int32.toInt_lt a
  rw [Int32.toInt_neg]; exact Int.bmod_eq_of_le (by omega) (by omega)
theorem lt_T {a b : Int32} : a < b ↔ a.toInt < b.toInt := Int32.lt_iff_toInt_lt
theorem le_T {a b : Int32} : a ≤ b ↔ a.toInt ≤ b.toInt := Int32.le_iff_toInt_le
theorem PInv.val {N : Nat → Nat} {V : Nat → Nat → Int32} {K : Nat → Int32} (h : PInv N V K) {k i : Nat} (hk : k < 4) (hi : i < N k) (hv : ¬ V k i = -5000) : -1000 ≤ (V k i).toInt ∧ (V k i).toInt ≤ 1000 := by
  rcases (h.1 k hk).2.1 i hi with q | q
  · exact absurd q hv
  · unfold In at q; rw [z_m1000, z_1000] at q; exact q
theorem PInv.miss {N : Nat → Nat} {V : Nat → Nat → Int32} {K : Nat → Int32} (h : PInv N V K) {k : Nat} (hk : k < 4) : 0 ≤ (K k).toInt ∧ (K k).toInt ≤ 200 := by
  have q := (h.1 k hk).2.2.1
  unfold In at q; rw [z_0, z_200] at q; exact q
noncomputable def sureR (N : Nat → Nat) (V : Nat → Nat → Int32) (K : Nat → Int32) (k1 k2 : Nat) (s : Int32) : Int32 := cif (HV N V (nI k1) s ∧ HV N V (nI k2) s) (sureV (V k1 (rn s)) (V k2 (rn s)) (K k1) (K k2)) (-2)
theorem sureE_R {N : Nat → Nat} {V : Nat → Nat → Int32} {K : Nat → Int32} {k1 k2 : Nat} {s : Int32} (h1 : k1 < 4) (h2 : k2 < 4) (h : k1 ≠ k2) : sureE N V K (nI k1) (nI k2) s = sureR N V K k1 k2 s := by
  have hne : ¬ nI k1 = nI k2 := fun q => h (nI_inj (by omega) (by omega) q)
  unfold sureE sureR
  by_cases q : HV N V (nI k1) s ∧ HV N V (nI k2) s
  · rw [cif_t ⟨isRow_n h1, isRow_n h2, hne, q.1, q.2⟩, cif_t q, rn_n (by omega), rn_n (by omega)]
  · rw [cif_f (fun z => q z.2.2.2), cif_f q]
theorem sure_neg {x y m1 m2 : Int32} (hx : -1000 ≤ x.toInt ∧ x.toInt ≤ 1000) (hy : -1000 ≤ y.toInt ∧ y.toInt ≤ 1000) (h1 : 0 ≤ m1.toInt ∧ m1.toInt ≤ 200) (h2 : 0 ≤ m2.toInt ∧ m2.toInt ≤ 200) : -(m1 + m2) ≤ x - y ↔ -(x - y) ≤ m1 + m2 := by
  have e1 := i_sub (a := x) (b := y) (by omega) (by omega)
  have e2 := i_add (a := m1) (b := m2) (by omega) (by omega)
  rw [le_T, le_T, i_neg (by omega), i_neg (by omega), e1, e2]
  omega
theorem sp_value_nr {N : Nat → Nat} {V : Nat → Nat → Int32} {K : Nat → Int32} {r v : Int32} (nk : ¬ IsRow r) : sp_value N V K r v = (-1, N, V, K) := by
  unfold sp_value
  by_cases q : In v (-1000) 1000
  · rw [cif_t q]; unfold sp_adds; rw [cif_f (fun z => nk z.1)]
  · rw [cif_f q]
theorem sw2 (w : Int32) : w = 0 ∨ w = 1 ∨ (¬ w = 0 ∧ ¬ w = 1) := by
  by_cases h : w = 0
  · exact Or.inl h
  · by_cases h1 : w = 1
    · exact Or.inr (Or.inl h1)
    · exact Or.inr (Or.inr ⟨h, h1⟩)
section ANX
variable {M : MI} {d : Nat} {Q : QT} {pc : Nat} {L : List (Option Value)} {st : List Value} {h : List AC}
theorem an_astore_m0 {i : Nat} (hd : decode M.2.1 pc = .ok (.astore i, 2)) (hn : i < M.2.2.1) (kk : AN M d Q (pc + 2) (L.set i (some .null)) st h) : AN M d Q pc L (.null :: st) h := aw_astore (r := none) hd hn kk
theorem an_aload_m0 {i : Nat} (hd : decode M.2.1 pc = .ok (.aload i, 2)) (hl : L[i]? = some (some .null)) (kk : AN M d Q (pc + 2) L (.null :: st) h) : AN M d Q pc L st h :=
  fun p l e s m args below meth c b D κ N0 H locs ls C X => lv_aloadN C.1 C.2.1 hd (X.2.2.2.2.at hl) (kk p l e s m args below meth c b D κ N0 H locs ls C X)
theorem an_lookup {dflt : Int} {ps : Array (Int × Int)} {len : Nat} {x : Int32} {off : Int} {tgt : Nat} (hd : decode M.2.1 pc = .ok (.lookupswitch dflt ps, len)) (hp : (ps.toList.zip (ps.toList.drop 1)).all (fun (a, next) => a.1 < next.1) = true) (ho : Op.lookupswitch.offset ps.toList dflt x.toInt = off) (ht : (pc : Int) + off = (tgt : Int)) (kk : AN M d Q tgt L st h) : AN M d Q pc L (.int x :: st) h :=
  fun p l e s m args below meth c b D κ N0 H locs ls C X => lv_lookup C.1 C.2.1 hd hp ho ht (kk p l e s m args below meth c b D κ N0 H locs ls C X)
theorem an_tabO {dflt lo hi : Int} {offs : Array Int} {len : Nat} {x : Int32} {tgt : Nat} (hd : decode M.2.1 pc = .ok (.tableswitch dflt lo hi offs, len)) (hx : x.toInt < lo ∨ hi < x.toInt) (ht : (pc : Int) + dflt = (tgt : Int)) (kk : AN M d Q tgt L st h) : AN M d Q pc L (.int x :: st) h :=
  fun p l e s m args below meth c b D κ N0 H locs ls C X => lv_tableOut C.1 C.2.1 hd hx ht (kk p l e s m args below meth c b D κ N0 H locs ls C X)
theorem an_tabI {dflt lo hi : Int} {offs : Array Int} {len : Nat} {x : Int32} {off : Int} {tgt : Nat} (hd : decode M.2.1 pc = .ok (.tableswitch dflt lo hi offs, len)) (h1 : ¬ x.toInt < lo) (h2 : ¬ hi < x.toInt) (ho : offs[(x.toInt - lo).toNat]? = some off) (ht : (pc : Int) + off = (tgt : Int)) (kk : AN M d Q tgt L st h) : AN M d Q pc L (.int x :: st) h :=
  fun p l e s m args below meth c b D κ N0 H locs ls C X => lv_tableIn C.1 C.2.1 hd h1 h2 ho ht (kk p l e s m args below meth c b D κ N0 H locs ls C X)
end ANX
