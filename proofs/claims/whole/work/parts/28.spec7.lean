def crL (s : Nat → Int32) : Nat → List Nat × Int32
  | 0 => ([], 0)
  | i + 1 => if s i = -2 then ((crL s i).1, 0) else if s i = 0 then crL s i else if (crL s i).2 = -(s i) then ((crL s i).1 ++ [i], s i) else ((crL s i).1, s i)
noncomputable def svF (N : Nat → Nat) (V : Nat → Nat → Int32) (K : Nat → Int32) (k1 k2 : Nat) : Nat → Int32 := fun i => sureR N V K k1 k2 (nI i)
theorem sv_range {N : Nat → Nat} {V : Nat → Nat → Int32} {K : Nat → Int32} {k1 k2 i : Nat} : svF N V K k1 k2 i = 1 ∨ svF N V K k1 k2 i = -1 ∨ svF N V K k1 k2 i = 0 ∨ svF N V K k1 k2 i = -2 := by
  unfold svF sureR
  by_cases q : HV N V (nI k1) (nI i) ∧ HV N V (nI k2) (nI i)
  · rw [cif_t q]
    unfold sureV
    split
    · split
      · exact Or.inr (Or.inr (Or.inl rfl))
      · exact Or.inr (Or.inl rfl)
    · exact Or.inl rfl
  · rw [cif_f q]; exact Or.inr (Or.inr (Or.inr rfl))
def AL (f : Nat → Int32) (l : List Nat) : Prop := ∀ j, j < l.length → f j = nI (l.getD j 0)
theorem AL.nil {f : Nat → Int32} : AL f [] := fun j h => by simp at h
theorem AL.snoc {f : Nat → Int32} {l : List Nat} (h : AL f l) (i : Nat) : AL (upd f l.length (nI i)) (l ++ [i]) := by
  intro j hj
  simp at hj
  by_cases e : j = l.length
  · subst e
    rw [pk_us]
    simp
  · rw [pk_un e, h j (by omega)]
    simp [List.getElem?_append_left (show j < l.length by omega)]
section CR
variable {s : Nat → Int32} {i : Nat}
theorem crL_len : ∀ i, (crL s i).1.length ≤ i
  | 0 => Nat.le_refl _
  | i + 1 => by
    have := crL_len i
    simp only [crL]
    split
    · show (crL s i).1.length ≤ i + 1; omega
    · split
      · omega
      · split
        · simp; omega
        · show (crL s i).1.length ≤ i + 1; omega
theorem crL_lt : ∀ i, ∀ x ∈ (crL s i).1, x < i ∧ ¬ s x = -2
  | 0, x, h => by simp [crL] at h
  | i + 1, x, h => by
    simp only [crL] at h
    split at h
    · have := crL_lt i x h; exact ⟨by omega, this.2⟩
    · rename_i h2
      split at h
      · have := crL_lt i x h; exact ⟨by omega, this.2⟩
      · split at h
        · rcases List.mem_append.mp h with h | h
          · have := crL_lt i x h; exact ⟨by omega, this.2⟩
          · rw [List.mem_singleton.mp h]; exact ⟨by omega, h2⟩
        · have := crL_lt i x h; exact ⟨by omega, this.2⟩
theorem crL_u (h : s i = -2) : crL s (i + 1) = ((crL s i).1, 0) := by simp only [crL]; rw [if_pos h]
theorem crL_0 (h : s i = 0) : crL s (i + 1) = crL s i := by
  simp only [crL]; rw [if_neg (by rw [h]; decide), if_pos h]
theorem crL_h (h : s i = 1 ∨ s i = -1) (q : (crL s i).2 = -(s i)) : crL s (i + 1) = ((crL s i).1 ++ [i], s i) := by
  simp only [crL]; rw [if_neg (by rcases h with h | h <;> rw [h] <;> decide), if_neg (by rcases h with h | h <;> rw [h] <;> decide), if_pos q]
theorem crL_m (h : s i = 1 ∨ s i = -1) (q : ¬ (crL s i).2 = -(s i)) : crL s (i + 1) = ((crL s i).1, s i) := by
  simp only [crL]; rw [if_neg (by rcases h with h | h <;> rw [h] <;> decide), if_neg (by rcases h with h | h <;> rw [h] <;> decide), if_neg q]
end CR
noncomputable def crossL (N : Nat → Nat) (V : Nat → Nat → Int32) (K : Nat → Int32) (k1 k2 : Nat) : List Nat := (crL (svF N V K k1 k2) 40).1
noncomputable def sp_sure (N : Nat → Nat) (V : Nat → Nat → Int32) (K : Nat → Int32) (a b s : Int32) : RS := (sureE N V K a b s, N, V, K)
noncomputable def sp_crossings (N : Nat → Nat) (V : Nat → Nat → Int32) (K : Nat → Int32) (a b : Int32) : RS := (cif (¬ a = b ∧ IsRow a ∧ IsRow b) (nI (crossL N V K (rn a) (rn b)).length) (-1), N, V, K)
noncomputable def sp_crossing (N : Nat → Nat) (V : Nat → Nat → Int32) (K : Nat → Int32) (a b k : Int32) : RS := (cif ((¬ a = b ∧ IsRow a ∧ IsRow b) ∧ 0 ≤ k.toInt ∧ k.toInt < ((crossL N V K (rn a) (rn b)).length : Int)) (nI ((crossL N V K (rn a) (rn b)).getD (rn k) 0)) (-1), N, V, K)
section CI2
variable {N : Nat → Nat} {V : Nat → Nat → Int32} {K I J : Nat → Int32} {A B : Nat → Nat → Int32}
theorem cinv_s (h : CInv N V K I A) {p : Nat} (hp : 1000 ≤ p) (v : Int32) : CInv N V K (upd I p v) A := by
  obtain ⟨h1, h2, h3, h4, h5, h6, h7⟩ := h
  refine ⟨fun j hj => ?_, by rw [pk_un (by omega)]; exact h2, by rw [pk_un (by omega)]; exact h3, by rw [pk_un (by omega)]; exact h4, by rw [pk_un (by omega)]; exact h5, by rw [pk_un (by omega)]; exact h6, by rw [pk_un (by omega)]; exact h7⟩
  obtain ⟨a, b, c, d, e⟩ := h1 j hj
  exact ⟨a, by rw [pk_un (by omega)]; exact b, by rw [pk_un (by omega)]; exact c, by rw [pk_un (by omega)]; exact d, e⟩
theorem cinv_a (h : CInv N V K I A) {c : Nat} (hc : 10 ≤ c) (f : Nat → Int32) : CInv N V K I (va_up A c f) := by
  refine ⟨fun j hj => ?_, h.2⟩
  obtain ⟨a, b, c, d, e⟩ := h.1 j hj
  exact ⟨a, b, c, d, fun i hi => by rw [up_n (by omega)]; exact e i hi⟩
end CI2
def XQT (N : Nat → Nat) (V : Nat → Nat → Int32) (K : Nat → Int32) (l : List Nat) : QT := fun v h' => v = none ∧ ∃ J' B', h' = hT J' B' ∧ TInv N V K J' B' ∧ J' 16 = nI l.length ∧ AL (B' 11) l
def XQC (N : Nat → Nat) (V : Nat → Nat → Int32) (K I : Nat → Int32) (A : Nat → Nat → Int32) (l : List Nat) : QT := fun v h' => v = none ∧ ∃ I' A', h' = hC I' A' ∧ CInv N V K I' A' ∧ I' 2001 = nI l.length ∧ AL (A' 21) l ∧ A' 27 = A 27
theorem in_ix {k : Int32} {n : Nat} (hn : n < 2 ^ 31) (h0 : 0 ≤ k.toInt) (h : k.toInt < (n : Int)) : ∃ j : Nat, j < n ∧ k = nI j := by
  refine ⟨k.toInt.toNat, by omega, ?_⟩
  apply Int32.toInt_inj.mp
  rw [nI_toInt (by omega)]
  omega
theorem in_pred {k : Int32} {n : Nat} (hn : n ≤ 40) : In k 0 (nI n - 1) ↔ 0 ≤ k.toInt ∧ k.toInt < (n : Int) := by
  unfold In
  have h1 := nI_toInt (n := n) (by omega)
  rw [z_0, i_sub (by rw [h1, z_1]; omega) (by rw [h1, z_1]; omega), h1, z_1]
  omega
