theorem i_div {a b : Int32} (ha : 0 ≤ a.toInt) (hb : 0 < b.toInt) : (a / b).toInt = a.toInt / b.toInt := by
  have h1 : a.toInt.tdiv b.toInt = a.toInt / b.toInt := Int.tdiv_eq_ediv_of_nonneg ha
  have h2 : a.toInt / b.toInt ≤ a.toInt := Int.ediv_le_self _ ha
  have h3 : 0 ≤ a.toInt / b.toInt := Int.ediv_nonneg ha (by omega)
  have h4 := Int32.toInt_lt a
  rw [Int32.toInt_div, h1]
  exact Int.bmod_eq_of_le (by omega) (by omega)
section SC
variable {N : Nat → Nat} {V : Nat → Nat → Int32} {K : Nat → Int32}
theorem lowR_le {v : Nat → Int32} : ∀ (n i : Nat), i < n → ¬ v i = -5000 → (lowR v n).toInt ≤ (v i).toInt ∧ (v i).toInt ≤ (highR v n).toInt
  | 0, i, h, _ => by omega
  | n + 1, i, h, hv => by
    by_cases e : i = n
    · subst e
      simp only [lowR, highR, if_neg hv, lt_T]
      constructor
      · split <;> omega
      · split <;> omega
    · have := lowR_le n i (by omega) hv
      simp only [lowR, highR, lt_T]
      constructor
      · split
        · exact this.1
        · split <;> omega
      · split
        · exact this.2
        · split <;> omega
theorem lowA_le : ∀ (r k : Nat), k < r → (lowA N V r).toInt ≤ (lowR (V k) (N k)).toInt ∧ (highR (V k) (N k)).toInt ≤ (highA N V r).toInt
  | 0, k, h => by omega
  | r + 1, k, h => by
    by_cases e : k = r
    · subst e
      simp only [lowA, highA, lt_T]
      constructor <;> split <;> omega
    · have := lowA_le r k (by omega)
      simp only [lowA, highA, lt_T]
      constructor <;> split <;> omega
theorem any_le (h : AnyV N V) : (lowA N V 4).toInt ≤ (highA N V 4).toInt := by
  obtain ⟨k, i, hi, hv, h | h⟩ := h
  · have h1 := lowR_le (v := V k) (N k) i hi hv
    have h2 := lowA_le (N := N) (V := V) 4 k h
    omega
  · omega
theorem any_iff : AnyV N V ↔ ¬ highA N V 4 < lowA N V 4 := by
  constructor
  · intro h q
    rw [lt_T] at q
    have := any_le h
    omega
  · intro h
    by_cases q : AnyV N V
    · exact q
    · obtain ⟨a1, a2, -, -⟩ := any_none (k := 4) (i := 0) (Nat.zero_le _) q
      rw [a1, a2] at h
      exact absurd (by decide) h
theorem any_hv {r s : Int32} (h : HV N V r s) : AnyV N V := by
  obtain ⟨k, i, hk, hi, -, -, hv⟩ := h
  exact ⟨k, i, hi, hv, Or.inl hk⟩
noncomputable def sp_scale (N : Nat → Nat) (V : Nat → Nat → Int32) (K : Nat → Int32) (d ap : Int32) : RS := cif (In d 1 2000 ∧ In ap 1 20) (cif (AnyV N V ∧ ¬ d / ap = 0 ∧ (highA N V 4 - lowA N V 4) / (d / ap) + 1 ≤ 60) (d / ap, N, V, upd K 9 (d / ap)) (-2, N, V, K)) (-1, N, V, K)
theorem sc_nz {ap : Int32} (h : In ap 1 20) : ¬ ap = 0 := fun q => by
  unfold In at h; rw [q, z_1, z_0] at h; omega
theorem sc_g {d ap : Int32} (h : In d 1 2000) (h2 : In ap 1 20) : 0 ≤ (d / ap).toInt ∧ (d / ap).toInt ≤ 2000 := by
  unfold In at h h2; rw [z_1, z_2000] at h; rw [z_1, z_20] at h2
  rw [i_div (by omega) (by omega)]
  have h3 := Int.ediv_le_self (b := ap.toInt) (a := d.toInt) (by omega)
  have h4 := Int.ediv_nonneg (a := d.toInt) (b := ap.toInt) (by omega) (by omega)
  omega
theorem sc_lt {d ap : Int32} (h : In d 1 2000) (h2 : In ap 1 20) : d / ap < 1 ↔ d / ap = 0 := by
  have := sc_g h h2
  rw [lt_T, ← Int32.toInt_inj, z_1, z_0]
  omega
noncomputable def hgtE (N : Nat → Nat) (V : Nat → Nat → Int32) (K : Nat → Int32) (r s : Int32) : Int32 := cif (¬ K 9 = 0 ∧ HV N V r s) ((V (rn r) (rn s) - lowA N V 4) / K 9) (-1)
theorem k9_lt (h : PInv N V K) : K 9 < 1 ↔ K 9 = 0 := by
  have q := h.2.2.1
  unfold In at q; rw [z_0] at q
  rw [lt_T, ← Int32.toInt_inj, z_1, z_0]
  omega
noncomputable def sp_height (N : Nat → Nat) (V : Nat → Nat → Int32) (K : Nat → Int32) (r s : Int32) : RS := (hgtE N V K r s, N, V, K)
def HQ (E : Int32) (J : Nat → Int32) (B : Nat → Nat → Int32) : QT := fun v h' => v = some (.int E) ∧ ∃ J', h' = hT J' B ∧ SameL J J'
end SC
