def SameL (J J' : Nat → Int32) : Prop := ∀ q, q ≠ 21 → q ≠ 22 → J' q = J q
theorem SameL.rf {J : Nat → Int32} : SameL J J := fun _ _ _ => rfl
theorem SameL.u21 {J J' : Nat → Int32} (h : SameL J J') (v : Int32) : SameL J (upd J' 21 v) := fun q a b => by rw [pk_un a]; exact h q a b
theorem SameL.u22 {J J' : Nat → Int32} (h : SameL J J') (v : Int32) : SameL J (upd J' 22 v) := fun q a b => by rw [pk_un b]; exact h q a b
theorem SameL.tr {J J' J2 : Nat → Int32} (h : SameL J J') (h2 : SameL J' J2) : SameL J J2 := fun q a b => (h2 q a b).trans (h q a b)
theorem tinv_sl {N : Nat → Nat} {V : Nat → Nat → Int32} {K J J' : Nat → Int32} {B : Nat → Nat → Int32} (h : TInv N V K J B) (s : SameL J J') : TInv N V K J' B := by
  obtain ⟨h1, h2, h3, h4, h5, h6, h7⟩ := h
  exact ⟨h1, (s 4 (by decide) (by decide)).trans h2, (s 18 (by decide) (by decide)).trans h3, (s 19 (by decide) (by decide)).trans h4, (s 20 (by decide) (by decide)).trans h5, (s 5 (by decide) (by decide)).trans h6, (s 6 (by decide) (by decide)).trans h7⟩
theorem z_1001 : (1001 : Int32).toInt = 1001 := by decide
theorem z_m1001 : (-1001 : Int32).toInt = -1001 := by decide
theorem z_4001 : (4001 : Int32).toInt = 4001 := by decide
def AnyP (N : Nat → Nat) (V : Nat → Nat → Int32) (r s : Nat) : Prop := ∃ k i, i < N k ∧ ¬ V k i = -5000 ∧ (k < r ∨ (k = r ∧ i < s))
def AnyV (N : Nat → Nat) (V : Nat → Nat → Int32) : Prop := AnyP N V 4 0
def mnP (N : Nat → Nat) (V : Nat → Nat → Int32) (r s : Nat) : Int32 := if lowR (V r) s < lowA N V r then lowR (V r) s else lowA N V r
def mxP (N : Nat → Nat) (V : Nat → Nat → Int32) (r s : Nat) : Int32 := if highA N V r < highR (V r) s then highR (V r) s else highA N V r
def EInv (N : Nat → Nat) (V : Nat → Nat → Int32) (k i : Nat) (a : Int32) (J : Nat → Int32) : Prop := (a = 1 ∧ AnyP N V k i ∧ J 21 = mnP N V k i ∧ J 22 = mxP N V k i) ∨ (a = 0 ∧ ¬ AnyP N V k i)
section EN
variable {N : Nat → Nat} {V : Nat → Nat → Int32} {K J J1 J2 : Nat → Int32} {k i : Nat} {a : Int32}
theorem low_none : ∀ s, (∀ j, j < s → V k j = -5000) → lowR (V k) s = 1001 ∧ highR (V k) s = -1001
  | 0, _ => ⟨rfl, rfl⟩
  | s + 1, h => by
    have h1 := h s (by omega)
    have := low_none s (fun j hj => h j (by omega))
    simp only [lowR, highR, if_pos h1]
    exact this
theorem lowA_none : ∀ r, (∀ k, k < r → ∀ j, j < N k → V k j = -5000) → lowA N V r = 1001 ∧ highA N V r = -1001
  | 0, _ => ⟨rfl, rfl⟩
  | r + 1, h => by
    have h1 := low_none (V := V) (k := r) (N r) (h r (by omega))
    have h2 := lowA_none r (fun k hk => h k (by omega))
    simp only [lowA, highA, h1.1, h1.2, h2.1, h2.2]
    exact ⟨if_neg (by decide), if_neg (by decide)⟩
theorem any_none (hi : i ≤ N k) (h : ¬ AnyP N V k i) : lowA N V k = 1001 ∧ highA N V k = -1001 ∧ lowR (V k) i = 1001 ∧ highR (V k) i = -1001 := by
  have h1 := lowA_none (N := N) (V := V) k (fun k' hk' j hj => Classical.byContradiction fun q => h ⟨k', j, hj, q, Or.inl hk'⟩)
  have h2 := low_none (V := V) (k := k) i (fun j hj => Classical.byContradiction fun q => h ⟨k, j, by omega, q, Or.inr ⟨rfl, hj⟩⟩)
  exact ⟨h1.1, h1.2, h2.1, h2.2⟩
theorem lowA_most : ∀ r, (lowA N V r).toInt ≤ 1001 ∧ -1001 ≤ (highA N V r).toInt
  | 0 => by simp only [lowA, highA]; rw [z_1001, z_m1001]; omega
  | r + 1 => by
    have h := lowA_most r
    simp only [lowA, highA, lt_T]
    constructor
    · split <;> omega
    · split <;> omega
theorem any_skip (hv : ¬ (i < N k ∧ ¬ V k i = -5000)) : AnyP N V k (i + 1) ↔ AnyP N V k i := by
  constructor
  · rintro ⟨k', j, hj, q, h | ⟨rfl, h⟩⟩
    · exact ⟨k', j, hj, q, Or.inl h⟩
    · by_cases e : j = i
      · subst e; exact absurd ⟨hj, q⟩ hv
      · exact ⟨k', j, hj, q, Or.inr ⟨rfl, by omega⟩⟩
  · rintro ⟨k', j, hj, q, h | ⟨rfl, h⟩⟩
    · exact ⟨k', j, hj, q, Or.inl h⟩
    · exact ⟨k', j, hj, q, Or.inr ⟨rfl, by omega⟩⟩
theorem any_row : AnyP N V k (N k) ↔ AnyP N V (k + 1) 0 := by
  constructor
  · rintro ⟨k', j, hj, q, h | ⟨rfl, h⟩⟩
    · exact ⟨k', j, hj, q, Or.inl (by omega)⟩
    · exact ⟨k', j, hj, q, Or.inl (by omega)⟩
  · rintro ⟨k', j, hj, q, h | ⟨rfl, h⟩⟩
    · by_cases e : k' = k
      · subst e; exact ⟨k', j, hj, q, Or.inr ⟨rfl, hj⟩⟩
      · exact ⟨k', j, hj, q, Or.inl (by omega)⟩
    · omega
theorem e_skip (hv : V k i = -5000) (h : EInv N V k i a J1) : EInv N V k (i + 1) a J1 := by
  have e1 : lowR (V k) (i + 1) = lowR (V k) i := by simp only [lowR, if_pos hv]
  have e2 : highR (V k) (i + 1) = highR (V k) i := by simp only [highR, if_pos hv]
  have e3 := any_skip (N := N) (V := V) (k := k) (i := i) (fun q => q.2 hv)
  unfold EInv mnP mxP at *
  rw [e1, e2, e3]
  exact h
theorem e_row (h : EInv N V k (N k) a J1) : EInv N V (k + 1) 0 a J1 := by
  have n1 : ∀ r, ¬ (1001 : Int32) < lowA N V r := fun r q => by rw [lt_T, z_1001] at q; have := (lowA_most (N := N) (V := V) r).1; omega
  have n2 : ∀ r, ¬ highA N V r < (-1001 : Int32) := fun r q => by rw [lt_T, z_m1001] at q; have := (lowA_most (N := N) (V := V) r).2; omega
  rcases h with ⟨h1, h2, h3, h4⟩ | ⟨h1, h2⟩
  · refine Or.inl ⟨h1, any_row.mp h2, ?_, ?_⟩
    · rw [h3, show mnP N V (k + 1) 0 = lowA N V (k + 1) from if_neg (n1 _)]; rfl
    · rw [h4, show mxP N V (k + 1) 0 = highA N V (k + 1) from if_neg (n2 _)]; rfl
  · exact Or.inr ⟨h1, fun q => h2 (any_row.mpr q)⟩
theorem e_val (hi : i < N k) (hv : ¬ V k i = -5000) (hb : -1000 ≤ (V k i).toInt ∧ (V k i).toInt ≤ 1000) (h : EInv N V k i a J1) (h21 : J2 21 = if a = 0 ∨ V k i < J1 21 then V k i else J1 21) (h22 : J2 22 = if a = 0 ∨ J1 22 < V k i then V k i else J1 22) : EInv N V k (i + 1) 1 J2 := by
  refine Or.inl ⟨rfl, ⟨k, i, hi, hv, Or.inr ⟨rfl, by omega⟩⟩, ?_, ?_⟩
  · rw [h21]
    unfold mnP
    simp only [lowR, if_neg hv]
    rcases h with ⟨rfl, -, h3, -⟩ | ⟨rfl, h2⟩
    · rw [h3]
      unfold mnP
      simp only [lt_T]
      generalize V k i = v, lowR (V k) i = x, lowA N V k = y
      have : ¬ (1 : Int32) = 0 := by decide
      simp only [this, false_or]
      by_cases c1 : x.toInt < y.toInt <;> by_cases c2 : v.toInt < x.toInt <;> by_cases c3 : v.toInt < y.toInt <;> simp [c1, c2, c3] <;> omega
    · obtain ⟨a1, -, a3, -⟩ := any_none (by omega) h2
      rw [a1, a3, if_pos (Or.inl rfl), if_pos, if_pos]
      · rw [lt_T, z_1001]; omega
      · rw [if_pos] <;> rw [lt_T, z_1001] <;> omega
  · rw [h22]
    unfold mxP
    simp only [highR, if_neg hv]
    rcases h with ⟨rfl, -, -, h4⟩ | ⟨rfl, h2⟩
    · rw [h4]
      unfold mxP
      simp only [lt_T]
      generalize V k i = v, highR (V k) i = x, highA N V k = y
      have : ¬ (1 : Int32) = 0 := by decide
      simp only [this, false_or]
      by_cases c1 : y.toInt < x.toInt <;> by_cases c2 : x.toInt < v.toInt <;> by_cases c3 : y.toInt < v.toInt <;> simp [c1, c2, c3] <;> omega
    · obtain ⟨-, a2, -, a4⟩ := any_none (by omega) h2
      rw [a2, a4, if_pos (Or.inl rfl), if_pos, if_pos]
      · rw [lt_T, z_m1001]; omega
      · rw [if_pos] <;> rw [lt_T, z_m1001] <;> omega
theorem e_end (h : EInv N V 4 0 a J1) : (a = 1 ∧ AnyV N V ∧ J1 21 = lowA N V 4 ∧ J1 22 = highA N V 4) ∨ (a = 0 ∧ ¬ AnyV N V) := by
  have n1 : ∀ r, ¬ (1001 : Int32) < lowA N V r := fun r q => by rw [lt_T, z_1001] at q; have := (lowA_most (N := N) (V := V) r).1; omega
  have n2 : ∀ r, ¬ highA N V r < (-1001 : Int32) := fun r q => by rw [lt_T, z_m1001] at q; have := (lowA_most (N := N) (V := V) r).2; omega
  rcases h with ⟨h1, h2, h3, h4⟩ | ⟨h1, h2⟩
  · refine Or.inl ⟨h1, h2, ?_, ?_⟩
    · rw [h3]; exact if_neg (n1 _)
    · rw [h4]; exact if_neg (n2 _)
  · exact Or.inr ⟨h1, h2⟩
end EN
def EQ (N : Nat → Nat) (V : Nat → Nat → Int32) (J : Nat → Int32) (B : Nat → Nat → Int32) : QT := fun v h' => ∃ J', h' = hT J' B ∧ SameL J J' ∧ ((v = some (.int 1) ∧ AnyV N V ∧ J' 21 = lowA N V 4 ∧ J' 22 = highA N V 4) ∨ (v = some (.int 0) ∧ ¬ AnyV N V))
