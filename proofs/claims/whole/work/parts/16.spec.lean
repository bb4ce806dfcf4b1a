theorem z_0 : (0 : Int32).toInt = 0 := by decide
theorem z_1 : (1 : Int32).toInt = 1 := by decide
theorem z_2 : (2 : Int32).toInt = 2 := by decide
theorem z_3 : (3 : Int32).toInt = 3 := by decide
theorem z_4 : (4 : Int32).toInt = 4 := by decide
theorem z_5 : (5 : Int32).toInt = 5 := by decide
theorem z_20 : (20 : Int32).toInt = 20 := by decide
theorem z_39 : (39 : Int32).toInt = 39 := by decide
theorem z_40 : (40 : Int32).toInt = 40 := by decide
theorem z_60 : (60 : Int32).toInt = 60 := by decide
theorem z_100 : (100 : Int32).toInt = 100 := by decide
theorem z_200 : (200 : Int32).toInt = 200 := by decide
theorem z_1000 : (1000 : Int32).toInt = 1000 := by decide
theorem z_2000 : (2000 : Int32).toInt = 2000 := by decide
theorem z_10000 : (10000 : Int32).toInt = 10000 := by decide
theorem z_m1 : (-1 : Int32).toInt = -1 := by decide
theorem z_m2 : (-2 : Int32).toInt = -2 := by decide
theorem z_m1000 : (-1000 : Int32).toInt = -1000 := by decide
theorem z_m5000 : (-5000 : Int32).toInt = -5000 := by decide
theorem z_far : (1000000000 : Int32).toInt = 1000000000 := by decide
noncomputable def cif {α : Type} (P : Prop) (a b : α) : α := @ite α P (Classical.propDecidable P) a b
theorem cif_t {α : Type} {P : Prop} {a b : α} (h : P) : cif P a b = a := by unfold cif; exact if_pos h
theorem cif_f {α : Type} {P : Prop} {a b : α} (h : ¬ P) : cif P a b = b := by unfold cif; exact if_neg h
def IsRow (r : Int32) : Prop := 0 ≤ r.toInt ∧ r.toInt < 4
theorem isRow_k {r : Int32} (h : IsRow r) : ∃ k : Nat, k < 4 ∧ r = nI k := by
  refine ⟨r.toInt.toNat, by have := h.1; have := h.2; omega, ?_⟩
  apply Int32.toInt_inj.mp
  rw [nI_toInt (by have := h.1; have := h.2; omega)]
  have := h.1
  omega
theorem isRow_n {k : Nat} (h : k < 4) : IsRow (nI k) := by
  unfold IsRow
  rw [nI_toInt (by omega)]
  omega
def IsStp (N : Nat → Nat) (r s : Int32) : Prop := ∃ k i : Nat, k < 4 ∧ i < N k ∧ r = nI k ∧ s = nI i
def HV (N : Nat → Nat) (V : Nat → Nat → Int32) (r s : Int32) : Prop := ∃ k i : Nat, k < 4 ∧ i < N k ∧ r = nI k ∧ s = nI i ∧ ¬ V k i = -5000
def In (v a b : Int32) : Prop := a.toInt ≤ v.toInt ∧ v.toInt ≤ b.toInt
abbrev RS : Type := Int32 × (Nat → Nat) × (Nat → Nat → Int32) × (Nat → Int32)
def TInv (N : Nat → Nat) (V : Nat → Nat → Int32) (K : Nat → Int32) (J : Nat → Int32) (B : Nat → Nat → Int32) : Prop :=
  (∀ k, k < 4 → N k ≤ 40 ∧ B 1 k = nI (N k) ∧ B 3 k = K k ∧ B 4 k = K (4 + k) ∧ ∀ i, i < 40 → B 2 (40 * k + i) = V k i) ∧ J 4 = K 8 ∧ J 18 = K 9 ∧ J 19 = K 10 ∧ J 20 = K 11 ∧ J 5 = K 12 ∧ J 6 = K 13
def CInv (N : Nat → Nat) (V : Nat → Nat → Int32) (K : Nat → Int32) (I : Nat → Int32) (A : Nat → Nat → Int32) : Prop :=
  (∀ k, k < 4 → N k ≤ 40 ∧ I (201 + 200 * k) = nI (N k) ∧ I (202 + 200 * k) = K k ∧ I (203 + 200 * k) = K (4 + k) ∧ ∀ i, i < 40 → A (3 + 2 * k) i = V k i) ∧ I 5 = K 8 ∧ I 6 = K 9 ∧ I 7 = K 10 ∧ I 8 = K 11 ∧ I 9 = K 12 ∧ I 10 = K 13
def TR (s : RS) : QT := fun v h' => v = some (.int s.1) ∧ ∃ J' B', h' = hT J' B' ∧ TInv s.2.1 s.2.2.1 s.2.2.2 J' B'
def CR (s : RS) : QT := fun v h' => v = some (.int s.1) ∧ ∃ I' A', h' = hC I' A' ∧ CInv s.2.1 s.2.2.1 s.2.2.2 I' A'
def PInv (N : Nat → Nat) (V : Nat → Nat → Int32) (K : Nat → Int32) : Prop :=
  (∀ k, k < 4 → N k ≤ 40 ∧ (∀ i, i < N k → V k i = -5000 ∨ In (V k i) (-1000) 1000) ∧ In (K k) 0 200 ∧ In (K (4 + k)) 0 1000) ∧ In (K 8) 0 10000 ∧ In (K 9) 0 2000 ∧ In (K 10) 0 60 ∧ In (K 11) 0 100 ∧ (K 12 = -1 ∨ ∃ k i, k < 4 ∧ i < N k ∧ K 12 = nI k ∧ K 13 = nI i)
theorem nI_inj {a b : Nat} (ha : a < 2 ^ 31) (hb : b < 2 ^ 31) (h : nI a = nI b) : a = b := (nI_eq ha hb).mp h
theorem ix40 {k i : Nat} : (40 : Int32) * nI k + nI i = nI (40 * k + i) := by
  have h : (40 : Int32) = nI 40 := by decide
  rw [h, pk_mul, nI_add]
theorem ix4 {k i : Nat} : (4 : Int32) * nI k + nI i = nI (4 * k + i) := by
  have h : (4 : Int32) = nI 4 := by decide
  rw [h, pk_mul, nI_add]
theorem ge0_of {r : Int32} (h : ¬ r < 0) : ∃ i : Nat, i < 2 ^ 31 ∧ r = nI i := nI_of h
theorem lt_of_nge {r : Int32} {n : Nat} (hn : n < 2 ^ 31) (h0 : ¬ r < 0) (h : ¬ nI n ≤ r) : ∃ i : Nat, i < n ∧ r = nI i := by
  obtain ⟨i, hi, rfl⟩ := nI_of h0
  refine ⟨i, ?_, rfl⟩
  rw [nI_leI hn hi] at h
  omega
