abbrev cS (N : Nat → Nat) (V : Nat → Nat → Int32) (K : Nat → Int32) (k : Nat) : Nat := spc (V k) (N k) (K 8) 40
noncomputable def sp_spans (N : Nat → Nat) (V : Nat → Nat → Int32) (K : Nat → Int32) (r : Int32) : RS := (cif (IsRow r) (nI (cS N V K (rn r))) (-1), N, V, K)
noncomputable def sp_cost (N : Nat → Nat) (V : Nat → Nat → Int32) (K : Nat → Int32) (r : Int32) : RS := (cif (IsRow r) (alS (V (rn r)) (N (rn r)) (K 8) 40) (-1), N, V, K)
noncomputable def sp_span (N : Nat → Nat) (V : Nat → Nat → Int32) (K : Nat → Int32) (r j w : Int32) : RS := (cif (IsRow r ∧ (0 ≤ j.toInt ∧ j.toInt < (cS N V K (rn r) : Int)) ∧ 0 ≤ w.toInt ∧ w.toInt ≤ 2) (if w = 0 then nI (spg (V (rn r)) (N (rn r)) (K 8) 40 (rn j)) else if w = 1 then nI (spf (V (rn r)) (N (rn r)) (K 8) 40 (rn j)) else nI (spl (V (rn r)) (N (rn r)) (K 8) 40 (rn j))) (-1), N, V, K)
noncomputable def sp_kind (N : Nat → Nat) (V : Nat → Nat → Int32) (K : Nat → Int32) (r s : Int32) : RS := (cif (IsStp N r s) (nI (kq (V (rn r)) (N (rn r)) (K 8) (rn s))) 0, N, V, K)
noncomputable def sp_turnsOf (N : Nat → Nat) (V : Nat → Nat → Int32) (K : Nat → Int32) (r : Int32) : RS := (cif (IsRow r) (nI (turnL N V K (rn r)).length) (-1), N, V, K)
noncomputable def sp_turn (N : Nat → Nat) (V : Nat → Nat → Int32) (K : Nat → Int32) (r j : Int32) : RS := (cif (IsRow r ∧ 0 ≤ j.toInt ∧ j.toInt < ((turnL N V K (rn r)).length : Int)) (nI ((turnL N V K (rn r)).getD (rn j) 0)) (-1), N, V, K)
def RSQ (N : Nat → Nat) (V : Nat → Nat → Int32) (K I : Nat → Int32) (A : Nat → Nat → Int32) (r : Int32) : QT := fun v h' => (¬ IsRow r ∧ v = some (.int 0) ∧ h' = hC I A) ∨ (IsRow r ∧ v = some (.int 1) ∧ ∃ I' A', h' = hC I' A' ∧ CSh N V K (rn r) I' A' ∧ I' 1006 = nI (turnL N V K (rn r)).length ∧ AL (A' 14) (turnL N V K (rn r)))
theorem turnL_len {N : Nat → Nat} {V : Nat → Nat → Int32} {K : Nat → Int32} {k : Nat} : (turnL N V K k).length ≤ 40 := by
  have h1 := tL_len (v := V k) (ms := K k) (f := spf (V k) (N k) (K 8) 40) (l := spl (V k) (N k) (K 8) 40) (g := spg (V k) (N k) (K 8) 40) (spc (V k) (N k) (K 8) 40 - 1)
  have h2 := spc_le (v := V k) (n := N k) (p := K 8) 40
  unfold turnL
  omega
theorem cS_le {N : Nat → Nat} {V : Nat → Nat → Int32} {K : Nat → Int32} {k : Nat} : cS N V K k ≤ 40 := spc_le 40
theorem sw3 (w : Int32) : w = 0 ∨ w = 1 ∨ w = 2 ∨ (w.toInt < 0 ∨ 2 < w.toInt) := by
  by_cases h0 : w.toInt < 0
  · exact Or.inr (Or.inr (Or.inr (Or.inl h0)))
  · by_cases h2 : 2 < w.toInt
    · exact Or.inr (Or.inr (Or.inr (Or.inr h2)))
    · rcases (show w.toInt = 0 ∨ w.toInt = 1 ∨ w.toInt = 2 by omega) with e | e | e
      · exact Or.inl (Int32.toInt_inj.mp (by rw [e, z_0]))
      · exact Or.inr (Or.inl (Int32.toInt_inj.mp (by rw [e, z_1])))
      · exact Or.inr (Or.inr (Or.inl (Int32.toInt_inj.mp (by rw [e, z_2]))))
theorem kq_hi {v : Nat → Int32} {n : Nat} {p : Int32} {i : Nat} (h : n ≤ i) : kq v n p i = 0 := kq_no (fun w => by have := w.1; omega)
