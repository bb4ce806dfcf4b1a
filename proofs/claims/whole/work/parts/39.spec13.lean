def NWQ (I : Nat → Int32) (A : Nat → Nat → Int32) (b kd i c : Nat) : QT := fun r h' => r = none ∧ ((kd = 0 ∧ h' = hC I (va_up A 11 (upd (A 11) i (nI kd)))) ∨ (¬ kd = 0 ∧ kd = b ∧ h' = hC I (va_up (va_up A 11 (upd (A 11) i (nI kd))) 13 (upd (A 13) (c - 1) (nI (i + 1))))) ∨ (¬ kd = 0 ∧ ¬ kd = b ∧ h' = hC (upd I 1005 (nI (c + 1))) (va_up (va_up (va_up A 11 (upd (A 11) i (nI kd))) 12 (upd (A 12) c (nI i))) 13 (upd (A 13) c (nI (i + 1))))))
def CSh (N : Nat → Nat) (V : Nat → Nat → Int32) (K : Nat → Int32) (k : Nat) (I : Nat → Int32) (A : Nat → Nat → Int32) : Prop := CInv N V K I A ∧ I 1005 = nI (spc (V k) (N k) (K 8) 40) ∧ I 1007 = toS (V k) (N k) (K 8) 40 ∧ (∀ j, j < 40 → A 11 j = nI (kq (V k) (N k) (K 8) j)) ∧ AG (A 12) (spf (V k) (N k) (K 8) 40) (spc (V k) (N k) (K 8) 40) ∧ AG (A 13) (spl (V k) (N k) (K 8) 40) (spc (V k) (N k) (K 8) 40)
def CKQ (N : Nat → Nat) (V : Nat → Nat → Int32) (K : Nat → Int32) (k : Nat) (A : Nat → Nat → Int32) : QT := fun r h' => r = none ∧ ∃ I' A', h' = hC I' A' ∧ CSh N V K k I' A' ∧ A' 27 = A 27
def CTQ (N : Nat → Nat) (V : Nat → Nat → Int32) (K : Nat → Int32) (k : Nat) (A : Nat → Nat → Int32) : QT := fun r h' => r = none ∧ ∃ I' A', h' = hC I' A' ∧ CSh N V K k I' A' ∧ I' 1006 = nI (turnL N V K k).length ∧ AL (A' 14) (turnL N V K k) ∧ A' 27 = A 27
theorem tblC_11 {A : Nat → Nat → Int32} {v : Nat → Int32} {n : Nat} {p : Int32} {c : Nat} {f : Nat → Int32} (hc : c < 16) (h : tblC A v n p 0) : tblC (va_up A c f) v n p 0 := fun i a w kd b d => by
  rw [up_n (by omega)]; exact h i a w kd b d
theorem kin1 {f : Nat → Int32} {g : Nat → Nat} {i : Nat} (h : ∀ j, j < i → f j = nI (g j)) (j : Nat) (hj : j < i + 1) : upd f i (nI (g i)) j = nI (g j) := by
  by_cases e : j = i
  · subst e; rw [pk_us]
  · rw [pk_un e]; exact h j (by omega)
theorem toS_new {v : Nat → Int32} {n : Nat} {p : Int32} {i : Nat} (h : bef v n p i = 0) (h2 : ¬ kq v n p i = 0) : toS v n p (i + 1) = toS v n p i + cb (DP v n p i) p 0 (kq v n p i) := by simp only [toS]; rw [if_pos ⟨h, h2⟩]
theorem toS_same {v : Nat → Int32} {n : Nat} {p : Int32} {i : Nat} (h : ¬ (bef v n p i = 0 ∧ ¬ kq v n p i = 0)) : toS v n p (i + 1) = toS v n p i := by simp only [toS]; rw [if_neg h]
