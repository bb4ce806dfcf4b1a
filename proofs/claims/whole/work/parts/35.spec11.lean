section CCO
variable {A : Nat → Nat → Int32} {c m q i : Nat} {x : Int32}
theorem u_ne (h : i ≠ m) : (va_up A (16 + c) (upd (A (16 + c)) m x)) (16 + q) i = A (16 + q) i := by
  by_cases e : q = c
  · subst e; rw [up_s, pk_un h]
  · rw [up_n (by omega)]
theorem u_eq : (va_up A (16 + c) (upd (A (16 + c)) m x)) (16 + c) m = x := by rw [up_s, pk_us]
theorem u_q (h : q ≠ c) : (va_up A (16 + c) (upd (A (16 + c)) m x)) (16 + q) i = A (16 + q) i := by rw [up_n (by omega)]
end CCO
def tblC (A : Nat → Nat → Int32) (v : Nat → Int32) (n : Nat) (p : Int32) (m : Nat) : Prop := ∀ i, m ≤ i → wy v n i → ∀ kd, 1 ≤ kd → kd ≤ 3 → A (16 + kd) i = DP v n p i kd
theorem wc1 {v : Nat → Int32} {n i : Nat} (hv : VB v n) (w : wy v n i) : (if (0 : Int32) < -(v (i + 1) - v i) then -(v (i + 1) - v i) else 0) = wc v i 1 := by
  obtain ⟨e, h1, h2⟩ := wd_b hv w
  have en := i_neg (a := v (i + 1) - v i) (by omega)
  unfold wc
  rw [if_pos rfl]
  by_cases c : v (i + 1) - v i < 0
  · rw [if_pos c, if_pos]; rw [lt_T, en, z_0]; rw [lt_T, z_0] at c; omega
  · rw [if_neg c, if_neg]; rw [lt_T, en, z_0]; rw [lt_T, z_0] at c; omega
theorem wc3 {v : Nat → Int32} {i : Nat} : (if (0 : Int32) ≤ v (i + 1) - v i then v (i + 1) - v i else 0 - (v (i + 1) - v i)) = wc v i 3 := by
  unfold wc
  rw [if_neg (show ¬ (3 : Nat) = 1 by decide), if_neg (show ¬ (3 : Nat) = 2 by decide)]
  by_cases c : v (i + 1) - v i < 0
  · rw [if_pos c, if_neg (Int32.not_le.mpr c), Int32.zero_sub]
  · rw [if_neg c, if_pos (Int32.not_lt.mp c)]
