theorem list_set_self {α : Type} {L : List α} {i : Nat} {v : α} (h : L[i]? = some v) : L.set i v = L := by
  apply List.ext_getElem?
  intro j
  rw [List.getElem?_set]
  by_cases e : i = j
  · subst e
    have := (List.getElem?_eq_some_iff.mp h).1
    rw [if_pos rfl, if_pos this, h]
  · rw [if_neg e]
theorem ix4_1 {i : Nat} : (4 : Int32) * nI i + 1 = nI (4 * i + 1) := ix4 (k := i) (i := 1)
theorem ix4_2 {i : Nat} : (4 : Int32) * nI i + 2 = nI (4 * i + 2) := ix4 (k := i) (i := 2)
theorem ix4_3 {i : Nat} : (4 : Int32) * nI i + 3 = nI (4 * i + 3) := ix4 (k := i) (i := 3)
def tblD (f v : Nat → Int32) (n : Nat) (p : Int32) (m : Nat) : Prop := ∀ i, m ≤ i → i < n → ∀ kd, 1 ≤ kd → kd ≤ 3 → f (4 * i + kd) = DP v n p i kd
theorem tbl_step {f v : Nat → Int32} {n : Nat} {p : Int32} {m : Nat} {x1 x2 x3 : Int32} (h : tblD f v n p (m + 1)) (h1 : x1 = DP v n p m 1) (h2 : x2 = DP v n p m 2) (h3 : x3 = DP v n p m 3) : tblD (upd (upd (upd f (4 * m + 1) x1) (4 * m + 2) x2) (4 * m + 3) x3) v n p m := by
  intro i hi hn kd a b
  by_cases e : i = m
  · subst e
    rcases (show kd = 1 ∨ kd = 2 ∨ kd = 3 by omega) with rfl | rfl | rfl
    · rw [pk_un (by omega), pk_un (by omega), pk_us]; exact h1
    · rw [pk_un (by omega), pk_us]; exact h2
    · rw [pk_us]; exact h3
  · rw [pk_un (by omega), pk_un (by omega), pk_un (by omega)]
    exact h i (by omega) hn kd a b
theorem cb_same (g : Nat → Int32) (p : Int32) (q : Nat) : g q + 0 = cb g p q q := by
  unfold cb; rw [if_pos rfl, Int32.add_zero]
theorem cb_far {v : Nat → Int32} {n : Nat} {p : Int32} {i b q : Nat} (hv : VB v n) (hp : 0 ≤ p.toInt ∧ p.toInt ≤ 10000) : cb (DP v n p i) p b q < 1000000000 := by
  have := cb_b (g := DP v n p i) (b := b) (q := q) (M := 492000) (by omega) hp (DP_b hv hp i q)
  rw [lt_T, z_far]; omega
