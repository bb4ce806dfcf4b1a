section SPI
variable {v : Nat → Int32} {n : Nat} {p : Int32}
def SPok (v : Nat → Int32) (n : Nat) (p : Int32) (i : Nat) : Prop :=
  (∀ j, j < spc v n p i → spf v n p i j < spl v n p i j ∧ spl v n p i j ≤ i ∧ spl v n p i j < n ∧ 1 ≤ spg v n p i j ∧ spg v n p i j ≤ 3 ∧ kq v n p (spf v n p i j) = spg v n p i j) ∧
  (∀ j, j + 1 < spc v n p i → spl v n p i j ≤ spf v n p i (j + 1) ∧ (spl v n p i j = spf v n p i (j + 1) → spg v n p i j ≠ spg v n p i (j + 1))) ∧
  (¬ bef v n p i = 0 → 1 ≤ spc v n p i ∧ spl v n p i (spc v n p i - 1) = i ∧ spg v n p i (spc v n p i - 1) = bef v n p i) ∧
  (bef v n p i = 0 → 1 ≤ spc v n p i → spl v n p i (spc v n p i - 1) < i)
theorem kq_wy {i : Nat} (h : ¬ kq v n p i = 0) : wy v n i := by
  by_cases w : wy v n i
  · exact w
  · exact absurd (kq_no w) h
theorem sp_ok : ∀ i, SPok v n p i
  | 0 => ⟨fun j h => absurd h (Nat.not_lt_zero j), fun j h => absurd h (Nat.not_lt_zero _), fun h => absurd rfl h, fun _ h => absurd h (by show ¬ 1 ≤ 0; omega)⟩
  | i + 1 => by
    obtain ⟨ha, hb, hc, hd⟩ := sp_ok i
    by_cases h : kq v n p i = 0
    · unfold SPok
      rw [spc_no h, spf_no h, spl_no h, spg_no h]
      refine ⟨fun j hj => ?_, hb, fun q => absurd h q, fun _ h1 => ?_⟩
      · obtain ⟨a1, a2, a3, a4, a5, a6⟩ := ha j hj
        exact ⟨a1, by omega, a3, a4, a5, a6⟩
      · have := (ha (spc v n p i - 1) (by omega)).2.1
        omega
    · have w := kq_wy h
      have hr := kq_range (p := p) w
      have hn := w.1
      by_cases q : kq v n p i = bef v n p i
      · have hbf : ¬ bef v n p i = 0 := by rw [← q]; exact h
        obtain ⟨c1, c2, c3⟩ := hc hbf
        unfold SPok
        rw [spc_on h q, spf_on h q, spl_on h q, spg_on h q]
        refine ⟨fun j hj => ?_, fun j hj => ?_, fun _ => ?_, fun z => absurd z h⟩
        · obtain ⟨a1, a2, a3, a4, a5, a6⟩ := ha j hj
          by_cases e : j = spc v n p i - 1
          · rw [e, up_s]
            rw [e] at a1 a4 a5 a6
            exact ⟨by omega, by omega, hn, a4, a5, a6⟩
          · rw [up_n e]
            exact ⟨a1, by omega, a3, a4, a5, a6⟩
        · rw [up_n (by omega)]
          exact hb j hj
        · refine ⟨c1, up_s, ?_⟩
          rw [c3]; exact q.symm
      · unfold SPok
        rw [spc_new h q, spf_new h q, spl_new h q, spg_new h q]
        refine ⟨fun j hj => ?_, fun j hj => ?_, fun _ => ?_, fun z => absurd z h⟩
        · by_cases e : j = spc v n p i
          · subst e
            rw [up_s, up_s, up_s]
            exact ⟨by omega, by omega, hn, hr.1, hr.2, rfl⟩
          · rw [up_n e, up_n e, up_n e]
            obtain ⟨a1, a2, a3, a4, a5, a6⟩ := ha j (by omega)
            exact ⟨a1, by omega, a3, a4, a5, a6⟩
        · by_cases e : j + 1 = spc v n p i
          · rw [e, up_s, up_s, up_n (by omega), up_n (by omega)]
            have a2 := (ha j (by omega)).2.1
            refine ⟨a2, fun el => ?_⟩
            have hj : j = spc v n p i - 1 := by omega
            by_cases hbf : bef v n p i = 0
            · have := hd hbf (by omega)
              rw [← hj] at this
              omega
            · have := (hc hbf).2.2
              rw [← hj] at this
              rw [this]
              exact fun z => q z.symm
          · rw [up_n e, up_n e, up_n (by omega), up_n (by omega)]
            exact hb j (by omega)
        · refine ⟨by omega, ?_, ?_⟩
          · rw [Nat.add_sub_cancel, up_s]
          · rw [Nat.add_sub_cancel, up_s]; rfl
end SPI
def sz (x : Int32) : Int32 := if 0 ≤ x then x else -x
abbrev tnD (v : Nat → Int32) (ms : Int32) (f l g : Nat → Nat) (j : Nat) : Prop := l j = f (j + 1) ∧ g j + g (j + 1) = 3 ∧ ¬ sz (v (l j) - v (f j)) ≤ 2 * ms ∧ ¬ sz (v (l j) - v (l (j + 1))) ≤ 2 * ms
def tL (v : Nat → Int32) (ms : Int32) (f l g : Nat → Nat) : Nat → List Nat
  | 0 => []
  | j + 1 => if tnD v ms f l g j then tL v ms f l g j ++ [l j] else tL v ms f l g j
theorem tL_t {v : Nat → Int32} {ms : Int32} {f l g : Nat → Nat} {j : Nat} (h : tnD v ms f l g j) : tL v ms f l g (j + 1) = tL v ms f l g j ++ [l j] := by simp only [tL]; rw [if_pos h]
theorem tL_f {v : Nat → Int32} {ms : Int32} {f l g : Nat → Nat} {j : Nat} (h : ¬ tnD v ms f l g j) : tL v ms f l g (j + 1) = tL v ms f l g j := by simp only [tL]; rw [if_neg h]
theorem tL_len {v : Nat → Int32} {ms : Int32} {f l g : Nat → Nat} : ∀ j, (tL v ms f l g j).length ≤ j
  | 0 => Nat.le_refl _
  | j + 1 => by
    have := tL_len (v := v) (ms := ms) (f := f) (l := l) (g := g) j
    by_cases h : tnD v ms f l g j
    · rw [tL_t h]; simp; omega
    · rw [tL_f h]; omega
theorem tL_mem {v : Nat → Int32} {ms : Int32} {f l g : Nat → Nat} : ∀ j, ∀ x ∈ tL v ms f l g j, ∃ i, i < j ∧ x = l i
  | 0, x, h => by simp [tL] at h
  | j + 1, x, h => by
    by_cases q : tnD v ms f l g j
    · rw [tL_t q] at h
      rcases List.mem_append.mp h with h | h
      · obtain ⟨i, hi, e⟩ := tL_mem j x h
        exact ⟨i, by omega, e⟩
      · exact ⟨j, by omega, List.mem_singleton.mp h⟩
    · rw [tL_f q] at h
      obtain ⟨i, hi, e⟩ := tL_mem j x h
      exact ⟨i, by omega, e⟩
noncomputable def turnL (N : Nat → Nat) (V : Nat → Nat → Int32) (K : Nat → Int32) (k : Nat) : List Nat := tL (V k) (K k) (spf (V k) (N k) (K 8) 40) (spl (V k) (N k) (K 8) 40) (spg (V k) (N k) (K 8) 40) (spc (V k) (N k) (K 8) 40 - 1)
def TnQ (N : Nat → Nat) (V : Nat → Nat → Int32) (K : Nat → Int32) (k : Nat) : QT := fun r h' => r = none ∧ ∃ J' B', h' = hT J' B' ∧ ShQ N V K k J' B' ∧ J' 14 = nI (turnL N V K k).length ∧ AL (B' 10) (turnL N V K k)
theorem abs_sz (x : Int32) : (if 0 ≤ x then x else 0 - x) = sz x := by
  unfold sz
  split
  · rfl
  · rw [Int32.zero_sub]
theorem min_gt {a b c : Int32} : ¬ (if b < a then b else a) ≤ c ↔ ¬ a ≤ c ∧ ¬ b ≤ c := by
  simp only [lt_T, le_T]
  split <;> omega
theorem g3 {a b : Nat} (ha : 1 ≤ a ∧ a ≤ 3) (hb : 1 ≤ b ∧ b ≤ 3) (hne : a ≠ b) : a + b = 3 ↔ a ≠ 3 ∧ b ≠ 3 := by omega
