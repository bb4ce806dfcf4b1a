def cntB (b : Nat → Bool) : Nat → Nat
  | 0 => 0
  | i + 1 => cntB b i + (if b i = true then 1 else 0)
def sW (w : Nat → Nat) : Nat → Nat
  | 0 => 0
  | i + 1 => sW w i + w i
section CNT
variable {a b : Nat → Bool}
theorem cntB_le : ∀ c, (∀ i, i < c → a i = true → b i = true) → cntB a c ≤ cntB b c
  | 0, _ => Nat.le_refl _
  | c + 1, h => by
    have ih := cntB_le c (fun i hi => h i (by omega))
    have h1 := h c (by omega)
    simp only [cntB]
    by_cases q : a c = true
    · rw [if_pos q, if_pos (h1 q)]; omega
    · rw [if_neg q]; split <;> omega
theorem cntB_lt {j : Nat} (hb : b j = true) (ha : ¬ a j = true) : ∀ c, j < c → (∀ i, i < c → a i = true → b i = true) → cntB a c < cntB b c
  | 0, hj, _ => by omega
  | c + 1, hj, h => by
    simp only [cntB]
    by_cases e : j = c
    · subst e
      have := cntB_le j (fun i hi => h i (by omega))
      rw [if_neg ha, if_pos hb]; omega
    · have ih := cntB_lt hb ha c (by omega) (fun i hi => h i (by omega))
      have h1 := h c (by omega)
      by_cases q : a c = true
      · rw [if_pos q, if_pos (h1 q)]; omega
      · rw [if_neg q]; split <;> omega
theorem cntB_all : ∀ c, (∀ i, i < c → b i = true) → cntB b c = c
  | 0, _ => rfl
  | c + 1, h => by
    simp only [cntB]
    rw [cntB_all c (fun i hi => h i (by omega)), if_pos (h c (by omega))]
theorem cntB_none : ∀ c, (∀ i, i < c → ¬ b i = true) → cntB b c = 0
  | 0, _ => rfl
  | c + 1, h => by
    simp only [cntB]
    rw [cntB_none c (fun i hi => h i (by omega)), if_neg (h c (by omega))]
theorem cntB_congr : ∀ c, (∀ i, i < c → a i = b i) → cntB a c = cntB b c
  | 0, _ => rfl
  | c + 1, h => by
    simp only [cntB]
    rw [cntB_congr c (fun i hi => h i (by omega)), h c (by omega)]
theorem cntB_add {j : Nat} (hb : ¬ b j = true) : ∀ c, cntB (fun i => decide (i = j) || b i) c = cntB b c + (if j < c then 1 else 0)
  | 0 => by simp [cntB]
  | c + 1 => by
    have ih := cntB_add hb c
    simp only [cntB, ih]
    by_cases e : c = j
    · subst e
      simp [hb]
    · by_cases h : j < c
      · simp [e, h, show j < c + 1 by omega]; omega
      · simp [e, h, show ¬ j < c + 1 by omega]
theorem cntB_bound : ∀ c, cntB b c ≤ c
  | 0 => Nat.le_refl _
  | c + 1 => by
    have := cntB_bound c
    simp only [cntB]
    split <;> omega
end CNT
def bfB (r : Nat → Nat) (o i : Nat) : Bool := decide (r i < r o ∨ (r o = r i ∧ o < i))
theorem bfB_iff {r : Nat → Nat} {o i : Nat} : bfB r o i = true ↔ (r i < r o ∨ (r o = r i ∧ o < i)) := by unfold bfB; exact decide_eq_true_iff
def clo (r : Nat → Nat) (m : Nat → Bool) (c : Nat) : Prop := ∀ i o, i < c → o < c → m i = true → bfB r o i = true → m o = true
theorem clo_rank {r : Nat → Nat} {m : Nat → Bool} {c i : Nat} (h : clo r m c) (hi : i < c) : m i = true ↔ cntB (fun o => bfB r o i) c < cntB m c := by
  constructor
  · intro hm
    refine cntB_lt (j := i) hm ?_ c hi (fun o ho hb => h i o hi ho hm hb)
    rw [bfB_iff]; omega
  · intro hl
    by_cases hm : m i = true
    · exact hm
    · have : cntB m c ≤ cntB (fun o => bfB r o i) c := by
        refine cntB_le c (fun o ho hmo => ?_)
        show bfB r o i = true
        rw [bfB_iff]
        by_cases hb : bfB r i o = true
        · exact absurd (h o i ho hi hmo hb) hm
        · have : o ≠ i := fun e => hm (by rw [← e]; exact hmo)
          rw [bfB_iff] at hb
          omega
      omega
theorem clo_add {r : Nat → Nat} {m : Nat → Bool} {c b : Nat} (h : clo r m c) (hb : b < c) (hm : ¬ m b = true) (hmin : ∀ o, o < c → ¬ m o = true → o = b ∨ bfB r b o = true) : clo r (fun i => decide (i = b) || m i) c := by
  intro i o hi ho h1 h2
  show (decide (o = b) || m o) = true
  have h1 : (decide (i = b) || m i) = true := h1
  rw [Bool.or_eq_true, decide_eq_true_iff] at h1 ⊢
  rcases h1 with rfl | h1
  · by_cases q : m o = true
    · exact Or.inr q
    · rcases hmin o ho q with e | e
      · exact Or.inl e
      · rw [bfB_iff] at e h2; omega
  · exact Or.inr (h i o hi ho h1 h2)
section SUMS
variable {w : Nat → Nat} {L W : Nat}
theorem sW_le {c : Nat} (i : Nat) (h : i ≤ c) : sW w i ≤ sW w c := by
  induction c with
  | zero => rw [show i = 0 by omega]; exact Nat.le_refl _
  | succ c ih =>
    by_cases e : i = c + 1
    · rw [e]; exact Nat.le_refl _
    · have := ih (by omega); simp only [sW]; omega
theorem sW_b {M : Nat} : ∀ c, (∀ i, i < c → w i ≤ M) → sW w c ≤ c * M
  | 0, _ => by simp [sW]
  | c + 1, h => by
    have ih := sW_b c (fun i hi => h i (by omega))
    have := h c (by omega)
    simp only [sW, Nat.add_mul, Nat.one_mul]; omega
theorem sW_pos : ∀ c, (∀ i, i < c → 1 ≤ w i) → c ≤ sW w c
  | 0, _ => Nat.zero_le _
  | c + 1, h => by
    have ih := sW_pos c (fun i hi => h i (by omega))
    have := h c (by omega)
    simp only [sW]; omega
def fl (w : Nat → Nat) (L W : Nat) (j : Nat) : Nat := L * w j / W
def rs (w : Nat → Nat) (L W : Nat) (j : Nat) : Nat := L * w j % W
theorem fl_sum (i : Nat) : sW (fl w L W) i * W + sW (rs w L W) i = L * sW w i := by
  induction i with
  | zero => simp [sW]
  | succ i ih =>
    simp only [sW, Nat.add_mul, Nat.mul_add]
    have := Nat.div_add_mod (L * w i) W
    unfold fl rs at *
    rw [Nat.mul_comm W] at this
    omega
theorem fl_le {c i : Nat} (hW : 0 < sW w c) (hi : i ≤ c) : sW (fl w L (sW w c)) i ≤ L := by
  have h1 := fl_sum (w := w) (L := L) (W := sW w c) i
  have h2 := sW_le (w := w) i hi
  have h3 : L * sW w i ≤ L * sW w c := Nat.mul_le_mul_left _ h2
  exact Nat.le_of_mul_le_mul_right (show sW (fl w L (sW w c)) i * sW w c ≤ L * sW w c by omega) hW
theorem rs_sum (hW : 0 < W) : ∀ c, 1 ≤ c → sW (rs w L W) c < c * W
  | 0, h => by omega
  | c + 1, _ => by
    have h1 : rs w L W c < W := Nat.mod_lt _ hW
    simp only [sW, Nat.add_mul, Nat.one_mul]
    cases c with
    | zero => simp [sW]; omega
    | succ c => have := rs_sum hW (c + 1) (by omega); omega
theorem lack_lt {c : Nat} (hc : 1 ≤ c) (hW : 0 < sW w c) : L - sW (fl w L (sW w c)) c < c := by
  have h1 := fl_sum (w := w) (L := L) (W := sW w c) c
  have h2 := rs_sum (w := w) (L := L) hW c hc
  have h3 := fl_le (L := L) hW (Nat.le_refl c)
  have h4 : (L - sW (fl w L (sW w c)) c) * sW w c < c * sW w c := by
    rw [Nat.sub_mul]; omega
  exact Nat.lt_of_mul_lt_mul_right h4
end SUMS
def wbE (w : Nat → Nat) (c L j : Nat) : Nat := 1 + fl w L (sW w c) j + (if cntB (fun o => bfB (rs w L (sW w c)) o j) c < L - sW (fl w L (sW w c)) c then 1 else 0)
def wvF (N : Nat → Nat) (V : Nat → Nat → Int32) (K : Nat → Int32) (k : Nat) : Nat → Nat := fun j => spl (V k) (N k) (K 8) 40 j - spf (V k) (N k) (K 8) 40 j
theorem wv_b {N : Nat → Nat} {V : Nat → Nat → Int32} {K : Nat → Int32} {k : Nat} (h40 : N k ≤ 40) : ∀ j, j < cS N V K k → 1 ≤ wvF N V K k j ∧ wvF N V K k j ≤ 40 := fun j hj => by
  have := (sp_ok (v := V k) (n := N k) (p := K 8) 40).1 j hj
  unfold wvF
  omega
noncomputable def sp_whole (N : Nat → Nat) (V : Nat → Nat → Int32) (K : Nat → Int32) (r n j : Int32) : RS := (cif (IsRow r ∧ In n 1 200 ∧ (0 ≤ j.toInt ∧ j.toInt < (cS N V K (rn r) : Int)) ∧ (cS N V K (rn r) : Int) ≤ n.toInt) (nI (wbE (wvF N V K (rn r)) (cS N V K (rn r)) (rn n - cS N V K (rn r)) (rn j))) (-1), N, V, K)
