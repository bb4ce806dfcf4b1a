abbrev wy (v : Nat → Int32) (n i : Nat) : Prop := i + 1 < n ∧ ¬ v i = -5000 ∧ ¬ v (i + 1) = -5000
def wc (v : Nat → Int32) (i kd : Nat) : Int32 := if kd = 1 then (if v (i + 1) - v i < 0 then -(v (i + 1) - v i) else 0) else if kd = 2 then (if 0 < v (i + 1) - v i then v (i + 1) - v i else 0) else (if v (i + 1) - v i < 0 then -(v (i + 1) - v i) else v (i + 1) - v i)
def cb (g : Nat → Int32) (p : Int32) (b q : Nat) : Int32 := if q = b then g q else g q + p
def mn3 (g : Nat → Int32) (p : Int32) (b : Nat) : Int32 := if cb g p b 3 < (if cb g p b 2 < cb g p b 1 then cb g p b 2 else cb g p b 1) then cb g p b 3 else (if cb g p b 2 < cb g p b 1 then cb g p b 2 else cb g p b 1)
def bk2 (g : Nat → Int32) (p : Int32) (b : Nat) : Nat := if cb g p b 2 < cb g p b 1 then 2 else 1
def bk (g : Nat → Int32) (p : Int32) (b : Nat) : Nat := if cb g p b 3 < cb g p b (bk2 g p b) then 3 else bk2 g p b
def dpf (v : Nat → Int32) (n : Nat) (p : Int32) : Nat → Nat → Nat → Int32
  | 0, _, _ => 0
  | f + 1, i, kd => if wy v n i then wc v i kd + (if wy v n (i + 1) then mn3 (dpf v n p f (i + 1)) p kd else 0) else 0
def DP (v : Nat → Int32) (n : Nat) (p : Int32) (i kd : Nat) : Int32 := dpf v n p (41 - i) i kd
def kq (v : Nat → Int32) (n : Nat) (p : Int32) : Nat → Nat
  | 0 => if wy v n 0 then bk (DP v n p 0) p 0 else 0
  | i + 1 => if wy v n (i + 1) then bk (DP v n p (i + 1)) p (kq v n p i) else 0
def bef (v : Nat → Int32) (n : Nat) (p : Int32) : Nat → Nat
  | 0 => 0
  | i + 1 => kq v n p i
section DPS
variable {v : Nat → Int32} {n : Nat} {p : Int32} {i kd b q : Nat} {g g' : Nat → Int32}
theorem kq_eq : ∀ i, kq v n p i = if wy v n i then bk (DP v n p i) p (bef v n p i) else 0
  | 0 => rfl
  | _ + 1 => rfl
theorem DP_eq (hi : i ≤ 40) : DP v n p i kd = if wy v n i then wc v i kd + (if wy v n (i + 1) then mn3 (DP v n p (i + 1)) p kd else 0) else 0 := by
  unfold DP
  rw [show 41 - i = (41 - (i + 1)) + 1 by omega]
  rfl
theorem cb_congr (h : ∀ q, 1 ≤ q → q ≤ 3 → g q = g' q) (h1 : 1 ≤ q) (h3 : q ≤ 3) : cb g p b q = cb g' p b q := by
  unfold cb; rw [h q h1 h3]
theorem bk2_range : 1 ≤ bk2 g p b ∧ bk2 g p b ≤ 2 := by unfold bk2; split <;> omega
theorem bk_range : 1 ≤ bk g p b ∧ bk g p b ≤ 3 := by
  have := bk2_range (g := g) (p := p) (b := b)
  unfold bk; split <;> omega
theorem mn3_congr (h : ∀ q, 1 ≤ q → q ≤ 3 → g q = g' q) : mn3 g p b = mn3 g' p b := by
  unfold mn3
  rw [cb_congr h (by decide) (by decide), cb_congr h (by decide) (by decide), cb_congr h (by decide) (by decide)]
theorem bk_congr (h : ∀ q, 1 ≤ q → q ≤ 3 → g q = g' q) : bk g p b = bk g' p b := by
  have e2 : bk2 g p b = bk2 g' p b := by
    unfold bk2
    rw [cb_congr h (by decide) (by decide), cb_congr h (by decide) (by decide)]
  have r := bk2_range (g := g') (p := p) (b := b)
  unfold bk
  rw [e2, cb_congr h (by decide) (by decide), cb_congr h r.1 (by omega)]
theorem mn3_bk : mn3 g p b = cb g p b (bk g p b) := by
  unfold mn3 bk bk2
  by_cases h : cb g p b 2 < cb g p b 1
  · simp only [h, if_true]
    split <;> rfl
  · simp only [h, if_false]
    split <;> rfl
theorem wy_lt (h : wy v n i) (hn : n ≤ 40) : i < 39 := by have := h.1; omega
theorem kq_range (h : wy v n i) : 1 ≤ kq v n p i ∧ kq v n p i ≤ 3 := by
  rw [kq_eq, if_pos h]; exact bk_range
theorem kq_no (h : ¬ wy v n i) : kq v n p i = 0 := by rw [kq_eq, if_neg h]
end DPS
theorem wy_hv {N : Nat → Nat} {V : Nat → Nat → Int32} (hN : ∀ k, k < 4 → N k ≤ 40) {k i : Nat} (hk : k < 4) (hi : i < 1000) : (HV N V (nI k) (nI i) ∧ HV N V (nI k) (nI (i + 1))) ↔ wy (V k) (N k) i := by
  have h40 := hN k hk
  constructor
  · rintro ⟨h1, h2⟩
    obtain ⟨a, ha, e1, q1⟩ := hv_i hN hk h1
    obtain ⟨c, hc, e2, q2⟩ := hv_i hN hk h2
    have := nI_inj (by omega) (by omega) e1
    have := nI_inj (by omega) (by omega) e2
    subst_vars
    exact ⟨by omega, q1, q2⟩
  · rintro ⟨h1, h2, h3⟩
    exact ⟨⟨k, i, hk, by omega, rfl, rfl, h2⟩, ⟨k, i + 1, hk, by omega, rfl, rfl, h3⟩⟩
def VB (v : Nat → Int32) (n : Nat) : Prop := ∀ i, i < n → ¬ v i = -5000 → -1000 ≤ (v i).toInt ∧ (v i).toInt ≤ 1000
theorem PInv.vb {N : Nat → Nat} {V : Nat → Nat → Int32} {K : Nat → Int32} (h : PInv N V K) {k : Nat} (hk : k < 4) : VB (V k) (N k) := fun i hi hv => h.val hk hi hv
theorem PInv.part {N : Nat → Nat} {V : Nat → Nat → Int32} {K : Nat → Int32} (h : PInv N V K) : 0 ≤ (K 8).toInt ∧ (K 8).toInt ≤ 10000 := by
  have q := h.2.1
  unfold In at q; rw [z_0, z_10000] at q; exact q
section BND
variable {v : Nat → Int32} {n : Nat} {p : Int32} {i kd b q : Nat} {g : Nat → Int32}
theorem wd_b (hv : VB v n) (h : wy v n i) : (v (i + 1) - v i).toInt = (v (i + 1)).toInt - (v i).toInt ∧ -2000 ≤ (v (i + 1)).toInt - (v i).toInt ∧ (v (i + 1)).toInt - (v i).toInt ≤ 2000 := by
  have h1 := hv i (by have := h.1; omega) h.2.1
  have h2 := hv (i + 1) h.1 h.2.2
  refine ⟨i_sub (by omega) (by omega), by omega, by omega⟩
theorem wc_b (hv : VB v n) (h : wy v n i) : 0 ≤ (wc v i kd).toInt ∧ (wc v i kd).toInt ≤ 2000 := by
  obtain ⟨e, h1, h2⟩ := wd_b hv h
  have en := i_neg (a := v (i + 1) - v i) (by omega)
  unfold wc
  simp only [lt_T, e, z_0]
  split
  · split
    · rw [en]; omega
    · rw [z_0]; omega
  · split
    · split
      · rw [e]; omega
      · rw [z_0]; omega
    · split
      · rw [en]; omega
      · rw [e]; omega
theorem cb_b {M : Int} (hM : M ≤ 1000000) (hp : 0 ≤ p.toInt ∧ p.toInt ≤ 10000) (hg : 0 ≤ (g q).toInt ∧ (g q).toInt ≤ M) : 0 ≤ (cb g p b q).toInt ∧ (cb g p b q).toInt ≤ M + 10000 := by
  unfold cb
  split
  · omega
  · rw [i_add (by omega) (by omega)]; omega
theorem mn3_b {M : Int} (hM : M ≤ 1000000) (hp : 0 ≤ p.toInt ∧ p.toInt ≤ 10000) (hg : ∀ q, 0 ≤ (g q).toInt ∧ (g q).toInt ≤ M) : 0 ≤ (mn3 g p b).toInt ∧ (mn3 g p b).toInt ≤ M + 10000 := by
  rw [mn3_bk]; exact cb_b hM hp (hg _)
theorem dpf_b (hv : VB v n) (hp : 0 ≤ p.toInt ∧ p.toInt ≤ 10000) : ∀ f, f ≤ 41 → ∀ i kd, 0 ≤ (dpf v n p f i kd).toInt ∧ (dpf v n p f i kd).toInt ≤ 12000 * (f : Int)
  | 0, _, i, kd => by
    simp only [dpf, z_0]; omega
  | f + 1, hf, i, kd => by
    have ih := dpf_b hv hp f (by omega)
    simp only [dpf]
    split
    · rename_i hw
      have h1 := wc_b (kd := kd) hv hw
      split
      · have h2 := mn3_b (M := 12000 * (f : Int)) (b := kd) (by omega) hp (ih (i + 1))
        rw [i_add (by omega) (by omega)]
        omega
      · rw [i_add (by rw [z_0]; omega) (by rw [z_0]; omega), z_0]
        omega
    · rw [z_0]; omega
theorem DP_b (hv : VB v n) (hp : 0 ≤ p.toInt ∧ p.toInt ≤ 10000) (i kd : Nat) : 0 ≤ (DP v n p i kd).toInt ∧ (DP v n p i kd).toInt ≤ 492000 := by
  have := dpf_b hv hp (41 - i) (by omega) i kd
  unfold DP
  omega
end BND
