theorem lowR_ge {v : Nat → Int32} : ∀ n, (∀ j, j < n → v j = -5000 ∨ In (v j) (-1000) 1000) → -1000 ≤ (lowR v n).toInt
  | 0, _ => by simp only [lowR]; rw [z_1001]; omega
  | n + 1, h => by
    have ih := lowR_ge n (fun j hj => h j (by omega))
    have h1 := h n (by omega)
    unfold In at h1
    rw [z_m1000] at h1
    simp only [lowR]
    split
    · exact ih
    · split
      · rcases h1 with h1 | h1
        · contradiction
        · exact h1.1
      · exact ih
theorem lowA_ge {N : Nat → Nat} {V : Nat → Nat → Int32} : ∀ r, (∀ k, k < r → -1000 ≤ (lowR (V k) (N k)).toInt) → -1000 ≤ (lowA N V r).toInt
  | 0, _ => by simp only [lowA]; rw [z_1001]; omega
  | r + 1, h => by
    have ih := lowA_ge r (fun k hk => h k (by omega))
    have h1 := h r (by omega)
    simp only [lowA]
    split
    · exact h1
    · exact ih
theorem hg_b {N : Nat → Nat} {V : Nat → Nat → Int32} {K : Nat → Int32} (hP : PInv N V K) (h9 : ¬ K 9 = 0) {r s : Int32} (h : HV N V r s) : 0 ≤ (hgtE N V K r s).toInt ∧ (hgtE N V K r s).toInt ≤ 2000 := by
  unfold hgtE
  rw [cif_t ⟨h9, h⟩]
  obtain ⟨k, i, hk, hi, rfl, rfl, hv⟩ := h
  have h40 := (hP.1 k hk).1
  rw [rn_n (by omega), rn_n (by omega)]
  have a1 := hP.val hk hi hv
  have a2 := (lowR_le (v := V k) (N k) i hi hv).1
  have a3 := (lowA_le (N := N) (V := V) 4 k hk).1
  have a4 := lowA_ge (N := N) (V := V) 4 (fun q hq => lowR_ge (N q) (hP.1 q hq).2.1)
  have a5 := hP.2.2.1
  unfold In at a5
  rw [z_0] at a5
  have a6 : ¬ (K 9).toInt = 0 := fun q => h9 (Int32.toInt_inj.mp (q.trans z_0.symm))
  have e := i_sub (a := V k i) (b := lowA N V 4) (by omega) (by omega)
  rw [i_div (by omega) (by omega), e]
  have b1 := Int.ediv_le_self (b := (K 9).toInt) (a := (V k i).toInt - (lowA N V 4).toInt) (by omega)
  have b2 := Int.ediv_nonneg (a := (V k i).toInt - (lowA N V 4).toInt) (b := (K 9).toInt) (by omega) (by omega)
  omega
theorem hg_n {N : Nat → Nat} {V : Nat → Nat → Int32} {K : Nat → Int32} {r s : Int32} (h : ¬ HV N V r s) : hgtE N V K r s = -1 := by
  unfold hgtE
  exact cif_f (fun q => h q.2)
theorem hg_iff {N : Nat → Nat} {V : Nat → Nat → Int32} {K : Nat → Int32} (hP : PInv N V K) (h9 : ¬ K 9 = 0) {r s : Int32} : hgtE N V K r s = -1 ↔ ¬ HV N V r s := by
  constructor
  · intro e h
    have := hg_b hP h9 h
    rw [e, z_m1] at this
    omega
  · exact hg_n
def pw : Nat → Nat
  | 0 => 625
  | 1 => 125
  | 2 => 25
  | 3 => 5
  | _ => 1
def dig (c r : Nat) : Nat := c / pw (r + 1) % 5
theorem dig_lt (c r : Nat) : dig c r < 5 := Nat.mod_lt _ (by decide)
theorem r4 {row : Nat} (h : row < 4) : row = 0 ∨ row = 1 ∨ row = 2 ∨ row = 3 := by omega
theorem pw_s {row : Nat} (h : row < 4) : pw row = 5 * pw (row + 1) := by
  rcases r4 h with rfl | rfl | rfl | rfl <;> rfl
theorem pw_pos {row : Nat} : 0 < pw row := by
  unfold pw
  split <;> decide
theorem dig_in {c i r row : Nat} (hr : row ≤ 4) (h0 : c % pw row = 0) (hi : i < pw row) (h : r < row) : dig (c + i) r = dig c r := by
  have : row = 1 ∨ row = 2 ∨ row = 3 ∨ row = 4 := by omega
  rcases this with rfl | rfl | rfl | rfl
  · have : r = 0 := by omega
    subst this
    simp only [dig, pw] at *
    omega
  · have : r = 0 ∨ r = 1 := by omega
    rcases this with rfl | rfl <;> simp only [dig, pw] at * <;> omega
  · have : r = 0 ∨ r = 1 ∨ r = 2 := by omega
    rcases this with rfl | rfl | rfl <;> simp only [dig, pw] at * <;> omega
  · have : i = 0 := by simp only [pw] at hi; omega
    subst this
    rfl
theorem dig_at {c p i row : Nat} (hr : row < 4) (h0 : c % pw row = 0) (hp : p < 5) (hi : i < pw (row + 1)) : dig (c + p * pw (row + 1) + i) row = p := by
  rcases r4 hr with rfl | rfl | rfl | rfl <;> simp only [dig, pw] at * <;> omega
theorem pw_at {c p row : Nat} (hr : row < 4) (h0 : c % pw row = 0) : (c + p * pw (row + 1)) % pw (row + 1) = 0 := by
  rcases r4 hr with rfl | rfl | rfl | rfl <;> simp only [pw] at * <;> omega
theorem pw_at_lt {p row : Nat} (hr : row < 4) (hp : p < 5) {i : Nat} (hi : i < pw (row + 1)) : p * pw (row + 1) + i < pw row := by
  rcases r4 hr with rfl | rfl | rfl | rfl <;> simp only [pw] at * <;> omega
noncomputable def cst (hs : Nat → Prop) (w : Nat → Nat) (lt : Nat) (c : Nat) : Nat → Nat
  | 0 => 0
  | r + 1 => cst hs w lt c r + cif (hs r) (if dig c r = 4 then w r else dig c r * lt) 0
def Cl (hs : Nat → Prop) (g : Nat → Int) (hd : Int) (c a b : Nat) : Prop := hs a ∧ hs b ∧ dig c a = dig c b ∧ ¬ dig c a = 4 ∧ g b - g a < hd ∧ g a - g b < hd
def OKp (hs : Nat → Prop) (g : Nat → Int) (hd : Int) (c row : Nat) : Prop := ∀ r, r < row → (hs r ∨ dig c r = 0) ∧ ∀ a, a < r → ¬ Cl hs g hd c a r
section LAYS
variable {hs : Nat → Prop} {g : Nat → Int} {hd : Int} {w : Nat → Nat} {lt : Nat}
theorem cst_pre {c c' : Nat} : ∀ row, (∀ r, r < row → dig c r = dig c' r) → cst hs w lt c row = cst hs w lt c' row
  | 0, _ => rfl
  | r + 1, h => by simp only [cst]; rw [cst_pre r (fun q hq => h q (by omega)), h r (by omega)]
theorem Cl_pre {c c' a b : Nat} (h1 : dig c a = dig c' a) (h2 : dig c b = dig c' b) (h : Cl hs g hd c a b) : Cl hs g hd c' a b := by
  unfold Cl at *
  rw [← h1, ← h2]
  exact h
theorem OKp_pre {c c' row : Nat} (h : ∀ r, r < row → dig c r = dig c' r) (ho : OKp hs g hd c row) : OKp hs g hd c' row := fun r hr => by
  have h1 := ho r hr
  refine ⟨by rw [← h r hr]; exact h1.1, fun a ha q => h1.2 a ha (Cl_pre (h a (by omega)).symm (h r hr).symm q)⟩
theorem OKp_mono {c row row' : Nat} (h : row ≤ row') (ho : OKp hs g hd c row') : OKp hs g hd c row := fun r hr => ho r (by omega)
theorem cst_mono {c row : Nat} : ∀ n, cst hs w lt c row ≤ cst hs w lt c (row + n)
  | 0 => Nat.le_refl _
  | n + 1 => Nat.le_trans (cst_mono n) (by rw [← Nat.add_assoc]; exact Nat.le_add_right _ _)
theorem cst_b {c : Nat} (hw : ∀ k, k < 4 → w k ≤ 1000) (hl : lt ≤ 100) : ∀ row, row ≤ 4 → cst hs w lt c row ≤ 1000 * row
  | 0, _ => Nat.le_refl _
  | r + 1, h => by
    have ih := cst_b (c := c) hw hl r (by omega)
    have h1 := hw r (by omega)
    have h2 := dig_lt c r
    have h3 : dig c r * lt ≤ 5 * 100 := Nat.mul_le_mul (by omega) hl
    have : cif (hs r) (if dig c r = 4 then w r else dig c r * lt) 0 ≤ 1000 := by
      by_cases q : hs r
      · rw [cif_t q]; split <;> omega
      · rw [cif_f q]; omega
    simp only [cst]
    omega
noncomputable def stp (hs : Nat → Prop) (g : Nat → Int) (hd : Int) (w : Nat → Nat) (lt : Nat) (c : Nat) (s : Option Nat) : Option Nat := cif (OKp hs g hd c 4 ∧ ∀ b, s = some b → cst hs w lt c 4 < cst hs w lt b 4) (some c) s
noncomputable def run (hs : Nat → Prop) (g : Nat → Int) (hd : Int) (w : Nat → Nat) (lt : Nat) : Nat → Nat → Option Nat → Option Nat
  | 0, _, s => s
  | n + 1, c, s => run hs g hd w lt n (c + 1) (stp hs g hd w lt c s)
theorem run_add : ∀ (n m c : Nat) (s : Option Nat), run hs g hd w lt (n + m) c s = run hs g hd w lt m (c + n) (run hs g hd w lt n c s)
  | 0, m, c, s => by rw [Nat.zero_add]; rfl
  | n + 1, m, c, s => by
    rw [show n + 1 + m = (n + m) + 1 by omega]
    simp only [run]
    rw [run_add n m (c + 1), show c + 1 + n = c + (n + 1) by omega]
theorem run_skip {s : Option Nat} : ∀ (n c : Nat), (∀ i, i < n → ¬ (OKp hs g hd (c + i) 4 ∧ ∀ b, s = some b → cst hs w lt (c + i) 4 < cst hs w lt b 4)) → run hs g hd w lt n c s = s
  | 0, _, _ => rfl
  | n + 1, c, h => by
    simp only [run]
    rw [show stp hs g hd w lt c s = s from cif_f (h 0 (by omega))]
    exact run_skip n (c + 1) (fun i hi => by have := h (i + 1) (by omega); rwa [show c + (i + 1) = c + 1 + i by omega] at this)
theorem run_one (n : Nat) (s : Option Nat) (c : Nat) : run hs g hd w lt (n + 1) c s = stp hs g hd w lt (c + n) (run hs g hd w lt n c s) := by
  rw [run_add n 1]; rfl
theorem run_prune {s : Option Nat} {row c : Nat} (hr : row ≤ 4) (h0 : c % pw row = 0) {b : Nat} (hb : s = some b) (h : cst hs w lt b 4 ≤ cst hs w lt c row) : run hs g hd w lt (pw row) c s = s := by
  refine run_skip _ _ (fun i hi q => ?_)
  have h1 := q.2 b hb
  have h2 : cst hs w lt (c + i) row ≤ cst hs w lt (c + i) 4 := by
    have := cst_mono (hs := hs) (w := w) (lt := lt) (c := c + i) (row := row) (4 - row)
    rwa [show row + (4 - row) = 4 by omega] at this
  have h3 := cst_pre (hs := hs) (w := w) (lt := lt) (c := c + i) (c' := c) row (fun r hr2 => dig_in hr h0 hi hr2)
  omega
theorem run_none {s : Option Nat} {row c p : Nat} (hr : row < 4) (h0 : c % pw row = 0) (hp : p < 5) (hn : ¬ hs row) (h1 : ¬ p = 0) : run hs g hd w lt (pw (row + 1)) (c + p * pw (row + 1)) s = s := by
  refine run_skip _ _ (fun i hi q => ?_)
  have := (q.1 row hr).1
  rw [dig_at hr h0 hp hi] at this
  rcases this with h | h
  · exact hn h
  · exact h1 h
theorem run_block {s : Option Nat} {row c : Nat} (hr : row < 4) (p : Nat) : run hs g hd w lt ((p + 1) * pw (row + 1)) c s = run hs g hd w lt (pw (row + 1)) (c + p * pw (row + 1)) (run hs g hd w lt (p * pw (row + 1)) c s) := by
  rw [Nat.add_mul, Nat.one_mul, run_add]
theorem run_void {s : Option Nat} {row c : Nat} (hr : row < 4) (h0 : c % pw row = 0) (hn : ¬ hs row) : run hs g hd w lt (pw row) c s = run hs g hd w lt (pw (row + 1)) c s := by
  have k : ∀ p, p < 5 → run hs g hd w lt ((p + 1) * pw (row + 1)) c s = run hs g hd w lt (pw (row + 1)) c s := by
    intro p
    induction p with
    | zero => intro _; rw [Nat.zero_add, Nat.one_mul]
    | succ p ih =>
      intro hp
      rw [run_block hr, run_none hr h0 hp hn (by omega)]
      exact ih (by omega)
  rw [pw_s hr]
  exact k 4 (by decide)
def Fr (hs : Nat → Prop) (g : Nat → Int) (hd : Int) (c row p : Nat) : Prop := ∀ a, a < row → ¬ (hs a ∧ dig c a = p ∧ g row - g a < hd ∧ g a - g row < hd)
theorem ok_at {row c p : Nat} (hr : row < 4) (h0 : c % pw row = 0) (hp : p < 5) (ho : OKp hs g hd c row) (hh : hs row) (hf : p = 4 ∨ Fr hs g hd c row p) : OKp hs g hd (c + p * pw (row + 1)) (row + 1) := by
  have e1 : ∀ r, r < row → dig c r = dig (c + p * pw (row + 1)) r := fun r hr2 => (dig_in (by omega) h0 (by have := pw_at_lt (p := p) hr hp (i := 0) pw_pos; omega) hr2).symm
  have e2 : dig (c + p * pw (row + 1)) row = p := dig_at (i := 0) hr h0 hp pw_pos
  have h1 := OKp_pre e1 ho
  intro r hr2
  by_cases e : r = row
  · subst e
    refine ⟨Or.inl hh, fun a ha q => ?_⟩
    obtain ⟨q1, q2, q3, q4, q5, q6⟩ := q
    rw [e2, ← e1 a ha] at q3
    rcases hf with hf | hf
    · rw [← e1 a ha] at q4; exact q4 (q3.trans hf)
    · exact hf a ha ⟨q1, q3, q5, q6⟩
  · exact h1 r (by omega)
theorem run_full {s : Option Nat} {row c p : Nat} (hr : row < 4) (h0 : c % pw row = 0) (hp : p < 4) (hh : hs row) (hf : ¬ Fr hs g hd c row p) : run hs g hd w lt (pw (row + 1)) (c + p * pw (row + 1)) s = s := by
  refine run_skip _ _ (fun i hi q => hf (fun a ha z => ?_))
  have e1 : dig (c + p * pw (row + 1) + i) a = dig c a := by
    rw [Nat.add_assoc]
    exact dig_in (by omega) h0 (pw_at_lt hr (by omega) hi) ha
  have e2 : dig (c + p * pw (row + 1) + i) row = p := dig_at hr h0 (by omega) hi
  exact (q.1 row hr).2 a ha ⟨z.1, hh, by rw [e1, e2]; exact z.2.1, by rw [e1, z.2.1]; omega, z.2.2.1, z.2.2.2⟩
theorem cst_at {row c p : Nat} (hr : row < 4) (h0 : c % pw row = 0) (hp : p < 5) (hh : hs row) : cst hs w lt (c + p * pw (row + 1)) (row + 1) = cst hs w lt c row + (if p = 4 then w row else p * lt) := by
  have e1 : ∀ r, r < row → dig (c + p * pw (row + 1)) r = dig c r := fun r hr2 => dig_in (by omega) h0 (by have := pw_at_lt (p := p) hr hp (i := 0) pw_pos; omega) hr2
  have e2 : dig (c + p * pw (row + 1)) row = p := dig_at (i := 0) hr h0 hp pw_pos
  simp only [cst]
  rw [cst_pre row e1, cif_t hh, e2]
theorem ok_void {row c : Nat} (hr : row < 4) (h0 : c % pw row = 0) (ho : OKp hs g hd c row) (hn : ¬ hs row) : OKp hs g hd c (row + 1) := by
  have e2 : dig c row = 0 := by
    have := dig_at (p := 0) (i := 0) hr h0 (by decide) pw_pos
    simpa using this
  intro r hr2
  by_cases e : r = row
  · subst e
    exact ⟨Or.inr e2, fun a ha q => hn q.2.1⟩
  · exact ho r (by omega)
theorem cst_void {row c : Nat} (hn : ¬ hs row) : cst hs w lt c (row + 1) = cst hs w lt c row := by
  simp only [cst]
  rw [cif_f hn]
  rfl
theorem pw_void {row c : Nat} (hr : row < 4) (h0 : c % pw row = 0) : c % pw (row + 1) = 0 := by
  have := pw_at (p := 0) hr h0
  simpa using this
theorem run_some (s : Option Nat) (h : s ≠ none) : ∀ n c, run hs g hd w lt n c s ≠ none := by
  intro n
  induction n generalizing s with
  | zero => intro _; exact h
  | succ n ih =>
    intro c
    refine ih _ ?_ (c + 1)
    unfold stp
    by_cases q : (OKp hs g hd c 4 ∧ ∀ b, s = some b → cst hs w lt c 4 < cst hs w lt b 4)
    · rw [cif_t q]; simp
    · rw [cif_f q]; exact h
theorem run_ex {n c : Nat} (i : Nat) (hi : i < n) (h : OKp hs g hd (c + i) 4) : run hs g hd w lt n c none ≠ none := by
  have e : n = (i + 1) + (n - (i + 1)) := by omega
  rw [e, run_add]
  refine run_some _ ?_ _ _
  rw [run_one]
  unfold stp
  cases hx : run hs g hd w lt i c none with
  | none => rw [cif_t ⟨h, fun b hb => by cases hb⟩]; simp
  | some b =>
    by_cases q : (OKp hs g hd (c + i) 4 ∧ ∀ b', (some b : Option Nat) = some b' → cst hs w lt (c + i) 4 < cst hs w lt b' 4)
    · rw [cif_t q]; simp
    · rw [cif_f q]; simp
theorem ok_all : ∀ n, n ≤ 4 → ∀ c, c % pw (4 - n) = 0 → OKp hs g hd c (4 - n) → ∃ i, i < pw (4 - n) ∧ OKp hs g hd (c + i) 4
  | 0, _, c, _, h => ⟨0, by decide, h⟩
  | n + 1, hn, c, h0, h => by
    have hr : 4 - (n + 1) < 4 := by omega
    have er : 4 - (n + 1) + 1 = 4 - n := by omega
    by_cases q : hs (4 - (n + 1))
    · obtain ⟨i, hi, ho⟩ := ok_all n (by omega) (c + 4 * pw (4 - (n + 1) + 1)) (by rw [← er]; exact pw_at hr h0) (by rw [← er]; exact ok_at hr h0 (by decide) h q (Or.inl rfl))
      refine ⟨4 * pw (4 - (n + 1) + 1) + i, pw_at_lt hr (by decide) (by rw [er]; exact hi), ?_⟩
      rw [← Nat.add_assoc]; exact ho
    · obtain ⟨i, hi, ho⟩ := ok_all n (by omega) c (by rw [← er]; exact pw_void hr h0) (by rw [← er]; exact ok_void hr h0 h q)
      refine ⟨i, ?_, ho⟩
      have := pw_at_lt (p := 0) hr (by decide) (i := i) (by rw [er]; exact hi)
      omega
theorem run_end : run hs g hd w lt 625 0 none ≠ none := by
  obtain ⟨i, hi, ho⟩ := ok_all (hs := hs) (g := g) (hd := hd) 4 (by decide) 0 (by decide) (fun r hr => by omega)
  exact run_ex i hi ho
theorem run_in : ∀ (n c : Nat) (s : Option Nat), (∀ b, s = some b → OKp hs g hd b 4) → ∀ b, run hs g hd w lt n c s = some b → OKp hs g hd b 4
  | 0, _, _, h => h
  | n + 1, c, s, h => by
    refine run_in n (c + 1) _ (fun b hb => ?_)
    unfold stp at hb
    by_cases q : (OKp hs g hd c 4 ∧ ∀ b, s = some b → cst hs w lt c 4 < cst hs w lt b 4)
    · rw [cif_t q] at hb; cases hb; exact q.1
    · rw [cif_f q] at hb; exact h b hb
end LAYS
section LAYN
variable (N : Nat → Nat) (V : Nat → Nat → Int32) (K : Nat → Int32) (s : Int32)
def lhs : Nat → Prop := fun k => HV N V (nI k) s
noncomputable def lg : Nat → Int := fun k => (hgtE N V K (nI k) s).toInt
def lw : Nat → Nat := fun k => rn (K (4 + k))
noncomputable def lcst (c r : Nat) : Nat := cst (lhs N V s) (lw K) (rn (K 11)) c r
def lok (c r : Nat) : Prop := OKp (lhs N V s) (lg N V K s) (K 10).toInt c r
noncomputable def lrun (n c : Nat) (b : Option Nat) : Option Nat := run (lhs N V s) (lg N V K s) (K 10).toInt (lw K) (rn (K 11)) n c b
noncomputable def lbest : Nat := (lrun N V K s 625 0 none).getD 0
noncomputable def sl (c r : Nat) : Int32 := cif (lhs N V s r) (nI (dig c r)) (-1)
def CanL : Prop := ¬ K 9 = 0 ∧ 0 ≤ s.toInt ∧ s.toInt < 40
noncomputable def sp_lay : RS := (cif (CanL K s) (nI (lcst N V K s (lbest N V K s) 4)) (-1), N, V, K)
noncomputable def sp_slot (r : Int32) : RS := (cif (CanL K s ∧ HV N V r s) (nI (dig (lbest N V K s) (rn r))) (-1), N, V, K)
def Heard (r : Int32) : Prop := HV N V r s ∧ ¬ dig (lbest N V K s) (rn r) = 4
def Above (a b : Int32) : Prop := K 9 * hgtE N V K b s + K 9 - 1 + K (rn b) < K 9 * hgtE N V K a s - K (rn a)
noncomputable def sp_hears (a b : Int32) : RS := (cif (¬ a = b ∧ IsRow a ∧ IsRow b ∧ CanL K s) (cif (Heard N V K s a ∧ Heard N V K s b) (cif (Above N V K s a b) 1 (cif (Above N V K s b a) (-1) 0)) 0) (-2), N, V, K)
end LAYN
theorem lbest_some (N : Nat → Nat) (V : Nat → Nat → Int32) (K : Nat → Int32) (s : Int32) : lrun N V K s 625 0 none = some (lbest N V K s) := by
  unfold lbest
  cases h : lrun N V K s 625 0 none with
  | none => exact absurd h run_end
  | some b => rfl
theorem rn_t {x : Int32} (h : 0 ≤ x.toInt) : x = nI (rn x) := by
  obtain ⟨j, hj, rfl⟩ := nI_of (x := x) (by rw [lt_T, z_0]; omega)
  rw [rn_n hj]
theorem rn_i {x : Int32} (h : 0 ≤ x.toInt) : ((rn x : Nat) : Int) = x.toInt := by
  obtain ⟨j, hj, rfl⟩ := nI_of (x := x) (by rw [lt_T, z_0]; omega)
  rw [rn_n hj, nI_toInt hj]
