section LAYH
variable (N : Nat → Nat) (V : Nat → Nat → Int32) (K : Nat → Int32) (s : Int32)
def LI (I : Nat → Int32) (A : Nat → Nat → Int32) : Prop := CInv N V K I A ∧ (∀ r, r < 4 → A 23 r = hgtE N V K (nI r) s) ∧ (∀ r, r < 4 → A 24 r = K (4 + r)) ∧ I 2204 = K 10 ∧ I 2205 = K 11
noncomputable def lsv (m : Int32) : Option Nat → Int32
  | none => m
  | some c => nI (lcst N V K s c 4)
def Lst (b : Option Nat) (I : Nat → Int32) (A : Nat → Nat → Int32) : Prop := I 2206 = lsv N V K s 4001 b ∧ ∀ c, b = some c → ∀ r, r < 4 → A 25 r = sl N V s c r
def Trl (c row : Nat) (A : Nat → Nat → Int32) : Prop := ∀ r, r < row → A 26 r = sl N V s c r
def TrQ (b : Option Nat) (c row : Nat) : QT := fun v h' => v = none ∧ ∃ I' A', h' = hC I' A' ∧ LI N V K s I' A' ∧ Lst N V K s b I' A' ∧ Trl N V s c row A'
def TryH (row n : Nat) : Prop := ∀ (c : Nat) (b : Option Nat) (I : Nat → Int32) (A : Nat → Nat → Int32), LI N V K s I A → Lst N V K s b I A → Trl N V s c row A → c % pw row = 0 → lok N V K s c row → AM kL_tryFrom (3 * n + 3) [.ref 22, .int (nI row), .int (nI (lcst N V K s c row))] (hC I A) (TrQ N V K s (lrun N V K s (pw row) c b) c row)
def RdQ : QT := fun v h' => ∃ I' A', h' = hC I' A' ∧ CInv N V K I' A' ∧ ((CanL K s ∧ v = some (.int 1) ∧ (∀ r, r < 4 → A' 23 r = hgtE N V K (nI r) s) ∧ I' 2206 = nI (lcst N V K s (lbest N V K s) 4) ∧ ∀ r, r < 4 → A' 25 r = sl N V s (lbest N V K s) r) ∨ (¬ CanL K s ∧ v = some (.int 0)))
end LAYH
section LAYL
variable {N : Nat → Nat} {V : Nat → Nat → Int32} {K : Nat → Int32} {s : Int32} {I : Nat → Int32} {A : Nat → Nat → Int32}
theorem LI.tr (h : LI N V K s I A) (f : Nat → Int32) : LI N V K s I (va_up A 26 f) := ⟨cinv_a h.1 (by decide) f, h.2⟩
theorem LI.sl (h : LI N V K s I A) (f : Nat → Int32) : LI N V K s I (va_up A 25 f) := ⟨cinv_a h.1 (by decide) f, h.2⟩
theorem LI.ls (h : LI N V K s I A) (v : Int32) : LI N V K s (upd I 2206 v) A := ⟨cinv_s h.1 (by decide) v, h.2⟩
theorem Lst.tr {b : Option Nat} (h : Lst N V K s b I A) (f : Nat → Int32) : Lst N V K s b I (va_up A 26 f) := h
theorem abs_iff {x y h : Int32} (hx : 0 ≤ x.toInt ∧ x.toInt ≤ 2000) (hy : 0 ≤ y.toInt ∧ y.toInt ≤ 2000) : h ≤ (if 0 ≤ x - y then x - y else 0 - (x - y)) ↔ ¬ (x.toInt - y.toInt < h.toInt ∧ y.toInt - x.toInt < h.toInt) := by
  have e := i_sub (a := x) (b := y) (by omega) (by omega)
  have e2 := i_sub (a := 0) (b := x - y) (by rw [z_0]; omega) (by rw [z_0]; omega)
  rw [z_0] at e2
  split
  · rename_i q; rw [le_T, z_0] at q; rw [le_T]; omega
  · rename_i q; rw [le_T, z_0] at q; rw [le_T]; omega
theorem siz_iff {x y h : Int32} (hx : 0 ≤ x.toInt ∧ x.toInt ≤ 2000) (hy : 0 ≤ y.toInt ∧ y.toInt ≤ 2000) : h ≤ sz (x - y) ↔ ¬ (y.toInt - x.toInt < h.toInt ∧ x.toInt - y.toInt < h.toInt) := by
  have e := i_sub (a := x) (b := y) (by omega) (by omega)
  have e2 := i_neg (a := x - y) (by omega)
  unfold sz
  split
  · rename_i q; rw [le_T, z_0] at q; rw [le_T]; omega
  · rename_i q; rw [le_T, z_0] at q; rw [le_T]; omega
theorem sl_eq {c i p : Nat} (hp : p < 5) (h : sl N V s c i = nI p) : lhs N V s i ∧ dig c i = p := by
  unfold sl at h
  by_cases q : lhs N V s i
  · rw [cif_t q] at h
    have := dig_lt c i
    exact ⟨q, nI_inj (by omega) (by omega) h⟩
  · rw [cif_f q] at h
    have := congrArg Int32.toInt h
    rw [nI_toInt (by omega), z_m1] at this
    omega
theorem sl_t {c i : Nat} (h : lhs N V s i) : sl N V s c i = nI (dig c i) := cif_t h
theorem sl_f {c i : Nat} (h : ¬ lhs N V s i) : sl N V s c i = -1 := cif_f h
theorem sl_pre {c c' i : Nat} (h : dig c i = dig c' i) : sl N V s c i = sl N V s c' i := by
  unfold sl
  rw [h]
theorem lcst_b (hP : PInv N V K) {c row : Nat} (h : row ≤ 4) : lcst N V K s c row ≤ 4000 := by
  have h1 : ∀ k, k < 4 → lw K k ≤ 1000 := fun k hk => by
    have := (hP.1 k hk).2.2.2
    unfold In at this
    rw [z_0, z_1000] at this
    have := rn_i (x := K (4 + k)) (by omega)
    unfold lw
    omega
  have h2 : rn (K 11) ≤ 100 := by
    have := hP.2.2.2.2.1
    unfold In at this
    rw [z_0, z_100] at this
    have := rn_i (x := K 11) (by omega)
    omega
  have := cst_b (hs := lhs N V s) (w := lw K) (lt := rn (K 11)) (c := c) h1 h2 row h
  unfold lcst
  omega
theorem lw_n (hP : PInv N V K) {k : Nat} (hk : k < 4) : K (4 + k) = nI (lw K k) := by
  have := (hP.1 k hk).2.2.2
  unfold In at this
  rw [z_0] at this
  exact rn_t this.1
theorem lt_n (hP : PInv N V K) : K 11 = nI (rn (K 11)) := by
  have := hP.2.2.2.2.1
  unfold In at this
  rw [z_0] at this
  exact rn_t this.1
theorem prune_ok (hP : PInv N V K) {c row : Nat} {b : Option Nat} {m : Int32} (hm : 4000 < m.toInt) (hr : row ≤ 4) (h0 : c % pw row = 0) (h : ¬ nI (lcst N V K s c row) < lsv N V K s m b) : lrun N V K s (pw row) c b = b := by
  have h1 := lcst_b (N := N) (V := V) (s := s) hP (c := c) hr
  cases b with
  | none => exact absurd (by rw [lt_T, nI_toInt (by omega)]; show _ < m.toInt; omega) h
  | some b =>
    have h2 := lcst_b (N := N) (V := V) (s := s) hP (c := b) (Nat.le_refl 4)
    refine run_prune hr h0 rfl ?_
    have h : ¬ nI (lcst N V K s c row) < nI (lcst N V K s b 4) := h
    rw [nI_ltI (by omega) (by omega)] at h
    unfold lcst at h
    omega
theorem leaf_ok (hP : PInv N V K) {c : Nat} {b : Option Nat} {m : Int32} (ho : lok N V K s c 4) (h : nI (lcst N V K s c 4) < lsv N V K s m b) : lrun N V K s 1 c b = some c := by
  refine cif_t ⟨ho, fun b' hb => ?_⟩
  subst hb
  have h1 := lcst_b (N := N) (V := V) (s := s) hP (c := c) (Nat.le_refl 4)
  have h2 := lcst_b (N := N) (V := V) (s := s) hP (c := b') (Nat.le_refl 4)
  have h : nI (lcst N V K s c 4) < nI (lcst N V K s b' 4) := h
  rw [nI_ltI (by omega) (by omega)] at h
  exact h
theorem lcst_at (hP : PInv N V K) {row c p : Nat} (hr : row < 4) (h0 : c % pw row = 0) (hp : p < 4) (hh : lhs N V s row) : nI (lcst N V K s c row) + nI (p * rn (K 11)) = nI (lcst N V K s (c + p * pw (row + 1)) (row + 1)) := by
  unfold lcst
  rw [nI_add, cst_at hr h0 (by omega) hh, if_neg (by omega)]
theorem lcst_at4 (hP : PInv N V K) {row c : Nat} (hr : row < 4) (h0 : c % pw row = 0) (hh : lhs N V s row) : nI (lcst N V K s c row) + nI (lw K row) = nI (lcst N V K s (c + 4 * pw (row + 1)) (row + 1)) := by
  unfold lcst
  rw [nI_add, cst_at hr h0 (by omega) hh, if_pos rfl]
theorem Trl.put {c p row : Nat} {f : Nat → Int32} (hr : row < 4) (h0 : c % pw row = 0) (hp : p < 5) (hh : lhs N V s row) (h : ∀ r, r < row → f r = sl N V s c r) : ∀ r, r < row + 1 → upd f row (nI p) r = sl N V s (c + p * pw (row + 1)) r := fun r hr2 => by
  by_cases e : r = row
  · subst e
    rw [pk_us, sl_t hh, show dig (c + p * pw (r + 1)) r = p from dig_at (i := 0) hr h0 hp pw_pos]
  · rw [pk_un e, h r (by omega)]
    exact sl_pre (dig_in (by omega) h0 (by have := pw_at_lt (p := p) hr hp (i := 0) pw_pos; omega) (by omega)).symm
theorem Trl.back {c p row : Nat} (hr : row < 4) (h0 : c % pw row = 0) (hp : p < 5) (h : Trl N V s (c + p * pw (row + 1)) (row + 1) A) : Trl N V s c row A := fun r hr2 => by
  rw [h r (by omega)]
  exact sl_pre (dig_in (by omega) h0 (by have := pw_at_lt (p := p) hr hp (i := 0) pw_pos; omega) (by omega))
theorem Trl.void {c row : Nat} {f : Nat → Int32} (hn : ¬ lhs N V s row) (h : ∀ r, r < row → f r = sl N V s c r) : ∀ r, r < row + 1 → upd f row (-1) r = sl N V s c r := fun r hr2 => by
  by_cases e : r = row
  · subst e
    rw [pk_us, sl_f hn]
  · rw [pk_un e, h r (by omega)]
theorem lrun_last {row c : Nat} {b : Option Nat} (hr : row < 4) : lrun N V K s (pw row) c b = lrun N V K s (pw (row + 1)) (c + 4 * pw (row + 1)) (lrun N V K s (4 * pw (row + 1)) c b) := by
  rw [pw_s hr]
  exact run_block hr 4
theorem can_iff (hP : PInv N V K) : CanL K s ↔ ¬ K 9 < 1 ∧ In s 0 39 := by
  unfold CanL In
  rw [k9_lt hP, z_0, z_39]
  exact ⟨fun ⟨a, b, c⟩ => ⟨a, b, by omega⟩, fun ⟨a, b, c⟩ => ⟨a, b, by omega⟩⟩
end LAYL
