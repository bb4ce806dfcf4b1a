def rn (r : Int32) : Nat := r.toNatClampNeg
theorem rn_n {k : Nat} (h : k < 2 ^ 31) : rn (nI k) = k := nI_clamp h
noncomputable def sp_adds (N : Nat → Nat) (V : Nat → Nat → Int32) (K : Nat → Int32) (r v : Int32) : RS := cif (IsRow r ∧ N (rn r) < 40) (nI (N (rn r) + 1), va_up N (rn r) (N (rn r) + 1), va_up V (rn r) (upd (V (rn r)) (N (rn r)) v), K) (-1, N, V, K)
noncomputable def sp_value (N : Nat → Nat) (V : Nat → Nat → Int32) (K : Nat → Int32) (r v : Int32) : RS := cif (In v (-1000) 1000) (sp_adds N V K r v) (-1, N, V, K)
noncomputable def sp_gap (N : Nat → Nat) (V : Nat → Nat → Int32) (K : Nat → Int32) (r : Int32) : RS := sp_adds N V K r (-5000)
noncomputable def sp_put (N : Nat → Nat) (V : Nat → Nat → Int32) (K : Nat → Int32) (r s v : Int32) : RS := cif (IsStp N r s ∧ In v (-1000) 1000) (1, N, va_up V (rn r) (upd (V (rn r)) (rn s) v), K) (0, N, V, K)
noncomputable def sp_clear (N : Nat → Nat) (V : Nat → Nat → Int32) (K : Nat → Int32) (r : Int32) : RS := cif (IsRow r) (nI (N (rn r)), va_up N (rn r) 0, V, if K 12 = r then upd K 12 (-1) else K) (-1, N, V, K)
noncomputable def sp_miss (N : Nat → Nat) (V : Nat → Nat → Int32) (K : Nat → Int32) (r v : Int32) : RS := cif (IsRow r ∧ In v 0 200) (K (rn r), N, V, upd K (rn r) v) (-1, N, V, K)
noncomputable def sp_part (N : Nat → Nat) (V : Nat → Nat → Int32) (K : Nat → Int32) (v : Int32) : RS := cif (In v 0 10000) (K 8, N, V, upd K 8 v) (-1, N, V, K)
noncomputable def sp_at (N : Nat → Nat) (V : Nat → Nat → Int32) (K : Nat → Int32) (r s : Int32) : RS := cif (IsStp N r s) (V (rn r) (rn s), N, V, K) (-6000, N, V, K)
noncomputable def sp_ear (N : Nat → Nat) (V : Nat → Nat → Int32) (K : Nat → Int32) (h l : Int32) : RS := cif (In h 0 60 ∧ In l 0 100) (1, N, V, upd (upd K 10 h) 11 l) (0, N, V, K)
noncomputable def sp_worth (N : Nat → Nat) (V : Nat → Nat → Int32) (K : Nat → Int32) (r v : Int32) : RS := cif (IsRow r ∧ In v 0 1000) (K (4 + rn r), N, V, upd K (4 + rn r) v) (-1, N, V, K)
noncomputable def sp_walk (N : Nat → Nat) (V : Nat → Nat → Int32) (K : Nat → Int32) (r s : Int32) : RS := cif (IsStp N r s) (1, N, V, upd (upd K 12 r) 13 s) (0, N, V, K)
def sp_where (N : Nat → Nat) (V : Nat → Nat → Int32) (K : Nat → Int32) (w : Int32) : RS := (if K 12 = -1 then -1 else if w = 0 then K 12 else if w = 1 then K 13 else -1, N, V, K)
noncomputable def sp_go (N : Nat → Nat) (V : Nat → Nat → Int32) (K : Nat → Int32) (on : Int32) : RS := cif (¬ K 12 = -1 ∧ IsStp N (K 12) (if on = 0 then K 13 - 1 else K 13 + 1)) (if on = 0 then K 13 - 1 else K 13 + 1, N, V, upd K 13 (if on = 0 then K 13 - 1 else K 13 + 1)) (-1, N, V, K)
def sureV (x y m1 m2 : Int32) : Int32 := if x - y ≤ m1 + m2 then (if -(x - y) ≤ m1 + m2 then 0 else -1) else 1
noncomputable def sureE (N : Nat → Nat) (V : Nat → Nat → Int32) (K : Nat → Int32) (a b s : Int32) : Int32 := cif (IsRow a ∧ IsRow b ∧ ¬ a = b ∧ HV N V a s ∧ HV N V b s) (sureV (V (rn a) (rn s)) (V (rn b) (rn s)) (K (rn a)) (K (rn b))) (-2)
section TI
variable {N : Nat → Nat} {V : Nat → Nat → Int32} {K J : Nat → Int32} {B : Nat → Nat → Int32}
theorem up_s {α : Type} {f : Nat → α} {k : Nat} {v : α} : va_up f k v k = v := if_pos rfl
theorem up_n {α : Type} {f : Nat → α} {k j : Nat} {v : α} (h : j ≠ k) : va_up f k v j = f j := if_neg h
theorem tinv_n (h : TInv N V K J B) {k n : Nat} (hk : k < 4) (hn : n ≤ 40) : TInv (va_up N k n) V K J (va_up B 1 (upd (B 1) k (nI n))) := by
  refine ⟨fun j hj => ?_, h.2⟩
  obtain ⟨a, b, c, d, e⟩ := h.1 j hj
  by_cases q : j = k
  · subst q
    rw [up_s]
    exact ⟨hn, by rw [up_s, pk_us], c, d, e⟩
  · rw [up_n q]
    exact ⟨a, by rw [up_s, pk_un q]; exact b, c, d, e⟩
theorem tinv_v (h : TInv N V K J B) {k i : Nat} (hk : k < 4) (hi : i < 40) (v : Int32) : TInv N (va_up V k (upd (V k) i v)) K J (va_up B 2 (upd (B 2) (40 * k + i) v)) := by
  refine ⟨fun j hj => ?_, h.2⟩
  obtain ⟨a, b, c, d, e⟩ := h.1 j hj
  refine ⟨a, b, c, d, fun i' hi' => ?_⟩
  rw [up_s]
  by_cases q : j = k
  · subst q
    rw [up_s]
    by_cases q2 : i' = i
    · subst q2; rw [pk_us, pk_us]
    · rw [pk_un q2, pk_un (by omega)]; exact e i' hi'
  · rw [up_n q, pk_un (by omega)]; exact e i' hi'
theorem tinv_miss (h : TInv N V K J B) {k : Nat} (hk : k < 4) (v : Int32) : TInv N V (upd K k v) J (va_up B 3 (upd (B 3) k v)) := by
  obtain ⟨h1, h2, h3, h4, h5, h6, h7⟩ := h
  refine ⟨fun j hj => ?_, by rw [pk_un (by omega)]; exact h2, by rw [pk_un (by omega)]; exact h3, by rw [pk_un (by omega)]; exact h4, by rw [pk_un (by omega)]; exact h5, by rw [pk_un (by omega)]; exact h6, by rw [pk_un (by omega)]; exact h7⟩
  obtain ⟨a, b, c, d, e⟩ := h1 j hj
  refine ⟨a, b, ?_, by rw [pk_un (by omega)]; exact d, e⟩
  rw [up_s]
  by_cases q : j = k
  · subst q; rw [pk_us, pk_us]
  · rw [pk_un q, pk_un q]; exact c
theorem tinv_worth (h : TInv N V K J B) {k : Nat} (hk : k < 4) (v : Int32) : TInv N V (upd K (4 + k) v) J (va_up B 4 (upd (B 4) k v)) := by
  obtain ⟨h1, h2, h3, h4, h5, h6, h7⟩ := h
  refine ⟨fun j hj => ?_, by rw [pk_un (by omega)]; exact h2, by rw [pk_un (by omega)]; exact h3, by rw [pk_un (by omega)]; exact h4, by rw [pk_un (by omega)]; exact h5, by rw [pk_un (by omega)]; exact h6, by rw [pk_un (by omega)]; exact h7⟩
  obtain ⟨a, b, c, d, e⟩ := h1 j hj
  refine ⟨a, b, by rw [pk_un (by omega)]; exact c, ?_, e⟩
  rw [up_s]
  by_cases q : j = k
  · subst q; rw [pk_us, pk_us]
  · rw [pk_un q, pk_un (by omega)]; exact d
theorem tinv_rows (h : TInv N V K J B) {q : Nat} (hq : 8 ≤ q) (v : Int32) : ∀ k, k < 4 → N k ≤ 40 ∧ B 1 k = nI (N k) ∧ B 3 k = upd K q v k ∧ B 4 k = upd K q v (4 + k) ∧ ∀ i, i < 40 → B 2 (40 * k + i) = V k i := fun k hk => by
  obtain ⟨a, b, c, d, e⟩ := h.1 k hk
  exact ⟨a, b, by rw [pk_un (by omega)]; exact c, by rw [pk_un (by omega)]; exact d, e⟩
theorem tinv_8 (h : TInv N V K J B) (v : Int32) : TInv N V (upd K 8 v) (upd J 4 v) B := ⟨tinv_rows h (by decide) v, rfl, h.2.2⟩
theorem tinv_9 (h : TInv N V K J B) (v : Int32) : TInv N V (upd K 9 v) (upd J 18 v) B := ⟨tinv_rows h (by decide) v, h.2.1, rfl, h.2.2.2⟩
theorem tinv_10 (h : TInv N V K J B) (v : Int32) : TInv N V (upd K 10 v) (upd J 19 v) B := ⟨tinv_rows h (by decide) v, h.2.1, h.2.2.1, rfl, h.2.2.2.2⟩
theorem tinv_11 (h : TInv N V K J B) (v : Int32) : TInv N V (upd K 11 v) (upd J 20 v) B := ⟨tinv_rows h (by decide) v, h.2.1, h.2.2.1, h.2.2.2.1, rfl, h.2.2.2.2.2⟩
theorem tinv_12 (h : TInv N V K J B) (v : Int32) : TInv N V (upd K 12 v) (upd J 5 v) B := ⟨tinv_rows h (by decide) v, h.2.1, h.2.2.1, h.2.2.2.1, h.2.2.2.2.1, rfl, h.2.2.2.2.2.2⟩
theorem tinv_13 (h : TInv N V K J B) (v : Int32) : TInv N V (upd K 13 v) (upd J 6 v) B := ⟨tinv_rows h (by decide) v, h.2.1, h.2.2.1, h.2.2.2.1, h.2.2.2.2.1, h.2.2.2.2.2.1, rfl⟩
end TI
