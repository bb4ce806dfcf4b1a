def Mk (N : Nat → Nat) (V : Nat → Nat → Int32) (K : Nat → Int32) (k : Nat) (w : Int32) (s : Nat) : Prop := (w = 0 ∧ s ∈ turnL N V K k) ∨ (w = 1 ∧ ∃ b, b < 4 ∧ ¬ b = k ∧ s ∈ crossL N V K k b) ∨ (w = 2 ∧ s < N k ∧ V k s = -5000)
noncomputable def fwd (P : Nat → Prop) : Nat → Nat → Int32
  | 0, _ => -1
  | f + 1, i => cif (P i) (nI i) (fwd P f (i + 1))
noncomputable def bwd (P : Nat → Prop) : Nat → Int32
  | 0 => -1
  | i + 1 => cif (P i) (nI i) (bwd P i)
theorem fwd_none {P : Nat → Prop} : ∀ f i, (∀ j, i ≤ j → ¬ P j) → fwd P f i = -1
  | 0, _, _ => rfl
  | f + 1, i, h => by
    show cif (P i) (nI i) (fwd P f (i + 1)) = -1
    rw [cif_f (h i (Nat.le_refl _))]
    exact fwd_none f (i + 1) (fun j hj => h j (by omega))
theorem fwd_trunc {P : Nat → Prop} : ∀ f g i, f ≤ g → (∀ j, i + f ≤ j → ¬ P j) → fwd P g i = fwd P f i
  | 0, g, i, _, h => by rw [fwd_none g i (fun j hj => h j (by omega))]; rfl
  | f + 1, 0, i, hl, _ => by omega
  | f + 1, g + 1, i, hl, h => by
    show cif (P i) (nI i) (fwd P g (i + 1)) = cif (P i) (nI i) (fwd P f (i + 1))
    rw [fwd_trunc f g (i + 1) (by omega) (fun j hj => h j (by omega))]
theorem fwd_t {P : Nat → Prop} {f i : Nat} (h : P i) : fwd P (f + 1) i = nI i := cif_t h
theorem fwd_f {P : Nat → Prop} {f i : Nat} (h : ¬ P i) : fwd P (f + 1) i = fwd P f (i + 1) := cif_f h
theorem bwd_t {P : Nat → Prop} {i : Nat} (h : P i) : bwd P (i + 1) = nI i := cif_t h
theorem bwd_f {P : Nat → Prop} {i : Nat} (h : ¬ P i) : bwd P (i + 1) = bwd P i := cif_f h
theorem mk_lt {N : Nat → Nat} {V : Nat → Nat → Int32} {K : Nat → Int32} {k : Nat} {w : Int32} {s : Nat} (hN : ∀ k, k < 4 → N k ≤ 40) (hk : k < 4) (h : Mk N V K k w s) : s < N k := by
  rcases h with ⟨-, h⟩ | ⟨-, b, hb, -, h⟩ | ⟨-, h, -⟩
  · obtain ⟨i, hi, rfl⟩ := tL_mem _ _ h
    exact ((sp_ok (v := V k) (n := N k) (p := K 8) 40).1 i (by omega)).2.2.1
  · have h1 := crL_lt 40 s h
    have h2 : HV N V (nI k) (nI s) := by
      by_cases q : HV N V (nI k) (nI s) ∧ HV N V (nI b) (nI s)
      · exact q.1
      · exact absurd (show svF N V K k b s = -2 by unfold svF sureR; rw [cif_f q]) h1.2
    obtain ⟨i, hi, e, -⟩ := hv_i hN hk h2
    have := hN k hk
    rw [nI_inj (by omega) (by omega) e]
    exact hi
  · exact h
noncomputable def skE (N : Nat → Nat) (V : Nat → Nat → Int32) (K : Nat → Int32) (on w : Int32) : Int32 := if on = 0 then bwd (Mk N V K (rn (K 12)) w) (rn (K 13)) else fwd (Mk N V K (rn (K 12)) w) (39 - rn (K 13)) (rn (K 13) + 1)
noncomputable def sp_seek (N : Nat → Nat) (V : Nat → Nat → Int32) (K : Nat → Int32) (on w : Int32) : RS := cif (K 12 = -1) (-1, N, V, K) (skE N V K on w, N, V, if skE N V K on w = -1 then K else upd K 13 (skE N V K on w))
def MKs (f : Nat → Int32) (P : Nat → Prop) : Prop := ∀ j, j < 40 → (P j ∧ f j = 1) ∨ (¬ P j ∧ f j = 0)
theorem MKs.put {f : Nat → Int32} {P : Nat → Prop} (h : MKs f P) (x : Nat) : MKs (upd f x 1) (fun s => P s ∨ s = x) := fun j hj => by
  by_cases e : j = x
  · subst e; rw [pk_us]; exact Or.inl ⟨Or.inr rfl, rfl⟩
  · rw [pk_un e]
    rcases h j hj with ⟨a, b⟩ | ⟨a, b⟩
    · exact Or.inl ⟨Or.inl a, b⟩
    · exact Or.inr ⟨fun q => q.elim a e, b⟩
theorem MKs.congr {f : Nat → Int32} {P P' : Nat → Prop} (h : MKs f P) (hp : ∀ s, P s ↔ P' s) : MKs f P' := fun j hj => by
  rw [← hp]; exact h j hj
def MQ1 (N : Nat → Nat) (V : Nat → Nat → Int32) (K : Nat → Int32) (P : Nat → Prop) : QT := fun r h' => r = none ∧ ∃ I' A', h' = hC I' A' ∧ CInv N V K I' A' ∧ MKs (A' 27) P
def BX (N : Nat → Nat) (V : Nat → Nat → Int32) (K : Nat → Int32) (P : Prop) : QT := fun v h' => ∃ J' B', h' = hT J' B' ∧ TInv N V K J' B' ∧ ((P ∧ v = some (.int 1)) ∨ (¬ P ∧ v = some (.int 0)))
def Pre (l : List Nat) (i : Nat) (s : Nat) : Prop := ∃ j, j < i ∧ j < l.length ∧ l.getD j 0 = s
theorem pre_succ {l : List Nat} {i s : Nat} (h : i < l.length) : Pre l (i + 1) s ↔ Pre l i s ∨ s = l.getD i 0 := by
  constructor
  · rintro ⟨j, h1, h2, h3⟩
    by_cases e : j = i
    · subst e; exact Or.inr h3.symm
    · exact Or.inl ⟨j, by omega, h2, h3⟩
  · rintro (⟨j, h1, h2, h3⟩ | h1)
    · exact ⟨j, by omega, h2, h3⟩
    · exact ⟨i, by omega, h, h1.symm⟩
theorem pre_zero {l : List Nat} {s : Nat} : ¬ Pre l 0 s := fun ⟨j, h, _⟩ => by omega
theorem pre_all {l : List Nat} {s : Nat} : Pre l l.length s ↔ s ∈ l := by
  constructor
  · rintro ⟨j, h1, h2, rfl⟩
    rw [List.getD_eq_getElem?_getD, List.getElem?_eq_getElem h2]
    exact List.getElem_mem h2
  · intro h
    obtain ⟨j, hj, e⟩ := List.getElem_of_mem h
    exact ⟨j, hj, hj, by rw [List.getD_eq_getElem?_getD, List.getElem?_eq_getElem hj]; exact e⟩
theorem mem_getD {l : List Nat} {j : Nat} (h : j < l.length) : l.getD j 0 ∈ l := by
  rw [List.getD_eq_getElem?_getD, List.getElem?_eq_getElem h]
  exact List.getElem_mem h
