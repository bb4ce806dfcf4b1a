def PS (s : RS) : Prop := PInv s.2.1 s.2.2.1 s.2.2.2
section KEEP
variable {N : Nat → Nat} {V : Nat → Nat → Int32} {K : Nat → Int32}
theorem ps_cif {P : Prop} {a b : RS} (h1 : P → PS a) (h2 : ¬ P → PS b) : PS (cif P a b) := by
  by_cases h : P
  · rw [cif_t h]; exact h1 h
  · rw [cif_f h]; exact h2 h
theorem ps_adds (h : PInv N V K) {r v : Int32} (hv : v = -5000 ∨ In v (-1000) 1000) : PS (sp_adds N V K r v) := by
  refine ps_cif (fun q => ?_) (fun _ => h)
  obtain ⟨h1, h2, h3, h4, h5, h6⟩ := h
  refine ⟨fun k hk => ?_, h2, h3, h4, h5, ?_⟩
  · obtain ⟨a1, a2, a3⟩ := h1 k hk
    refine ⟨?_, fun i hi => ?_, a3⟩
    · show va_up N (rn r) (N (rn r) + 1) k ≤ 40
      by_cases e : k = rn r
      · subst e; rw [va_up, if_pos rfl]; have := q.2; omega
      · rw [va_up, if_neg e]; exact a1
    · have hi : i < va_up N (rn r) (N (rn r) + 1) k := hi
      show va_up V (rn r) (upd (V (rn r)) (N (rn r)) v) k i = -5000 ∨ In (va_up V (rn r) (upd (V (rn r)) (N (rn r)) v) k i) (-1000) 1000
      by_cases e : k = rn r
      · subst e
        rw [va_up, if_pos rfl] at hi ⊢
        by_cases e2 : i = N (rn r)
        · rw [e2, pk_us]; exact hv
        · rw [pk_un e2]; exact a2 i (by omega)
      · rw [va_up, if_neg e] at hi ⊢
        exact a2 i hi
  · rcases h6 with h6 | ⟨k, i, hk, hi, e1, e2⟩
    · exact Or.inl h6
    · refine Or.inr ⟨k, i, hk, ?_, e1, e2⟩
      show i < va_up N (rn r) (N (rn r) + 1) k
      by_cases e : k = rn r
      · subst e; rw [va_up, if_pos rfl]; omega
      · rw [va_up, if_neg e]; exact hi
theorem ps_value (h : PInv N V K) {r v : Int32} : PS (sp_value N V K r v) := ps_cif (fun q => ps_adds h (Or.inr q)) (fun _ => h)
theorem ps_gap (h : PInv N V K) {r : Int32} : PS (sp_gap N V K r) := ps_adds h (Or.inl rfl)
theorem ps_put (h : PInv N V K) {r s v : Int32} : PS (sp_put N V K r s v) := by
  refine ps_cif (fun q => ?_) (fun _ => h)
  obtain ⟨h1, h2⟩ := h
  refine ⟨fun k hk => ?_, h2⟩
  obtain ⟨a1, a2, a3⟩ := h1 k hk
  refine ⟨a1, fun i hi => ?_, a3⟩
  show va_up V (rn r) (upd (V (rn r)) (rn s) v) k i = -5000 ∨ In (va_up V (rn r) (upd (V (rn r)) (rn s) v) k i) (-1000) 1000
  by_cases e : k = rn r
  · subst e
    rw [va_up, if_pos rfl]
    by_cases e2 : i = rn s
    · rw [e2, pk_us]; exact Or.inr q.2
    · rw [pk_un e2]; exact a2 i hi
  · rw [va_up, if_neg e]; exact a2 i hi
theorem pinv_low (h : PInv N V K) {q : Nat} (hq : 8 ≤ q) (x : Int32) : ∀ k, k < 4 → N k ≤ 40 ∧ (∀ i, i < N k → V k i = -5000 ∨ In (V k i) (-1000) 1000) ∧ In (upd K q x k) 0 200 ∧ In (upd K q x (4 + k)) 0 1000 := fun k hk => by
  rw [pk_un (show k ≠ q by omega), pk_un (show 4 + k ≠ q by omega)]
  exact h.1 k hk
theorem pinv_8 (h : PInv N V K) {x : Int32} (hx : In x 0 10000) : PInv N V (upd K 8 x) := ⟨pinv_low h (by decide) x, hx, h.2.2.1, h.2.2.2.1, h.2.2.2.2.1, h.2.2.2.2.2⟩
theorem pinv_9 (h : PInv N V K) {x : Int32} (hx : In x 0 2000) : PInv N V (upd K 9 x) := ⟨pinv_low h (by decide) x, h.2.1, hx, h.2.2.2.1, h.2.2.2.2.1, h.2.2.2.2.2⟩
theorem pinv_10 (h : PInv N V K) {x : Int32} (hx : In x 0 60) : PInv N V (upd K 10 x) := ⟨pinv_low h (by decide) x, h.2.1, h.2.2.1, hx, h.2.2.2.2.1, h.2.2.2.2.2⟩
theorem pinv_11 (h : PInv N V K) {x : Int32} (hx : In x 0 100) : PInv N V (upd K 11 x) := ⟨pinv_low h (by decide) x, h.2.1, h.2.2.1, h.2.2.2.1, hx, h.2.2.2.2.2⟩
theorem pinv_12 (h : PInv N V K) : PInv N V (upd K 12 (-1)) := ⟨pinv_low h (by decide) (-1), h.2.1, h.2.2.1, h.2.2.2.1, h.2.2.2.2.1, Or.inl rfl⟩
theorem pinv_w (h : PInv N V K) {r s : Int32} (hs : IsStp N r s) : PInv N V (upd (upd K 12 r) 13 s) := by
  obtain ⟨k, i, hk, hi, rfl, rfl⟩ := hs
  refine ⟨fun k2 hk2 => ?_, h.2.1, h.2.2.1, h.2.2.2.1, h.2.2.2.2.1, Or.inr ⟨k, i, hk, hi, rfl, rfl⟩⟩
  rw [pk_un (show k2 ≠ 13 by omega), pk_un (show 4 + k2 ≠ 13 by omega)]
  exact pinv_low h (by decide) _ k2 hk2
theorem pinv_s (h : PInv N V K) {s : Int32} (hs : IsStp N (K 12) s) : PInv N V (upd K 13 s) := by
  obtain ⟨k, i, hk, hi, e1, rfl⟩ := hs
  exact ⟨pinv_low h (by decide) _, h.2.1, h.2.2.1, h.2.2.2.1, h.2.2.2.2.1, Or.inr ⟨k, i, hk, hi, e1, rfl⟩⟩
theorem ps_clear (h : PInv N V K) {r : Int32} : PS (sp_clear N V K r) := by
  refine ps_cif (fun q => ?_) (fun _ => h)
  obtain ⟨k0, hk0, rfl⟩ := isRow_k q
  have key : ∀ K', PInv N V K' → (K' 12 = -1 ∨ ∃ k i, k < 4 ∧ i < va_up N (rn (nI k0)) 0 k ∧ K' 12 = nI k ∧ K' 13 = nI i) → PInv (va_up N (rn (nI k0)) 0) V K' := fun K' h6 hw => by
    obtain ⟨h1, h2, h3, h4, h5, -⟩ := h6
    refine ⟨fun k hk => ?_, h2, h3, h4, h5, hw⟩
    obtain ⟨a1, a2, a3⟩ := h1 k hk
    by_cases e : k = rn (nI k0)
    · subst e
      rw [va_up, if_pos rfl]
      exact ⟨Nat.zero_le _, fun i hi => by omega, a3⟩
    · rw [va_up, if_neg e]
      exact ⟨a1, a2, a3⟩
  show PInv (va_up N (rn (nI k0)) 0) V (if K 12 = nI k0 then upd K 12 (-1) else K)
  by_cases e : K 12 = nI k0
  · rw [if_pos e]
    exact key _ (pinv_12 h) (Or.inl rfl)
  · rw [if_neg e]
    refine key _ h ?_
    rcases h.2.2.2.2.2 with h6 | ⟨k, i, hk, hi, e1, e2⟩
    · exact Or.inl h6
    · refine Or.inr ⟨k, i, hk, ?_, e1, e2⟩
      rw [rn_n (by omega), va_up, if_neg (fun z => e (by rw [e1, z]))]
      exact hi
theorem ps_miss (h : PInv N V K) {r v : Int32} : PS (sp_miss N V K r v) := by
  refine ps_cif (fun q => ?_) (fun _ => h)
  obtain ⟨k0, hk0, rfl⟩ := isRow_k q.1
  rw [rn_n (by omega)]
  obtain ⟨h1, h2, h3, h4, h5, h6⟩ := h
  refine ⟨fun k hk => ?_, ?_⟩
  · obtain ⟨a1, a2, a3, a4⟩ := h1 k hk
    refine ⟨a1, a2, ?_, ?_⟩
    · show In (upd K k0 v k) 0 200
      by_cases e : k = k0
      · rw [e, pk_us]; exact q.2
      · rw [pk_un e]; exact a3
    · show In (upd K k0 v (4 + k)) 0 1000
      rw [pk_un (by omega)]; exact a4
  · show In (upd K k0 v 8) 0 10000 ∧ In (upd K k0 v 9) 0 2000 ∧ In (upd K k0 v 10) 0 60 ∧ In (upd K k0 v 11) 0 100 ∧ (upd K k0 v 12 = -1 ∨ ∃ k i, k < 4 ∧ i < N k ∧ upd K k0 v 12 = nI k ∧ upd K k0 v 13 = nI i)
    rw [pk_un (by omega), pk_un (by omega), pk_un (by omega), pk_un (by omega), pk_un (by omega), pk_un (by omega)]
    exact ⟨h2, h3, h4, h5, h6⟩
theorem ps_worth (h : PInv N V K) {r v : Int32} : PS (sp_worth N V K r v) := by
  refine ps_cif (fun q => ?_) (fun _ => h)
  obtain ⟨k0, hk0, rfl⟩ := isRow_k q.1
  rw [rn_n (by omega)]
  obtain ⟨h1, h2, h3, h4, h5, h6⟩ := h
  refine ⟨fun k hk => ?_, ?_⟩
  · obtain ⟨a1, a2, a3, a4⟩ := h1 k hk
    refine ⟨a1, a2, ?_, ?_⟩
    · show In (upd K (4 + k0) v k) 0 200
      rw [pk_un (by omega)]; exact a3
    · show In (upd K (4 + k0) v (4 + k)) 0 1000
      by_cases e : k = k0
      · rw [e, pk_us]; exact q.2
      · rw [pk_un (by omega)]; exact a4
  · show In (upd K (4 + k0) v 8) 0 10000 ∧ In (upd K (4 + k0) v 9) 0 2000 ∧ In (upd K (4 + k0) v 10) 0 60 ∧ In (upd K (4 + k0) v 11) 0 100 ∧ (upd K (4 + k0) v 12 = -1 ∨ ∃ k i, k < 4 ∧ i < N k ∧ upd K (4 + k0) v 12 = nI k ∧ upd K (4 + k0) v 13 = nI i)
    rw [pk_un (by omega), pk_un (by omega), pk_un (by omega), pk_un (by omega), pk_un (by omega), pk_un (by omega)]
    exact ⟨h2, h3, h4, h5, h6⟩
theorem ps_part (h : PInv N V K) {v : Int32} : PS (sp_part N V K v) := ps_cif (fun q => pinv_8 h q) (fun _ => h)
theorem ps_at (h : PInv N V K) {r s : Int32} : PS (sp_at N V K r s) := ps_cif (fun _ => h) (fun _ => h)
theorem ps_ear (h : PInv N V K) {a b : Int32} : PS (sp_ear N V K a b) := ps_cif (fun q => pinv_11 (pinv_10 h q.1) q.2) (fun _ => h)
theorem ps_walk (h : PInv N V K) {r s : Int32} : PS (sp_walk N V K r s) := ps_cif (fun q => pinv_w h q) (fun _ => h)
theorem ps_where (h : PInv N V K) {w : Int32} : PS (sp_where N V K w) := h
theorem ps_go (h : PInv N V K) {on : Int32} : PS (sp_go N V K on) := ps_cif (fun q => pinv_s h q.2) (fun _ => h)
theorem ps_scale (h : PInv N V K) {d ap : Int32} : PS (sp_scale N V K d ap) := ps_cif (fun q => ps_cif (fun _ => pinv_9 h (by have := sc_g q.1 q.2; unfold In; rw [z_0, z_2000]; exact this)) (fun _ => h)) (fun _ => h)
theorem fwd_in {P : Nat → Prop} : ∀ f i, fwd P f i = -1 ∨ ∃ j, P j ∧ fwd P f i = nI j
  | 0, _ => Or.inl rfl
  | f + 1, i => by
    by_cases q : P i
    · exact Or.inr ⟨i, q, fwd_t q⟩
    · rw [fwd_f q]; exact fwd_in f (i + 1)
theorem bwd_in {P : Nat → Prop} : ∀ i, bwd P i = -1 ∨ ∃ j, P j ∧ bwd P i = nI j
  | 0 => Or.inl rfl
  | i + 1 => by
    by_cases q : P i
    · exact Or.inr ⟨i, q, bwd_t q⟩
    · rw [bwd_f q]; exact bwd_in i
theorem ps_seek (h : PInv N V K) {on w : Int32} : PS (sp_seek N V K on w) := by
  refine ps_cif (fun _ => h) (fun q => ?_)
  show PInv N V (if skE N V K on w = -1 then K else upd K 13 (skE N V K on w))
  by_cases e : skE N V K on w = -1
  · rw [if_pos e]; exact h
  · rw [if_neg e]
    refine pinv_s h ?_
    rcases h.2.2.2.2.2 with h6 | ⟨k, i, hk, hi, e1, e2⟩
    · exact absurd h6 q
    · have hj : skE N V K on w = -1 ∨ ∃ j, Mk N V K (rn (K 12)) w j ∧ skE N V K on w = nI j := by
        unfold skE
        split
        · exact bwd_in _
        · exact fwd_in _ _
      rcases hj with hj | ⟨j, hm, hj⟩
      · exact absurd hj e
      · rw [e1, rn_n (by omega)] at hm
        exact ⟨k, j, hk, mk_lt (fun k hk => (h.1 k hk).1) hk hm, e1, hj⟩
theorem ps_spans (h : PInv N V K) {r : Int32} : PS (sp_spans N V K r) := h
theorem ps_cost (h : PInv N V K) {r : Int32} : PS (sp_cost N V K r) := h
theorem ps_span (h : PInv N V K) {r j w : Int32} : PS (sp_span N V K r j w) := h
theorem ps_kind (h : PInv N V K) {r s : Int32} : PS (sp_kind N V K r s) := h
theorem ps_turnsOf (h : PInv N V K) {r : Int32} : PS (sp_turnsOf N V K r) := h
theorem ps_turn (h : PInv N V K) {r j : Int32} : PS (sp_turn N V K r j) := h
theorem ps_sure (h : PInv N V K) {a b s : Int32} : PS (sp_sure N V K a b s) := h
theorem ps_crossings (h : PInv N V K) {a b : Int32} : PS (sp_crossings N V K a b) := h
theorem ps_crossing (h : PInv N V K) {a b k : Int32} : PS (sp_crossing N V K a b k) := h
theorem ps_height (h : PInv N V K) {r s : Int32} : PS (sp_height N V K r s) := h
theorem ps_lay (h : PInv N V K) {s : Int32} : PS (sp_lay N V K s) := h
theorem ps_slot (h : PInv N V K) {r s : Int32} : PS (sp_slot N V K s r) := h
theorem ps_hears (h : PInv N V K) {a b s : Int32} : PS (sp_hears N V K s a b) := h
theorem ps_whole (h : PInv N V K) {r n j : Int32} : PS (sp_whole N V K r n j) := h
end KEEP
