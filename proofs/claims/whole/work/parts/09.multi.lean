theorem kx_str1 : "[" ++ (FieldType.array .int).toString = "[[I" := by decide +kernel
theorem kx_str3 : "[" ++ FieldType.int.toString = "[I" := by decide +kernel
theorem aw_mna {M : MI} {d mc ms : Nat} {Q : QT} {k n : Nat} {pc : Nat} {L : List (Option Value)} {st : List Value} {h : List AC} {ix : Nat} (w1 : Cond.classLink M.1.cls ix "[[I" ∈ ktbl) (hd : decode M.2.1 pc = .ok (.multianewarray ix 2, 4)) (hf : k + 5 ≤ mc ∧ n + 164 ≤ ms)
    (kk : AW M true d mc ms Q (k + 5) (n + 164) (pc + 4) L (.ref h.length :: st) (h ++ [cGr h.length, c40, c40, c40, c40])) : AW M true d mc ms Q k n pc L (.int 40 :: .int 4 :: st) h :=
  fun p l e s m args below meth c b D κ N0 H locs ls C X => by
    intro T hT Xs
    obtain ⟨vm₁, cA, comp, fA, fC, X', step⟩ := gr_step Xs C.1 C.2.2.2.1 (C.2.2.2.2.1 _ w1) (C.2.2.2.2.1 _ kx_aoa) (C.2.2.2.2.1 _ kx_ai) (g := F0 m pc ls (.int 40 :: .int 4 :: st.map (rv b))) rfl (by rw [C.2.1]; exact hd) rfl hf.1 hf.2
    rw [← kx_str1] at fA
    rw [← kx_str3] at fC
    have hkA : cA = κ 3 := Option.some.inj (fA.symm.trans (C.2.2.2.2.2.2.2.2.1.2 3 _ rfl).2)
    have hkC : comp = κ 0 := Option.some.inj (fC.symm.trans (C.2.2.2.2.2.2.2.2.1.2 0 _ rfl).2)
    subst hkA
    subst hkC
    have hTh : (T.setVm vm₁).heap = H := hT
    obtain ⟨f1, f2, -, -, f5, f6⟩ := gr_all (T.setVm vm₁) (κ 3) (κ 0) 4
    generalize gr_st (T.setVm vm₁) (κ 3) (κ 0) 4 = F at X' step f1 f2 f5 f6
    rw [hTh] at f1 f2 f5 f6
    have hold : ∀ x : Nat, x < H.size → F.heap[x]? = H[x]? := fun x hx => f5 x hx
    have hrow : ∀ j : Nat, j < 4 → F.heap[H.size + 1 + j]? = some (vp_cell (κ 0) (40, .inl (fun _ => 0))) := fun j hj => by
      rw [f6 j hj]
      show some ({ cls := κ 0, slots := Array.replicate 40 (.int 0), vm := .none } : Cell) = _
      rw [arrV_new]
      rfl
    unfold gr_out at f2
    have hsz := X.2.2.1 rfl
    have DX1 : DX M true s b D κ N0 L (h ++ [cGr h.length, c40, c40, c40, c40]) F.heap locs ls := by
      refine ⟨fun q => (by cases q), ?_, fun _ => ?_, ⟨?_, fun x h1 h2 => (hold x (Nat.lt_of_lt_of_le h1 X.2.2.2.1.1)).trans (X.2.2.2.1.2.1 x h1 h2), X.2.2.2.1.2.2⟩, X.2.2.2.2⟩
      · intro i q hq
        obtain ⟨c9, hc9, rfl⟩ := wso_of hq
        by_cases hi : i < h.length
        · rw [List.getElem?_append_left hi] at hc9
          have h2 := X.2.1 _ _ (wso_at (b := b) (κ := κ) hc9)
          exact h2.kept (hold _ h2.lt)
        · rw [List.getElem?_append_right (by omega)] at hc9
          have hlt := (List.getElem?_eq_some_iff.mp hc9).1
          simp only [List.length_cons, List.length_nil] at hlt
          generalize hj : i - h.length = j at hc9 hlt
          have hij : i = h.length + j := by omega
          subst hij
          match j, hlt, hc9 with
          | 0, _, hc9 =>
            cases hc9
            show F.heap[b + (h.length + 0)]? = some (vp_cell (κ 3) (4, .inr (.inr (.inr (.inr (fun q => (if q < 4 then some (h.length + 1 + q) else none).map (b + ·)))))))
            rw [show b + (h.length + 0) = H.size by omega, f2, vp_cell_q, hsz]
            congr 2
            funext q
            by_cases hq4 : q < 4
            · rw [if_pos hq4, if_pos hq4]; exact congrArg Value.ref (show b + h.length + 1 + q = b + (h.length + 1 + q) by omega)
            · rw [if_neg hq4, if_neg hq4]; rfl
          | 1, _, hc9 => cases hc9; show F.heap[b + (h.length + 1)]? = _; rw [show b + (h.length + 1) = H.size + 1 + 0 by omega]; exact hrow 0 (by decide)
          | 2, _, hc9 => cases hc9; show F.heap[b + (h.length + 2)]? = _; rw [show b + (h.length + 2) = H.size + 1 + 1 by omega]; exact hrow 1 (by decide)
          | 3, _, hc9 => cases hc9; show F.heap[b + (h.length + 3)]? = _; rw [show b + (h.length + 3) = H.size + 1 + 2 by omega]; exact hrow 2 (by decide)
          | 4, _, hc9 => cases hc9; show F.heap[b + (h.length + 4)]? = _; rw [show b + (h.length + 4) = H.size + 1 + 3 by omega]; exact hrow 3 (by decide)
          | j + 5, hlt, _ => omega
      · rw [f1, hsz]; simp; omega
      · rw [f1]; have := X.2.2.2.1.1; omega
    obtain ⟨t, a1, b1⟩ := kk p l e s m args below meth c b D κ N0 F.heap locs ls C DX1 F rfl X'
    refine ⟨t, step t ?_, b1⟩
    have e1 : T.heap.size = b + h.length := by rw [hT]; exact hsz
    rw [e1]
    exact a1
