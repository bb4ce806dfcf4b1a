theorem law_world {s : State} {args : Array Value} (hts : ∀ w ∈ ktbl, w.before args s = true) : ∃ (D : va_G) (κ : Nat → ClassId), va_K D kclasses (tyk κ) s := by
  obtain ⟨c0, i0, h0⟩ := u_known (C := "EarChart") (T := F_E) (N := 11) (n := 11) hts fi_E (hts _ (k_at 66 (by decide +kernel) (by decide +kernel)))
  obtain ⟨c1, i1, h1⟩ := u_known (C := "EarChart$Row") (T := F_R) (N := 4) (n := 4) hts fi_R (hts _ (k_at 75 (by decide +kernel) (by decide +kernel)))
  obtain ⟨c2, i2, h2⟩ := u_known (C := "EarChart$Shape") (T := F_S) (N := 8) (n := 8) hts fi_S (hts _ (k_at 101 (by decide +kernel) (by decide +kernel)))
  obtain ⟨c3, i3, h3⟩ := u_known (C := "EarChart$Meeting") (T := F_M) (N := 2) (n := 2) hts fi_M (hts _ (k_at 141 (by decide +kernel) (by decide +kernel)))
  obtain ⟨c4, i4, h4⟩ := u_known (C := "EarChart$Laying") (T := F_L) (N := 7) (n := 7) hts fi_L (hts _ (k_at 156 (by decide +kernel) (by decide +kernel)))
  obtain ⟨c5, i5, h5⟩ := u_known (C := "EarChartModel") (T := F_T) (N := 28) (n := 28) hts fi_T (hts _ (k_at 526 (by decide +kernel) (by decide +kernel)))
  obtain ⟨a0, k0, m0, f0, g0, e0⟩ := Cond.arrayClass_spec (hts _ kx_ai)
  obtain ⟨a1, k1, m1, f1, g1, e1⟩ := Cond.arrayClass_spec (hts _ kx_az)
  obtain ⟨m2, a2, k2, f2, -, g2, e2, n2⟩ := Cond.arrayOver_spec (hts _ kx_ao)
  obtain ⟨m3, a3, k3, f3, -, g3, e3, n3⟩ := gr_over (hts _ kx_aoa)
  refine ⟨(fun k => match k with | 0 => c0 | 1 => c1 | 2 => c2 | 3 => c3 | 4 => c4 | _ => c5, fun k => match k with | 0 => i0 | 1 => i1 | 2 => i2 | 3 => i3 | 4 => i4 | _ => i5), (fun k => match k with | 0 => a0 | 1 => a1 | 2 => a2 | _ => a3), ?_, ?_⟩
  · intro k q hq
    match k, hq with
    | 0, hq => cases hq; exact h0
    | 1, hq => cases hq; exact h1
    | 2, hq => cases hq; exact h2
    | 3, hq => cases hq; exact h3
    | 4, hq => cases hq; exact h4
    | 5, hq => cases hq; exact h5
    | k + 6, hq => simp [kclasses] at hq
  · intro k q hq
    match k, hq with
    | 0, hq => cases hq; exact ⟨fun N z => ⟨(fun k h => by cases h), k0, g0, m0, e0⟩, f0⟩
    | 1, hq => cases hq; exact ⟨fun N z => ⟨(fun k h => by cases h), k1, g1, m1, e1⟩, f1⟩
    | 2, hq => cases hq; exact ⟨fun N z => ⟨(fun k h => by cases h), k2, g2, m2, e2⟩, k2, m2, g2, e2, f2, n2⟩
    | 3, hq => cases hq; exact ⟨fun N z => ⟨(fun k h => by cases h), k3, g3, m3, e3⟩, n3⟩
    | k + 4, hq => simp [tyk] at hq
set_option maxHeartbeats 4000000 in
set_option maxRecDepth 100000 in
theorem whole_start {p : Program} {e : Env} {s : State} {m : MethodId} {below : List Frame} {meth : Method} {c : Code} (l : Launch) {b L : Nat} {xs : Nat → Int32} (hL : L ≤ 2048) (C0 : lw_At p s m meth c b L xs) : W p l e room_1 s m #[Value.ref b] below meth c s.heap [] 0 0 (lw_Z below #[Value.ref b] s) (entryFrame m ([Value.ref b] : List Value).toArray 4) := by
  obtain ⟨D, κ, hK⟩ := law_world (lw_k C0)
  have hS : va_S (fun q : Nat => s.heap.size ≤ q) s.heap s.heap [] := va_S.rf
  have hl := lv_entry ([.ref b]) (n := 4) (Nat.le_of_ble_eq_true rfl)
  rw [lg_entry_eq]
  generalize (lg_sl ([.ref b]) ++ List.replicate (4 - (lg_sl ([.ref b])).length) Slot.unset).toArray = ls at hl ⊢
  have hl : lv_has ls 4 [(0, .ref b)] := hl
  refine law_new (ci := 0) (ty := ft_E) C0 hK rfl fi_E fo_E (k_at 65 (by decide +kernel) (by decide +kernel)) (k_at 66 (by decide +kernel) (by decide +kernel)) (k_at 57 (by decide +kernel) (by decide +kernel)) dLaw_law_0 hf_E (by decide) (by decide) (fun H1 hP1 hz1 ho1 => ?_)
  have hS1 : va_S (fun q : Nat => s.heap.size ≤ q) s.heap H1 [] := ⟨by omega, fun q h1 h2 => ho1 q h1, fun q hq => by cases hq⟩
  refine lv_dup C0.1 C0.2.1 dLaw_law_3 rfl ?_
  refine law_init C0 hK (Nat.le_refl _) hz1 cg_Law_9 c_E_init dLaw_law_4 (by decide) hP1 hS1 hl.1 (Nat.le_of_ble_eq_true rfl) (by decide) (by decide) ?_
  rintro r hw' H2 locs2 ⟨rfl, rfl⟩ hP2 hz2 ho2 hS2
  have hz2 : H2.size = s.heap.size + 28 := hz2
  refine lv_astore_n (lv' := [(1, .ref s.heap.size), (0, .ref b)]) C0.1 C0.2.1 dLaw_law_7 rfl hl (by decide) rfl (fun ls hl => ?_)
  refine law_new (ci := 5) (ty := ft_T) C0 hK rfl fi_T fo_T (k_at 525 (by decide +kernel) (by decide +kernel)) (k_at 526 (by decide +kernel) (by decide +kernel)) (k_at 62 (by decide +kernel) (by decide +kernel)) dLaw_law_8 hf_T (by decide) (by decide) (fun H3 hP3 hz3 ho3 => ?_)
  have hS3 : va_S (fun q : Nat => s.heap.size ≤ q) s.heap H3 locs2 := ⟨by have := hS2.1; omega, fun q h1 h2 => (ho3 q (Nat.lt_of_lt_of_le h1 hS2.1)).trans (hS2.2.1 q h1 h2), hS2.2.2⟩
  refine lv_dup C0.1 C0.2.1 dLaw_law_11 rfl ?_
  refine law_init C0 hK hS2.1 hz3 cg_Law_12 c_T_init dLaw_law_12 (by decide) hP3 hS3 hl.1 (Nat.le_of_ble_eq_true rfl) (by decide) (by decide) ?_
  rintro r hw' H4 locs4 ⟨rfl, rfl⟩ hP4 hz4 ho4 hS4
  refine lv_astore_n (lv' := [(2, .ref H2.size), (1, .ref s.heap.size), (0, .ref b)]) C0.1 C0.2.1 dLaw_law_15 rfl hl (by decide) rfl (fun ls hl => ?_)
  refine lv_iconst (v := 0) C0.1 C0.2.1 dLaw_law_16 (by decide) ?_
  refine lv_istore_n (lv' := [(3, .int 0), (2, .ref H2.size), (1, .ref s.heap.size), (0, .ref b)]) C0.1 C0.2.1 dLaw_law_17 rfl hl (by decide) rfl (fun ls hl => ?_)
  have hl := lv_sub (l' := [(0, .ref b), (1, .ref s.heap.size), (2, .ref H2.size), (3, .int (nI 0))]) hl [3, 2, 1, 0] rfl
  have hPC : va_P D kclasses (wso s.heap.size κ (hC I_0 A_0)) H4 := wso_kept (wso_kept hP2 (fun q h1 _ _ => ho3 q h1)) (fun q h1 h2 h3 => ho4 q (by have h3 : q < s.heap.size + 28 := h3; omega))
  rw [hz2] at hP4 hl
  exact law_loop hL (L + 1) 0 N_0 V_0 K_0 I_0 A_0 J_0 B_0 (by omega) (by omega) cinv_0 tinv_0 pinv_0 p l e s m below meth c b D κ H4 locs4 ls C0 hK rfl rfl hPC hP4 hS4 hl
