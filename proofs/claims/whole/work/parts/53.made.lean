theorem rows_eq : va_up (va_up (va_up (va_up (fun _ => none) 0 (some 2)) 1 (some 4)) 2 (some 6)) 3 (some 8) = (fun j : Nat => if j < 4 then some (2 + 2 * j) else none) := by
  funext j
  match j with
  | 0 => rfl
  | 1 => rfl
  | 2 => rfl
  | 3 => rfl
  | j + 4 => rw [if_neg (by omega)]; unfold va_up; rw [if_neg (by omega), if_neg (by omega), if_neg (by omega), if_neg (by omega)]
theorem grid_eq : (fun j : Nat => ((fun i : Nat => if i < 4 then some (5 + 1 + i) else none) j).map (10 + ·)) = (fun j : Nat => if j < 4 then some (16 + j) else none) := by
  funext j
  show Option.map _ (if j < 4 then some (5 + 1 + j) else none) = _
  by_cases h : j < 4
  · rw [if_pos h, if_pos h]
    show some (10 + (5 + 1 + j)) = some (16 + j)
    congr 1
    omega
  · rw [if_neg h, if_neg h]; rfl

theorem hf_E (b j : Nat) (hj : j < 11) : defaultValue (ft_E j) = vp_V (([.null, .null, .null, .null, .null, .int 0, .int 0, .int 0, .int 0, .int 0, .int 0] : List Value).map (rv b)) j := by
  match j, hj with
  | 0, _ => rfl
  | 1, _ => rfl
  | 2, _ => rfl
  | 3, _ => rfl
  | 4, _ => rfl
  | 5, _ => rfl
  | 6, _ => rfl
  | 7, _ => rfl
  | 8, _ => rfl
  | 9, _ => rfl
  | 10, _ => rfl
  | j + 11, h => exact absurd h (by omega)

theorem hf_R (b j : Nat) (hj : j < 4) : defaultValue (ft_R j) = vp_V (([.null, .int 0, .int 0, .int 0] : List Value).map (rv b)) j := by
  match j, hj with
  | 0, _ => rfl
  | 1, _ => rfl
  | 2, _ => rfl
  | 3, _ => rfl
  | j + 4, h => exact absurd h (by omega)

theorem hf_S (b j : Nat) (hj : j < 8) : defaultValue (ft_S j) = vp_V (([.null, .null, .null, .null, .null, .int 0, .int 0, .int 0] : List Value).map (rv b)) j := by
  match j, hj with
  | 0, _ => rfl
  | 1, _ => rfl
  | 2, _ => rfl
  | 3, _ => rfl
  | 4, _ => rfl
  | 5, _ => rfl
  | 6, _ => rfl
  | 7, _ => rfl
  | j + 8, h => exact absurd h (by omega)

theorem hf_M (b j : Nat) (hj : j < 2) : defaultValue (ft_M j) = vp_V (([.null, .int 0] : List Value).map (rv b)) j := by
  match j, hj with
  | 0, _ => rfl
  | 1, _ => rfl
  | j + 2, h => exact absurd h (by omega)

theorem hf_L (b j : Nat) (hj : j < 7) : defaultValue (ft_L j) = vp_V (([.null, .null, .null, .null, .int 0, .int 0, .int 0] : List Value).map (rv b)) j := by
  match j, hj with
  | 0, _ => rfl
  | 1, _ => rfl
  | 2, _ => rfl
  | 3, _ => rfl
  | 4, _ => rfl
  | 5, _ => rfl
  | 6, _ => rfl
  | j + 7, h => exact absurd h (by omega)

theorem hf_T (b j : Nat) (hj : j < 28) : defaultValue (ft_T j) = vp_V (([.null, .null, .null, .null, .int 0, .int 0, .int 0, .null, .null, .int 0, .int 0, .null, .null, .null, .int 0, .null, .int 0, .null, .int 0, .int 0, .int 0, .int 0, .int 0, .null, .null, .null, .null, .null] : List Value).map (rv b)) j := by
  match j, hj with
  | 0, _ => rfl
  | 1, _ => rfl
  | 2, _ => rfl
  | 3, _ => rfl
  | 4, _ => rfl
  | 5, _ => rfl
  | 6, _ => rfl
  | 7, _ => rfl
  | 8, _ => rfl
  | 9, _ => rfl
  | 10, _ => rfl
  | 11, _ => rfl
  | 12, _ => rfl
  | 13, _ => rfl
  | 14, _ => rfl
  | 15, _ => rfl
  | 16, _ => rfl
  | 17, _ => rfl
  | 18, _ => rfl
  | 19, _ => rfl
  | 20, _ => rfl
  | 21, _ => rfl
  | 22, _ => rfl
  | 23, _ => rfl
  | 24, _ => rfl
  | 25, _ => rfl
  | 26, _ => rfl
  | 27, _ => rfl
  | j + 28, h => exact absurd h (by omega)

set_option maxHeartbeats 4000000 in
set_option maxRecDepth 100000 in
theorem c_R_init : AMet kR_init true 1 1 40 [.ref 0] [.inr (1, [Value.null, .int 0, .int 0, .int 0])] (fun v h' => v = none ∧ h' = [.inr (1, [Value.ref 1, .int 0, .int 0, .int 50]), .inl (0, 40, .inl (fun _ => 0))]) := by
  refine AMet.of (by decide) (by simp [Value.category]) (Nat.le_of_ble_eq_true rfl) ?_
  show AW _ true 1 1 40 _ 0 0 0 [some (.ref 0)] [] [.inr (1, [Value.null, .int 0, .int 0, .int 0])]
  refine aw_aload_r dR_init_0 rfl ?_
  refine aw_obj cg_R_3 dR_init_1 (Nat.le_of_ble_eq_true rfl) (Nat.le_of_ble_eq_true rfl) ?_
  refine aw_aload_r dR_init_4 rfl ?_
  refine aw_bipush (v := 40) dR_init_5 (by decide) ?_
  refine aw_newi (N := 40) dR_init_7 (by decide) (by decide) (by decide) ⟨(Nat.le_of_ble_eq_true rfl), (Nat.le_of_ble_eq_true rfl)⟩ ?_
  show AW _ true 1 1 40 _ 1 40 9 [some (.ref 0)] [.ref 1, .ref 0] [.inr (1, [Value.null, .int 0, .int 0, .int 0]), .inl (0, 40, .inl (fun _ => 0))]
  refine aw_putF fp_R_9 rfl dR_init_9 rfl (Nat.le_of_ble_eq_true rfl) (fun _ => ⟨rfl, rfl⟩) ?_
  show AW _ true 1 1 40 _ 1 40 12 [some (.ref 0)] [] [.inr (1, [Value.ref 1, .int 0, .int 0, .int 0]), .inl (0, 40, .inl (fun _ => 0))]
  refine aw_aload_r dR_init_12 rfl ?_
  refine aw_iconst (v := 0) dR_init_13 (by decide) ?_
  refine aw_put fp_R_15 dR_init_14 rfl (Nat.le_of_ble_eq_true rfl) (okVi _) ?_
  show AW _ true 1 1 40 _ 1 40 17 [some (.ref 0)] [] [.inr (1, [Value.ref 1, .int 0, .int 0, .int 0]), .inl (0, 40, .inl (fun _ => 0))]
  refine aw_aload_r dR_init_17 rfl ?_
  refine aw_iconst (v := 0) dR_init_18 (by decide) ?_
  refine aw_put fp_R_19 dR_init_19 rfl (Nat.le_of_ble_eq_true rfl) (okVi _) ?_
  show AW _ true 1 1 40 _ 1 40 22 [some (.ref 0)] [] [.inr (1, [Value.ref 1, .int 0, .int 0, .int 0]), .inl (0, 40, .inl (fun _ => 0))]
  refine aw_aload_r dR_init_22 rfl ?_
  refine aw_bipush (v := 50) dR_init_23 (by decide) ?_
  refine aw_put fp_R_22 dR_init_25 rfl (Nat.le_of_ble_eq_true rfl) (okVi _) ?_
  show AW _ true 1 1 40 _ 1 40 28 [some (.ref 0)] [] [.inr (1, [Value.ref 1, .int 0, .int 0, .int 50]), .inl (0, 40, .inl (fun _ => 0))]
  exact aw_vret rfl dR_init_28 ⟨rfl, rfl⟩

set_option maxHeartbeats 4000000 in
set_option maxRecDepth 100000 in
theorem c_S_init : AMet kS_init true 1 9 324 [.ref 0] [.inr (2, [Value.null, .null, .null, .null, .null, .int 0, .int 0, .int 0])] (fun v h' => v = none ∧ h' = [.inr (2, [Value.ref 1, .ref 2, .ref 3, .ref 4, .ref 5, .int 0, .int 0, .int 0]), .inl (0, 40, .inl (fun _ => 0)), .inl (0, 40, .inl (fun _ => 0)), .inl (0, 40, .inl (fun _ => 0)), .inl (0, 40, .inl (fun _ => 0)), .inl (3, 4, .inr (.inr (.inr (.inr (fun i => if i < 4 then some (5 + 1 + i) else none))))), .inl (0, 40, .inl (fun _ => 0)), .inl (0, 40, .inl (fun _ => 0)), .inl (0, 40, .inl (fun _ => 0)), .inl (0, 40, .inl (fun _ => 0))]) := by
  refine AMet.of (by decide) (by simp [Value.category]) (Nat.le_of_ble_eq_true rfl) ?_
  show AW _ true 1 9 324 _ 0 0 0 [some (.ref 0)] [] [.inr (2, [Value.null, .null, .null, .null, .null, .int 0, .int 0, .int 0])]
  refine aw_aload_r dS_init_0 rfl ?_
  refine aw_obj cg_S_3 dS_init_1 (Nat.le_of_ble_eq_true rfl) (Nat.le_of_ble_eq_true rfl) ?_
  refine aw_aload_r dS_init_4 rfl ?_
  refine aw_bipush (v := 40) dS_init_5 (by decide) ?_
  refine aw_newi (N := 40) dS_init_7 (by decide) (by decide) (by decide) ⟨(Nat.le_of_ble_eq_true rfl), (Nat.le_of_ble_eq_true rfl)⟩ ?_
  show AW _ true 1 9 324 _ 1 40 9 [some (.ref 0)] [.ref 1, .ref 0] [.inr (2, [Value.null, .null, .null, .null, .null, .int 0, .int 0, .int 0]), .inl (0, 40, .inl (fun _ => 0))]
  refine aw_putF fp_S_9 rfl dS_init_9 rfl (Nat.le_of_ble_eq_true rfl) (fun _ => ⟨rfl, rfl⟩) ?_
  show AW _ true 1 9 324 _ 1 40 12 [some (.ref 0)] [] [.inr (2, [Value.ref 1, .null, .null, .null, .null, .int 0, .int 0, .int 0]), .inl (0, 40, .inl (fun _ => 0))]
  refine aw_aload_r dS_init_12 rfl ?_
  refine aw_bipush (v := 40) dS_init_13 (by decide) ?_
  refine aw_newi (N := 40) dS_init_15 (by decide) (by decide) (by decide) ⟨(Nat.le_of_ble_eq_true rfl), (Nat.le_of_ble_eq_true rfl)⟩ ?_
  show AW _ true 1 9 324 _ 2 80 17 [some (.ref 0)] [.ref 2, .ref 0] [.inr (2, [Value.ref 1, .null, .null, .null, .null, .int 0, .int 0, .int 0]), .inl (0, 40, .inl (fun _ => 0)), .inl (0, 40, .inl (fun _ => 0))]
  refine aw_putF fp_S_15 rfl dS_init_17 rfl (Nat.le_of_ble_eq_true rfl) (fun _ => ⟨rfl, rfl⟩) ?_
  show AW _ true 1 9 324 _ 2 80 20 [some (.ref 0)] [] [.inr (2, [Value.ref 1, .ref 2, .null, .null, .null, .int 0, .int 0, .int 0]), .inl (0, 40, .inl (fun _ => 0)), .inl (0, 40, .inl (fun _ => 0))]
  refine aw_aload_r dS_init_20 rfl ?_
  refine aw_bipush (v := 40) dS_init_21 (by decide) ?_
  refine aw_newi (N := 40) dS_init_23 (by decide) (by decide) (by decide) ⟨(Nat.le_of_ble_eq_true rfl), (Nat.le_of_ble_eq_true rfl)⟩ ?_
  show AW _ true 1 9 324 _ 3 120 25 [some (.ref 0)] [.ref 3, .ref 0] [.inr (2, [Value.ref 1, .ref 2, .null, .null, .null, .int 0, .int 0, .int 0]), .inl (0, 40, .inl (fun _ => 0)), .inl (0, 40, .inl (fun _ => 0)), .inl (0, 40, .inl (fun _ => 0))]
  refine aw_putF fp_S_18 rfl dS_init_25 rfl (Nat.le_of_ble_eq_true rfl) (fun _ => ⟨rfl, rfl⟩) ?_
  show AW _ true 1 9 324 _ 3 120 28 [some (.ref 0)] [] [.inr (2, [Value.ref 1, .ref 2, .ref 3, .null, .null, .int 0, .int 0, .int 0]), .inl (0, 40, .inl (fun _ => 0)), .inl (0, 40, .inl (fun _ => 0)), .inl (0, 40, .inl (fun _ => 0))]
  refine aw_aload_r dS_init_28 rfl ?_
  refine aw_bipush (v := 40) dS_init_29 (by decide) ?_
  refine aw_newi (N := 40) dS_init_31 (by decide) (by decide) (by decide) ⟨(Nat.le_of_ble_eq_true rfl), (Nat.le_of_ble_eq_true rfl)⟩ ?_
  show AW _ true 1 9 324 _ 4 160 33 [some (.ref 0)] [.ref 4, .ref 0] [.inr (2, [Value.ref 1, .ref 2, .ref 3, .null, .null, .int 0, .int 0, .int 0]), .inl (0, 40, .inl (fun _ => 0)), .inl (0, 40, .inl (fun _ => 0)), .inl (0, 40, .inl (fun _ => 0)), .inl (0, 40, .inl (fun _ => 0))]
  refine aw_putF fp_S_21 rfl dS_init_33 rfl (Nat.le_of_ble_eq_true rfl) (fun _ => ⟨rfl, rfl⟩) ?_
  show AW _ true 1 9 324 _ 4 160 36 [some (.ref 0)] [] [.inr (2, [Value.ref 1, .ref 2, .ref 3, .ref 4, .null, .int 0, .int 0, .int 0]), .inl (0, 40, .inl (fun _ => 0)), .inl (0, 40, .inl (fun _ => 0)), .inl (0, 40, .inl (fun _ => 0)), .inl (0, 40, .inl (fun _ => 0))]
  refine aw_aload_r dS_init_36 rfl ?_
  refine aw_iconst (v := 4) dS_init_37 (by decide) ?_
  refine aw_bipush (v := 40) dS_init_38 (by decide) ?_
  refine aw_mna (k_at 106 (by decide +kernel) (by decide +kernel)) dS_init_40 ⟨(Nat.le_of_ble_eq_true rfl), (Nat.le_of_ble_eq_true rfl)⟩ ?_
  show AW _ true 1 9 324 _ 9 324 44 [some (.ref 0)] [.ref 5, .ref 0] [.inr (2, [Value.ref 1, .ref 2, .ref 3, .ref 4, .null, .int 0, .int 0, .int 0]), .inl (0, 40, .inl (fun _ => 0)), .inl (0, 40, .inl (fun _ => 0)), .inl (0, 40, .inl (fun _ => 0)), .inl (0, 40, .inl (fun _ => 0)), .inl (3, 4, .inr (.inr (.inr (.inr (fun i => if i < 4 then some (5 + 1 + i) else none))))), .inl (0, 40, .inl (fun _ => 0)), .inl (0, 40, .inl (fun _ => 0)), .inl (0, 40, .inl (fun _ => 0)), .inl (0, 40, .inl (fun _ => 0))]
  refine aw_putF fp_S_26 rfl dS_init_44 rfl (Nat.le_of_ble_eq_true rfl) (fun _ => ⟨rfl, rfl⟩) ?_
  show AW _ true 1 9 324 _ 9 324 47 [some (.ref 0)] [] [.inr (2, [Value.ref 1, .ref 2, .ref 3, .ref 4, .ref 5, .int 0, .int 0, .int 0]), .inl (0, 40, .inl (fun _ => 0)), .inl (0, 40, .inl (fun _ => 0)), .inl (0, 40, .inl (fun _ => 0)), .inl (0, 40, .inl (fun _ => 0)), .inl (3, 4, .inr (.inr (.inr (.inr (fun i => if i < 4 then some (5 + 1 + i) else none))))), .inl (0, 40, .inl (fun _ => 0)), .inl (0, 40, .inl (fun _ => 0)), .inl (0, 40, .inl (fun _ => 0)), .inl (0, 40, .inl (fun _ => 0))]
  refine aw_aload_r dS_init_47 rfl ?_
  refine aw_iconst (v := 0) dS_init_48 (by decide) ?_
  refine aw_put fp_S_29 dS_init_49 rfl (Nat.le_of_ble_eq_true rfl) (okVi _) ?_
  show AW _ true 1 9 324 _ 9 324 52 [some (.ref 0)] [] [.inr (2, [Value.ref 1, .ref 2, .ref 3, .ref 4, .ref 5, .int 0, .int 0, .int 0]), .inl (0, 40, .inl (fun _ => 0)), .inl (0, 40, .inl (fun _ => 0)), .inl (0, 40, .inl (fun _ => 0)), .inl (0, 40, .inl (fun _ => 0)), .inl (3, 4, .inr (.inr (.inr (.inr (fun i => if i < 4 then some (5 + 1 + i) else none))))), .inl (0, 40, .inl (fun _ => 0)), .inl (0, 40, .inl (fun _ => 0)), .inl (0, 40, .inl (fun _ => 0)), .inl (0, 40, .inl (fun _ => 0))]
  refine aw_aload_r dS_init_52 rfl ?_
  refine aw_iconst (v := 0) dS_init_53 (by decide) ?_
  refine aw_put fp_S_33 dS_init_54 rfl (Nat.le_of_ble_eq_true rfl) (okVi _) ?_
  show AW _ true 1 9 324 _ 9 324 57 [some (.ref 0)] [] [.inr (2, [Value.ref 1, .ref 2, .ref 3, .ref 4, .ref 5, .int 0, .int 0, .int 0]), .inl (0, 40, .inl (fun _ => 0)), .inl (0, 40, .inl (fun _ => 0)), .inl (0, 40, .inl (fun _ => 0)), .inl (0, 40, .inl (fun _ => 0)), .inl (3, 4, .inr (.inr (.inr (.inr (fun i => if i < 4 then some (5 + 1 + i) else none))))), .inl (0, 40, .inl (fun _ => 0)), .inl (0, 40, .inl (fun _ => 0)), .inl (0, 40, .inl (fun _ => 0)), .inl (0, 40, .inl (fun _ => 0))]
  refine aw_aload_r dS_init_57 rfl ?_
  refine aw_iconst (v := 0) dS_init_58 (by decide) ?_
  refine aw_put fp_S_36 dS_init_59 rfl (Nat.le_of_ble_eq_true rfl) (okVi _) ?_
  show AW _ true 1 9 324 _ 9 324 62 [some (.ref 0)] [] [.inr (2, [Value.ref 1, .ref 2, .ref 3, .ref 4, .ref 5, .int 0, .int 0, .int 0]), .inl (0, 40, .inl (fun _ => 0)), .inl (0, 40, .inl (fun _ => 0)), .inl (0, 40, .inl (fun _ => 0)), .inl (0, 40, .inl (fun _ => 0)), .inl (3, 4, .inr (.inr (.inr (.inr (fun i => if i < 4 then some (5 + 1 + i) else none))))), .inl (0, 40, .inl (fun _ => 0)), .inl (0, 40, .inl (fun _ => 0)), .inl (0, 40, .inl (fun _ => 0)), .inl (0, 40, .inl (fun _ => 0))]
  exact aw_vret rfl dS_init_62 ⟨rfl, rfl⟩

set_option maxHeartbeats 4000000 in
set_option maxRecDepth 100000 in
theorem c_M_init : AMet kM_init true 1 1 40 [.ref 0] [.inr (3, [Value.null, .int 0])] (fun v h' => v = none ∧ h' = [.inr (3, [Value.ref 1, .int 0]), .inl (0, 40, .inl (fun _ => 0))]) := by
  refine AMet.of (by decide) (by simp [Value.category]) (Nat.le_of_ble_eq_true rfl) ?_
  show AW _ true 1 1 40 _ 0 0 0 [some (.ref 0)] [] [.inr (3, [Value.null, .int 0])]
  refine aw_aload_r dM_init_0 rfl ?_
  refine aw_obj cg_M_3 dM_init_1 (Nat.le_of_ble_eq_true rfl) (Nat.le_of_ble_eq_true rfl) ?_
  refine aw_aload_r dM_init_4 rfl ?_
  refine aw_bipush (v := 40) dM_init_5 (by decide) ?_
  refine aw_newi (N := 40) dM_init_7 (by decide) (by decide) (by decide) ⟨(Nat.le_of_ble_eq_true rfl), (Nat.le_of_ble_eq_true rfl)⟩ ?_
  show AW _ true 1 1 40 _ 1 40 9 [some (.ref 0)] [.ref 1, .ref 0] [.inr (3, [Value.null, .int 0]), .inl (0, 40, .inl (fun _ => 0))]
  refine aw_putF fp_M_9 rfl dM_init_9 rfl (Nat.le_of_ble_eq_true rfl) (fun _ => ⟨rfl, rfl⟩) ?_
  show AW _ true 1 1 40 _ 1 40 12 [some (.ref 0)] [] [.inr (3, [Value.ref 1, .int 0]), .inl (0, 40, .inl (fun _ => 0))]
  refine aw_aload_r dM_init_12 rfl ?_
  refine aw_iconst (v := 0) dM_init_13 (by decide) ?_
  refine aw_put fp_M_15 dM_init_14 rfl (Nat.le_of_ble_eq_true rfl) (okVi _) ?_
  show AW _ true 1 1 40 _ 1 40 17 [some (.ref 0)] [] [.inr (3, [Value.ref 1, .int 0]), .inl (0, 40, .inl (fun _ => 0))]
  exact aw_vret rfl dM_init_17 ⟨rfl, rfl⟩

set_option maxHeartbeats 4000000 in
set_option maxRecDepth 100000 in
theorem c_L_init : AMet kL_init true 1 4 16 [.ref 0] [.inr (4, [Value.null, .null, .null, .null, .int 0, .int 0, .int 0])] (fun v h' => v = none ∧ h' = [.inr (4, [Value.ref 1, .ref 2, .ref 3, .ref 4, .int 0, .int 0, .int 0]), .inl (0, 4, .inl (fun _ => 0)), .inl (0, 4, .inl (fun _ => 0)), .inl (0, 4, .inl (fun _ => 0)), .inl (0, 4, .inl (fun _ => 0))]) := by
  refine AMet.of (by decide) (by simp [Value.category]) (Nat.le_of_ble_eq_true rfl) ?_
  show AW _ true 1 4 16 _ 0 0 0 [some (.ref 0)] [] [.inr (4, [Value.null, .null, .null, .null, .int 0, .int 0, .int 0])]
  refine aw_aload_r dL_init_0 rfl ?_
  refine aw_obj cg_L_3 dL_init_1 (Nat.le_of_ble_eq_true rfl) (Nat.le_of_ble_eq_true rfl) ?_
  refine aw_aload_r dL_init_4 rfl ?_
  refine aw_iconst (v := 4) dL_init_5 (by decide) ?_
  refine aw_newi (N := 4) dL_init_6 (by decide) (by decide) (by decide) ⟨(Nat.le_of_ble_eq_true rfl), (Nat.le_of_ble_eq_true rfl)⟩ ?_
  show AW _ true 1 4 16 _ 1 4 8 [some (.ref 0)] [.ref 1, .ref 0] [.inr (4, [Value.null, .null, .null, .null, .int 0, .int 0, .int 0]), .inl (0, 4, .inl (fun _ => 0))]
  refine aw_putF fp_L_9 rfl dL_init_8 rfl (Nat.le_of_ble_eq_true rfl) (fun _ => ⟨rfl, rfl⟩) ?_
  show AW _ true 1 4 16 _ 1 4 11 [some (.ref 0)] [] [.inr (4, [Value.ref 1, .null, .null, .null, .int 0, .int 0, .int 0]), .inl (0, 4, .inl (fun _ => 0))]
  refine aw_aload_r dL_init_11 rfl ?_
  refine aw_iconst (v := 4) dL_init_12 (by decide) ?_
  refine aw_newi (N := 4) dL_init_13 (by decide) (by decide) (by decide) ⟨(Nat.le_of_ble_eq_true rfl), (Nat.le_of_ble_eq_true rfl)⟩ ?_
  show AW _ true 1 4 16 _ 2 8 15 [some (.ref 0)] [.ref 2, .ref 0] [.inr (4, [Value.ref 1, .null, .null, .null, .int 0, .int 0, .int 0]), .inl (0, 4, .inl (fun _ => 0)), .inl (0, 4, .inl (fun _ => 0))]
  refine aw_putF fp_L_15 rfl dL_init_15 rfl (Nat.le_of_ble_eq_true rfl) (fun _ => ⟨rfl, rfl⟩) ?_
  show AW _ true 1 4 16 _ 2 8 18 [some (.ref 0)] [] [.inr (4, [Value.ref 1, .ref 2, .null, .null, .int 0, .int 0, .int 0]), .inl (0, 4, .inl (fun _ => 0)), .inl (0, 4, .inl (fun _ => 0))]
  refine aw_aload_r dL_init_18 rfl ?_
  refine aw_iconst (v := 4) dL_init_19 (by decide) ?_
  refine aw_newi (N := 4) dL_init_20 (by decide) (by decide) (by decide) ⟨(Nat.le_of_ble_eq_true rfl), (Nat.le_of_ble_eq_true rfl)⟩ ?_
  show AW _ true 1 4 16 _ 3 12 22 [some (.ref 0)] [.ref 3, .ref 0] [.inr (4, [Value.ref 1, .ref 2, .null, .null, .int 0, .int 0, .int 0]), .inl (0, 4, .inl (fun _ => 0)), .inl (0, 4, .inl (fun _ => 0)), .inl (0, 4, .inl (fun _ => 0))]
  refine aw_putF fp_L_18 rfl dL_init_22 rfl (Nat.le_of_ble_eq_true rfl) (fun _ => ⟨rfl, rfl⟩) ?_
  show AW _ true 1 4 16 _ 3 12 25 [some (.ref 0)] [] [.inr (4, [Value.ref 1, .ref 2, .ref 3, .null, .int 0, .int 0, .int 0]), .inl (0, 4, .inl (fun _ => 0)), .inl (0, 4, .inl (fun _ => 0)), .inl (0, 4, .inl (fun _ => 0))]
  refine aw_aload_r dL_init_25 rfl ?_
  refine aw_iconst (v := 4) dL_init_26 (by decide) ?_
  refine aw_newi (N := 4) dL_init_27 (by decide) (by decide) (by decide) ⟨(Nat.le_of_ble_eq_true rfl), (Nat.le_of_ble_eq_true rfl)⟩ ?_
  show AW _ true 1 4 16 _ 4 16 29 [some (.ref 0)] [.ref 4, .ref 0] [.inr (4, [Value.ref 1, .ref 2, .ref 3, .null, .int 0, .int 0, .int 0]), .inl (0, 4, .inl (fun _ => 0)), .inl (0, 4, .inl (fun _ => 0)), .inl (0, 4, .inl (fun _ => 0)), .inl (0, 4, .inl (fun _ => 0))]
  refine aw_putF fp_L_21 rfl dL_init_29 rfl (Nat.le_of_ble_eq_true rfl) (fun _ => ⟨rfl, rfl⟩) ?_
  show AW _ true 1 4 16 _ 4 16 32 [some (.ref 0)] [] [.inr (4, [Value.ref 1, .ref 2, .ref 3, .ref 4, .int 0, .int 0, .int 0]), .inl (0, 4, .inl (fun _ => 0)), .inl (0, 4, .inl (fun _ => 0)), .inl (0, 4, .inl (fun _ => 0)), .inl (0, 4, .inl (fun _ => 0))]
  refine aw_aload_r dL_init_32 rfl ?_
  refine aw_iconst (v := 0) dL_init_33 (by decide) ?_
  refine aw_put fp_L_24 dL_init_34 rfl (Nat.le_of_ble_eq_true rfl) (okVi _) ?_
  show AW _ true 1 4 16 _ 4 16 37 [some (.ref 0)] [] [.inr (4, [Value.ref 1, .ref 2, .ref 3, .ref 4, .int 0, .int 0, .int 0]), .inl (0, 4, .inl (fun _ => 0)), .inl (0, 4, .inl (fun _ => 0)), .inl (0, 4, .inl (fun _ => 0)), .inl (0, 4, .inl (fun _ => 0))]
  refine aw_aload_r dL_init_37 rfl ?_
  refine aw_iconst (v := 0) dL_init_38 (by decide) ?_
  refine aw_put fp_L_28 dL_init_39 rfl (Nat.le_of_ble_eq_true rfl) (okVi _) ?_
  show AW _ true 1 4 16 _ 4 16 42 [some (.ref 0)] [] [.inr (4, [Value.ref 1, .ref 2, .ref 3, .ref 4, .int 0, .int 0, .int 0]), .inl (0, 4, .inl (fun _ => 0)), .inl (0, 4, .inl (fun _ => 0)), .inl (0, 4, .inl (fun _ => 0)), .inl (0, 4, .inl (fun _ => 0))]
  refine aw_aload_r dL_init_42 rfl ?_
  refine aw_iconst (v := 0) dL_init_43 (by decide) ?_
  refine aw_put fp_L_31 dL_init_44 rfl (Nat.le_of_ble_eq_true rfl) (okVi _) ?_
  show AW _ true 1 4 16 _ 4 16 47 [some (.ref 0)] [] [.inr (4, [Value.ref 1, .ref 2, .ref 3, .ref 4, .int 0, .int 0, .int 0]), .inl (0, 4, .inl (fun _ => 0)), .inl (0, 4, .inl (fun _ => 0)), .inl (0, 4, .inl (fun _ => 0)), .inl (0, 4, .inl (fun _ => 0))]
  exact aw_vret rfl dL_init_47 ⟨rfl, rfl⟩

def N_0 : Nat → Nat := fun _ => 0
def V_0 : Nat → Nat → Int32 := fun _ _ => 0
def K_0 : Nat → Int32 := fun q => if q < 4 then 0 else if q < 8 then 50 else if q = 8 then 10 else if q = 10 then 3 else if q = 11 then 1 else if q = 12 then -1 else 0
def I_0 : Nat → Int32 := fun q => if q = 5 then 10 else if q = 7 then 3 else if q = 8 then 1 else if q = 9 then -1 else if q = 203 then 50 else if q = 403 then 50 else if q = 603 then 50 else if q = 803 then 50 else 0
def A_0 : Nat → Nat → Int32 := fun _ _ => 0
def J_0 : Nat → Int32 := fun q => if q = 4 then 10 else if q = 5 then -1 else if q = 19 then 3 else if q = 20 then 1 else 0
def B_0 : Nat → Nat → Int32 := fun c => if c = 4 then upd (upd (upd (upd (fun _ => 0) 0 50) 1 50) 2 50) 3 50 else fun _ => 0
theorem cinv_0 : CInv N_0 V_0 K_0 I_0 A_0 := by
  refine ⟨fun k hk => ?_, rfl, rfl, rfl, rfl, rfl, rfl⟩
  rcases r4 hk with rfl | rfl | rfl | rfl <;> exact ⟨by decide, rfl, rfl, rfl, fun _ _ => rfl⟩
theorem tinv_0 : TInv N_0 V_0 K_0 J_0 B_0 := by
  refine ⟨fun k hk => ?_, rfl, rfl, rfl, rfl, rfl, rfl⟩
  rcases r4 hk with rfl | rfl | rfl | rfl <;> exact ⟨by decide, rfl, rfl, rfl, fun _ _ => rfl⟩
theorem pinv_0 : PInv N_0 V_0 K_0 := by
  refine ⟨fun k hk => ⟨Nat.zero_le _, fun i hi => absurd hi (by unfold N_0; omega), ?_, ?_⟩, by unfold In; decide, by unfold In; decide, by unfold In; decide, by unfold In; decide, Or.inl rfl⟩
  · rcases r4 hk with rfl | rfl | rfl | rfl <;> unfold In <;> decide
  · rcases r4 hk with rfl | rfl | rfl | rfl <;> unfold In <;> decide

set_option maxHeartbeats 4000000 in
set_option maxRecDepth 100000 in
theorem c_E_init : AMet kE_init true 2 27 617 [.ref 0] [.inr (0, [Value.null, .null, .null, .null, .null, .int 0, .int 0, .int 0, .int 0, .int 0, .int 0])] (fun v h' => v = none ∧ h' = hC I_0 A_0) := by
  refine AMet.of (by decide) (by simp [Value.category]) (Nat.le_of_ble_eq_true rfl) ?_
  show AW _ true 2 27 617 _ 0 0 0 [some (.ref 0), none] [] [.inr (0, [Value.null, .null, .null, .null, .null, .int 0, .int 0, .int 0, .int 0, .int 0, .int 0])]
  refine aw_aload_r dE_init_0 rfl ?_
  refine aw_obj cg_E_3 dE_init_1 (Nat.le_of_ble_eq_true rfl) (Nat.le_of_ble_eq_true rfl) ?_
  refine aw_aload_r dE_init_4 rfl ?_
  refine aw_iconst (v := 4) dE_init_5 (by decide) ?_
  refine aw_newq (N := 4) (k_at 73 (by decide +kernel) (by decide +kernel)) dE_init_6 (by decide) (by decide) (by decide) ⟨(Nat.le_of_ble_eq_true rfl), (Nat.le_of_ble_eq_true rfl)⟩ ?_
  show AW _ true 2 27 617 _ 1 4 9 [some (.ref 0), none] [.ref 1, .ref 0] [.inr (0, [Value.null, .null, .null, .null, .null, .int 0, .int 0, .int 0, .int 0, .int 0, .int 0]), .inl (2, 4, .inr (.inr (.inr (.inr (fun _ => none)))))]
  refine aw_putF fp_E_11 rfl dE_init_9 rfl (Nat.le_of_ble_eq_true rfl) (fun _ => ⟨rfl, rfl⟩) ?_
  show AW _ true 2 27 617 _ 1 4 12 [some (.ref 0), none] [] [.inr (0, [Value.ref 1, .null, .null, .null, .null, .int 0, .int 0, .int 0, .int 0, .int 0, .int 0]), .inl (2, 4, .inr (.inr (.inr (.inr (fun _ => none)))))]
  refine aw_iconst (v := 0) dE_init_12 (by decide) ?_
  refine aw_istore_n dE_init_13 (by decide) ?_
  show AW _ true 2 27 617 _ 1 4 14 [some (.ref 0), some (.int 0)] [] [.inr (0, [Value.ref 1, .null, .null, .null, .null, .int 0, .int 0, .int 0, .int 0, .int 0, .int 0]), .inl (2, 4, .inr (.inr (.inr (.inr (fun _ => none)))))]
  refine aw_iload_n dE_init_14 rfl ?_
  refine aw_iconst (v := 4) dE_init_15 (by decide) ?_
  refine aw_icmp_ge (tgt := 38) dE_init_16 (by decide) (fun q => absurd q (by decide)) (fun _ => ?_)
  refine aw_aload_r dE_init_19 rfl ?_
  refine aw_get fg_E_11 dE_init_20 rfl rfl ?_
  refine aw_iload_n dE_init_23 rfl ?_
  refine aw_new (ci := 1) (ty := ft_R) (fs := [Value.null, .int 0, .int 0, .int 0]) rfl fi_R fo_R (k_at 73 (by decide +kernel) (by decide +kernel)) (k_at 75 (by decide +kernel) (by decide +kernel)) (k_at 58 (by decide +kernel) (by decide +kernel)) dE_init_24 hf_R ⟨(Nat.le_of_ble_eq_true rfl), (Nat.le_of_ble_eq_true rfl)⟩ ?_
  show AW _ true 2 27 617 _ 2 8 27 [some (.ref 0), some (.int 0)] [.ref 2, .int 0, .ref 1] [.inr (0, [Value.ref 1, .null, .null, .null, .null, .int 0, .int 0, .int 0, .int 0, .int 0, .int 0]), .inl (2, 4, .inr (.inr (.inr (.inr (fun _ => none))))), .inr (1, [Value.null, .int 0, .int 0, .int 0])]
  refine aw_dup dE_init_27 rfl ?_
  refine aw_callIw (pre := [.inr (0, [Value.ref 1, .null, .null, .null, .null, .int 0, .int 0, .int 0, .int 0, .int 0, .int 0]), .inl (2, 4, .inr (.inr (.inr (.inr (fun _ => none)))))]) (o := 2) rfl cg_E_15 c_R_init dE_init_28 rfl rfl (Nat.le_of_ble_eq_true rfl) (Nat.le_of_ble_eq_true rfl) ⟨(Nat.le_of_ble_eq_true rfl), (Nat.le_of_ble_eq_true rfl)⟩ rfl ?_
  rintro _ _ ⟨rfl, rfl⟩
  show AW _ true 2 27 617 _ 3 48 31 [some (.ref 0), some (.int 0)] [.ref 2, .int 0, .ref 1] [.inr (0, [Value.ref 1, .null, .null, .null, .null, .int 0, .int 0, .int 0, .int 0, .int 0, .int 0]), .inl (2, 4, .inr (.inr (.inr (.inr (fun _ => none))))), .inr (1, [Value.ref 3, .int 0, .int 0, .int 50]), .inl (0, 40, .inl (fun _ => 0))]
  refine aw_aast dE_init_31 rfl (by unfold vp_in; decide) rfl ?_
  show AW _ true 2 27 617 _ 3 48 32 [some (.ref 0), some (.int 0)] [] [.inr (0, [Value.ref 1, .null, .null, .null, .null, .int 0, .int 0, .int 0, .int 0, .int 0, .int 0]), .inl (2, 4, .inr (.inr (.inr (.inr (va_up (fun _ => none) 0 (some 2)))))), .inr (1, [Value.ref 3, .int 0, .int 0, .int 50]), .inl (0, 40, .inl (fun _ => 0))]
  refine aw_iinc (w := 1) dE_init_32 rfl (by decide) (by decide) ?_
  show AW _ true 2 27 617 _ 3 48 35 [some (.ref 0), some (.int 1)] [] [.inr (0, [Value.ref 1, .null, .null, .null, .null, .int 0, .int 0, .int 0, .int 0, .int 0, .int 0]), .inl (2, 4, .inr (.inr (.inr (.inr (va_up (fun _ => none) 0 (some 2)))))), .inr (1, [Value.ref 3, .int 0, .int 0, .int 50]), .inl (0, 40, .inl (fun _ => 0))]
  refine aw_goto (tgt := 14) dE_init_35 (by decide) ?_
  refine aw_iload_n dE_init_14 rfl ?_
  refine aw_iconst (v := 4) dE_init_15 (by decide) ?_
  refine aw_icmp_ge (tgt := 38) dE_init_16 (by decide) (fun q => absurd q (by decide)) (fun _ => ?_)
  refine aw_aload_r dE_init_19 rfl ?_
  refine aw_get fg_E_11 dE_init_20 rfl rfl ?_
  refine aw_iload_n dE_init_23 rfl ?_
  refine aw_new (ci := 1) (ty := ft_R) (fs := [Value.null, .int 0, .int 0, .int 0]) rfl fi_R fo_R (k_at 73 (by decide +kernel) (by decide +kernel)) (k_at 75 (by decide +kernel) (by decide +kernel)) (k_at 58 (by decide +kernel) (by decide +kernel)) dE_init_24 hf_R ⟨(Nat.le_of_ble_eq_true rfl), (Nat.le_of_ble_eq_true rfl)⟩ ?_
  show AW _ true 2 27 617 _ 4 52 27 [some (.ref 0), some (.int 1)] [.ref 4, .int 1, .ref 1] [.inr (0, [Value.ref 1, .null, .null, .null, .null, .int 0, .int 0, .int 0, .int 0, .int 0, .int 0]), .inl (2, 4, .inr (.inr (.inr (.inr (va_up (fun _ => none) 0 (some 2)))))), .inr (1, [Value.ref 3, .int 0, .int 0, .int 50]), .inl (0, 40, .inl (fun _ => 0)), .inr (1, [Value.null, .int 0, .int 0, .int 0])]
  refine aw_dup dE_init_27 rfl ?_
  refine aw_callIw (pre := [.inr (0, [Value.ref 1, .null, .null, .null, .null, .int 0, .int 0, .int 0, .int 0, .int 0, .int 0]), .inl (2, 4, .inr (.inr (.inr (.inr (va_up (fun _ => none) 0 (some 2)))))), .inr (1, [Value.ref 3, .int 0, .int 0, .int 50]), .inl (0, 40, .inl (fun _ => 0))]) (o := 4) rfl cg_E_15 c_R_init dE_init_28 rfl rfl (Nat.le_of_ble_eq_true rfl) (Nat.le_of_ble_eq_true rfl) ⟨(Nat.le_of_ble_eq_true rfl), (Nat.le_of_ble_eq_true rfl)⟩ rfl ?_
  rintro _ _ ⟨rfl, rfl⟩
  show AW _ true 2 27 617 _ 5 92 31 [some (.ref 0), some (.int 1)] [.ref 4, .int 1, .ref 1] [.inr (0, [Value.ref 1, .null, .null, .null, .null, .int 0, .int 0, .int 0, .int 0, .int 0, .int 0]), .inl (2, 4, .inr (.inr (.inr (.inr (va_up (fun _ => none) 0 (some 2)))))), .inr (1, [Value.ref 3, .int 0, .int 0, .int 50]), .inl (0, 40, .inl (fun _ => 0)), .inr (1, [Value.ref 5, .int 0, .int 0, .int 50]), .inl (0, 40, .inl (fun _ => 0))]
  refine aw_aast dE_init_31 rfl (by unfold vp_in; decide) rfl ?_
  show AW _ true 2 27 617 _ 5 92 32 [some (.ref 0), some (.int 1)] [] [.inr (0, [Value.ref 1, .null, .null, .null, .null, .int 0, .int 0, .int 0, .int 0, .int 0, .int 0]), .inl (2, 4, .inr (.inr (.inr (.inr (va_up (va_up (fun _ => none) 0 (some 2)) 1 (some 4)))))), .inr (1, [Value.ref 3, .int 0, .int 0, .int 50]), .inl (0, 40, .inl (fun _ => 0)), .inr (1, [Value.ref 5, .int 0, .int 0, .int 50]), .inl (0, 40, .inl (fun _ => 0))]
  refine aw_iinc (w := 2) dE_init_32 rfl (by decide) (by decide) ?_
  show AW _ true 2 27 617 _ 5 92 35 [some (.ref 0), some (.int 2)] [] [.inr (0, [Value.ref 1, .null, .null, .null, .null, .int 0, .int 0, .int 0, .int 0, .int 0, .int 0]), .inl (2, 4, .inr (.inr (.inr (.inr (va_up (va_up (fun _ => none) 0 (some 2)) 1 (some 4)))))), .inr (1, [Value.ref 3, .int 0, .int 0, .int 50]), .inl (0, 40, .inl (fun _ => 0)), .inr (1, [Value.ref 5, .int 0, .int 0, .int 50]), .inl (0, 40, .inl (fun _ => 0))]
  refine aw_goto (tgt := 14) dE_init_35 (by decide) ?_
  refine aw_iload_n dE_init_14 rfl ?_
  refine aw_iconst (v := 4) dE_init_15 (by decide) ?_
  refine aw_icmp_ge (tgt := 38) dE_init_16 (by decide) (fun q => absurd q (by decide)) (fun _ => ?_)
  refine aw_aload_r dE_init_19 rfl ?_
  refine aw_get fg_E_11 dE_init_20 rfl rfl ?_
  refine aw_iload_n dE_init_23 rfl ?_
  refine aw_new (ci := 1) (ty := ft_R) (fs := [Value.null, .int 0, .int 0, .int 0]) rfl fi_R fo_R (k_at 73 (by decide +kernel) (by decide +kernel)) (k_at 75 (by decide +kernel) (by decide +kernel)) (k_at 58 (by decide +kernel) (by decide +kernel)) dE_init_24 hf_R ⟨(Nat.le_of_ble_eq_true rfl), (Nat.le_of_ble_eq_true rfl)⟩ ?_
  show AW _ true 2 27 617 _ 6 96 27 [some (.ref 0), some (.int 2)] [.ref 6, .int 2, .ref 1] [.inr (0, [Value.ref 1, .null, .null, .null, .null, .int 0, .int 0, .int 0, .int 0, .int 0, .int 0]), .inl (2, 4, .inr (.inr (.inr (.inr (va_up (va_up (fun _ => none) 0 (some 2)) 1 (some 4)))))), .inr (1, [Value.ref 3, .int 0, .int 0, .int 50]), .inl (0, 40, .inl (fun _ => 0)), .inr (1, [Value.ref 5, .int 0, .int 0, .int 50]), .inl (0, 40, .inl (fun _ => 0)), .inr (1, [Value.null, .int 0, .int 0, .int 0])]
  refine aw_dup dE_init_27 rfl ?_
  refine aw_callIw (pre := [.inr (0, [Value.ref 1, .null, .null, .null, .null, .int 0, .int 0, .int 0, .int 0, .int 0, .int 0]), .inl (2, 4, .inr (.inr (.inr (.inr (va_up (va_up (fun _ => none) 0 (some 2)) 1 (some 4)))))), .inr (1, [Value.ref 3, .int 0, .int 0, .int 50]), .inl (0, 40, .inl (fun _ => 0)), .inr (1, [Value.ref 5, .int 0, .int 0, .int 50]), .inl (0, 40, .inl (fun _ => 0))]) (o := 6) rfl cg_E_15 c_R_init dE_init_28 rfl rfl (Nat.le_of_ble_eq_true rfl) (Nat.le_of_ble_eq_true rfl) ⟨(Nat.le_of_ble_eq_true rfl), (Nat.le_of_ble_eq_true rfl)⟩ rfl ?_
  rintro _ _ ⟨rfl, rfl⟩
  show AW _ true 2 27 617 _ 7 136 31 [some (.ref 0), some (.int 2)] [.ref 6, .int 2, .ref 1] [.inr (0, [Value.ref 1, .null, .null, .null, .null, .int 0, .int 0, .int 0, .int 0, .int 0, .int 0]), .inl (2, 4, .inr (.inr (.inr (.inr (va_up (va_up (fun _ => none) 0 (some 2)) 1 (some 4)))))), .inr (1, [Value.ref 3, .int 0, .int 0, .int 50]), .inl (0, 40, .inl (fun _ => 0)), .inr (1, [Value.ref 5, .int 0, .int 0, .int 50]), .inl (0, 40, .inl (fun _ => 0)), .inr (1, [Value.ref 7, .int 0, .int 0, .int 50]), .inl (0, 40, .inl (fun _ => 0))]
  refine aw_aast dE_init_31 rfl (by unfold vp_in; decide) rfl ?_
  show AW _ true 2 27 617 _ 7 136 32 [some (.ref 0), some (.int 2)] [] [.inr (0, [Value.ref 1, .null, .null, .null, .null, .int 0, .int 0, .int 0, .int 0, .int 0, .int 0]), .inl (2, 4, .inr (.inr (.inr (.inr (va_up (va_up (va_up (fun _ => none) 0 (some 2)) 1 (some 4)) 2 (some 6)))))), .inr (1, [Value.ref 3, .int 0, .int 0, .int 50]), .inl (0, 40, .inl (fun _ => 0)), .inr (1, [Value.ref 5, .int 0, .int 0, .int 50]), .inl (0, 40, .inl (fun _ => 0)), .inr (1, [Value.ref 7, .int 0, .int 0, .int 50]), .inl (0, 40, .inl (fun _ => 0))]
  refine aw_iinc (w := 3) dE_init_32 rfl (by decide) (by decide) ?_
  show AW _ true 2 27 617 _ 7 136 35 [some (.ref 0), some (.int 3)] [] [.inr (0, [Value.ref 1, .null, .null, .null, .null, .int 0, .int 0, .int 0, .int 0, .int 0, .int 0]), .inl (2, 4, .inr (.inr (.inr (.inr (va_up (va_up (va_up (fun _ => none) 0 (some 2)) 1 (some 4)) 2 (some 6)))))), .inr (1, [Value.ref 3, .int 0, .int 0, .int 50]), .inl (0, 40, .inl (fun _ => 0)), .inr (1, [Value.ref 5, .int 0, .int 0, .int 50]), .inl (0, 40, .inl (fun _ => 0)), .inr (1, [Value.ref 7, .int 0, .int 0, .int 50]), .inl (0, 40, .inl (fun _ => 0))]
  refine aw_goto (tgt := 14) dE_init_35 (by decide) ?_
  refine aw_iload_n dE_init_14 rfl ?_
  refine aw_iconst (v := 4) dE_init_15 (by decide) ?_
  refine aw_icmp_ge (tgt := 38) dE_init_16 (by decide) (fun q => absurd q (by decide)) (fun _ => ?_)
  refine aw_aload_r dE_init_19 rfl ?_
  refine aw_get fg_E_11 dE_init_20 rfl rfl ?_
  refine aw_iload_n dE_init_23 rfl ?_
  refine aw_new (ci := 1) (ty := ft_R) (fs := [Value.null, .int 0, .int 0, .int 0]) rfl fi_R fo_R (k_at 73 (by decide +kernel) (by decide +kernel)) (k_at 75 (by decide +kernel) (by decide +kernel)) (k_at 58 (by decide +kernel) (by decide +kernel)) dE_init_24 hf_R ⟨(Nat.le_of_ble_eq_true rfl), (Nat.le_of_ble_eq_true rfl)⟩ ?_
  show AW _ true 2 27 617 _ 8 140 27 [some (.ref 0), some (.int 3)] [.ref 8, .int 3, .ref 1] [.inr (0, [Value.ref 1, .null, .null, .null, .null, .int 0, .int 0, .int 0, .int 0, .int 0, .int 0]), .inl (2, 4, .inr (.inr (.inr (.inr (va_up (va_up (va_up (fun _ => none) 0 (some 2)) 1 (some 4)) 2 (some 6)))))), .inr (1, [Value.ref 3, .int 0, .int 0, .int 50]), .inl (0, 40, .inl (fun _ => 0)), .inr (1, [Value.ref 5, .int 0, .int 0, .int 50]), .inl (0, 40, .inl (fun _ => 0)), .inr (1, [Value.ref 7, .int 0, .int 0, .int 50]), .inl (0, 40, .inl (fun _ => 0)), .inr (1, [Value.null, .int 0, .int 0, .int 0])]
  refine aw_dup dE_init_27 rfl ?_
  refine aw_callIw (pre := [.inr (0, [Value.ref 1, .null, .null, .null, .null, .int 0, .int 0, .int 0, .int 0, .int 0, .int 0]), .inl (2, 4, .inr (.inr (.inr (.inr (va_up (va_up (va_up (fun _ => none) 0 (some 2)) 1 (some 4)) 2 (some 6)))))), .inr (1, [Value.ref 3, .int 0, .int 0, .int 50]), .inl (0, 40, .inl (fun _ => 0)), .inr (1, [Value.ref 5, .int 0, .int 0, .int 50]), .inl (0, 40, .inl (fun _ => 0)), .inr (1, [Value.ref 7, .int 0, .int 0, .int 50]), .inl (0, 40, .inl (fun _ => 0))]) (o := 8) rfl cg_E_15 c_R_init dE_init_28 rfl rfl (Nat.le_of_ble_eq_true rfl) (Nat.le_of_ble_eq_true rfl) ⟨(Nat.le_of_ble_eq_true rfl), (Nat.le_of_ble_eq_true rfl)⟩ rfl ?_
  rintro _ _ ⟨rfl, rfl⟩
  show AW _ true 2 27 617 _ 9 180 31 [some (.ref 0), some (.int 3)] [.ref 8, .int 3, .ref 1] [.inr (0, [Value.ref 1, .null, .null, .null, .null, .int 0, .int 0, .int 0, .int 0, .int 0, .int 0]), .inl (2, 4, .inr (.inr (.inr (.inr (va_up (va_up (va_up (fun _ => none) 0 (some 2)) 1 (some 4)) 2 (some 6)))))), .inr (1, [Value.ref 3, .int 0, .int 0, .int 50]), .inl (0, 40, .inl (fun _ => 0)), .inr (1, [Value.ref 5, .int 0, .int 0, .int 50]), .inl (0, 40, .inl (fun _ => 0)), .inr (1, [Value.ref 7, .int 0, .int 0, .int 50]), .inl (0, 40, .inl (fun _ => 0)), .inr (1, [Value.ref 9, .int 0, .int 0, .int 50]), .inl (0, 40, .inl (fun _ => 0))]
  refine aw_aast dE_init_31 rfl (by unfold vp_in; decide) rfl ?_
  show AW _ true 2 27 617 _ 9 180 32 [some (.ref 0), some (.int 3)] [] [.inr (0, [Value.ref 1, .null, .null, .null, .null, .int 0, .int 0, .int 0, .int 0, .int 0, .int 0]), .inl (2, 4, .inr (.inr (.inr (.inr (va_up (va_up (va_up (va_up (fun _ => none) 0 (some 2)) 1 (some 4)) 2 (some 6)) 3 (some 8)))))), .inr (1, [Value.ref 3, .int 0, .int 0, .int 50]), .inl (0, 40, .inl (fun _ => 0)), .inr (1, [Value.ref 5, .int 0, .int 0, .int 50]), .inl (0, 40, .inl (fun _ => 0)), .inr (1, [Value.ref 7, .int 0, .int 0, .int 50]), .inl (0, 40, .inl (fun _ => 0)), .inr (1, [Value.ref 9, .int 0, .int 0, .int 50]), .inl (0, 40, .inl (fun _ => 0))]
  rw [rows_eq]
  show AW _ true 2 27 617 _ 9 180 32 [some (.ref 0), some (.int 3)] [] [.inr (0, [Value.ref 1, .null, .null, .null, .null, .int 0, .int 0, .int 0, .int 0, .int 0, .int 0]), .inl (2, 4, .inr (.inr (.inr (.inr (fun j => if j < 4 then some (2 + 2 * j) else none))))), .inr (1, [Value.ref 3, .int 0, .int 0, .int 50]), .inl (0, 40, .inl (fun _ => 0)), .inr (1, [Value.ref 5, .int 0, .int 0, .int 50]), .inl (0, 40, .inl (fun _ => 0)), .inr (1, [Value.ref 7, .int 0, .int 0, .int 50]), .inl (0, 40, .inl (fun _ => 0)), .inr (1, [Value.ref 9, .int 0, .int 0, .int 50]), .inl (0, 40, .inl (fun _ => 0))]
  refine aw_iinc (w := 4) dE_init_32 rfl (by decide) (by decide) ?_
  show AW _ true 2 27 617 _ 9 180 35 [some (.ref 0), some (.int 4)] [] [.inr (0, [Value.ref 1, .null, .null, .null, .null, .int 0, .int 0, .int 0, .int 0, .int 0, .int 0]), .inl (2, 4, .inr (.inr (.inr (.inr (fun j => if j < 4 then some (2 + 2 * j) else none))))), .inr (1, [Value.ref 3, .int 0, .int 0, .int 50]), .inl (0, 40, .inl (fun _ => 0)), .inr (1, [Value.ref 5, .int 0, .int 0, .int 50]), .inl (0, 40, .inl (fun _ => 0)), .inr (1, [Value.ref 7, .int 0, .int 0, .int 50]), .inl (0, 40, .inl (fun _ => 0)), .inr (1, [Value.ref 9, .int 0, .int 0, .int 50]), .inl (0, 40, .inl (fun _ => 0))]
  refine aw_goto (tgt := 14) dE_init_35 (by decide) ?_
  refine aw_iload_n dE_init_14 rfl ?_
  refine aw_iconst (v := 4) dE_init_15 (by decide) ?_
  refine aw_icmp_ge (tgt := 38) dE_init_16 (by decide) (fun _ => ?_) (fun q => absurd (by decide) q)
  refine aw_aload_r dE_init_38 rfl ?_
  refine aw_new (ci := 2) (ty := ft_S) (fs := [Value.null, .null, .null, .null, .null, .int 0, .int 0, .int 0]) rfl fi_S fo_S (k_at 100 (by decide +kernel) (by decide +kernel)) (k_at 101 (by decide +kernel) (by decide +kernel)) (k_at 59 (by decide +kernel) (by decide +kernel)) dE_init_39 hf_S ⟨(Nat.le_of_ble_eq_true rfl), (Nat.le_of_ble_eq_true rfl)⟩ ?_
  show AW _ true 2 27 617 _ 10 188 42 [some (.ref 0), some (.int 4)] [.ref 10, .ref 0] [.inr (0, [Value.ref 1, .null, .null, .null, .null, .int 0, .int 0, .int 0, .int 0, .int 0, .int 0]), .inl (2, 4, .inr (.inr (.inr (.inr (fun j => if j < 4 then some (2 + 2 * j) else none))))), .inr (1, [Value.ref 3, .int 0, .int 0, .int 50]), .inl (0, 40, .inl (fun _ => 0)), .inr (1, [Value.ref 5, .int 0, .int 0, .int 50]), .inl (0, 40, .inl (fun _ => 0)), .inr (1, [Value.ref 7, .int 0, .int 0, .int 50]), .inl (0, 40, .inl (fun _ => 0)), .inr (1, [Value.ref 9, .int 0, .int 0, .int 50]), .inl (0, 40, .inl (fun _ => 0)), .inr (2, [Value.null, .null, .null, .null, .null, .int 0, .int 0, .int 0])]
  refine aw_dup dE_init_42 rfl ?_
  refine aw_callIw (pre := [.inr (0, [Value.ref 1, .null, .null, .null, .null, .int 0, .int 0, .int 0, .int 0, .int 0, .int 0]), .inl (2, 4, .inr (.inr (.inr (.inr (fun j => if j < 4 then some (2 + 2 * j) else none))))), .inr (1, [Value.ref 3, .int 0, .int 0, .int 50]), .inl (0, 40, .inl (fun _ => 0)), .inr (1, [Value.ref 5, .int 0, .int 0, .int 50]), .inl (0, 40, .inl (fun _ => 0)), .inr (1, [Value.ref 7, .int 0, .int 0, .int 50]), .inl (0, 40, .inl (fun _ => 0)), .inr (1, [Value.ref 9, .int 0, .int 0, .int 50]), .inl (0, 40, .inl (fun _ => 0))]) (o := 10) rfl cg_E_18 c_S_init dE_init_43 rfl rfl (Nat.le_of_ble_eq_true rfl) (Nat.le_of_ble_eq_true rfl) ⟨(Nat.le_of_ble_eq_true rfl), (Nat.le_of_ble_eq_true rfl)⟩ rfl ?_
  rintro _ _ ⟨rfl, rfl⟩
  show AW _ true 2 27 617 _ 19 512 46 [some (.ref 0), some (.int 4)] [.ref 10, .ref 0] [.inr (0, [Value.ref 1, .null, .null, .null, .null, .int 0, .int 0, .int 0, .int 0, .int 0, .int 0]), .inl (2, 4, .inr (.inr (.inr (.inr (fun j => if j < 4 then some (2 + 2 * j) else none))))), .inr (1, [Value.ref 3, .int 0, .int 0, .int 50]), .inl (0, 40, .inl (fun _ => 0)), .inr (1, [Value.ref 5, .int 0, .int 0, .int 50]), .inl (0, 40, .inl (fun _ => 0)), .inr (1, [Value.ref 7, .int 0, .int 0, .int 50]), .inl (0, 40, .inl (fun _ => 0)), .inr (1, [Value.ref 9, .int 0, .int 0, .int 50]), .inl (0, 40, .inl (fun _ => 0)), .inr (2, [Value.ref 11, .ref 12, .ref 13, .ref 14, .ref 15, .int 0, .int 0, .int 0]), .inl (0, 40, .inl (fun _ => 0)), .inl (0, 40, .inl (fun _ => 0)), .inl (0, 40, .inl (fun _ => 0)), .inl (0, 40, .inl (fun _ => 0)), .inl (3, 4, .inr (.inr (.inr (.inr (fun j => ((fun i => if i < 4 then some (5 + 1 + i) else none) j).map (10 + ·)))))), .inl (0, 40, .inl (fun _ => 0)), .inl (0, 40, .inl (fun _ => 0)), .inl (0, 40, .inl (fun _ => 0)), .inl (0, 40, .inl (fun _ => 0))]
  rw [grid_eq]
  show AW _ true 2 27 617 _ 19 512 46 [some (.ref 0), some (.int 4)] [.ref 10, .ref 0] [.inr (0, [Value.ref 1, .null, .null, .null, .null, .int 0, .int 0, .int 0, .int 0, .int 0, .int 0]), .inl (2, 4, .inr (.inr (.inr (.inr (fun j => if j < 4 then some (2 + 2 * j) else none))))), .inr (1, [Value.ref 3, .int 0, .int 0, .int 50]), .inl (0, 40, .inl (fun _ => 0)), .inr (1, [Value.ref 5, .int 0, .int 0, .int 50]), .inl (0, 40, .inl (fun _ => 0)), .inr (1, [Value.ref 7, .int 0, .int 0, .int 50]), .inl (0, 40, .inl (fun _ => 0)), .inr (1, [Value.ref 9, .int 0, .int 0, .int 50]), .inl (0, 40, .inl (fun _ => 0)), .inr (2, [Value.ref 11, .ref 12, .ref 13, .ref 14, .ref 15, .int 0, .int 0, .int 0]), .inl (0, 40, .inl (fun _ => 0)), .inl (0, 40, .inl (fun _ => 0)), .inl (0, 40, .inl (fun _ => 0)), .inl (0, 40, .inl (fun _ => 0)), .inl (3, 4, .inr (.inr (.inr (.inr (fun j => if j < 4 then some (16 + j) else none))))), .inl (0, 40, .inl (fun _ => 0)), .inl (0, 40, .inl (fun _ => 0)), .inl (0, 40, .inl (fun _ => 0)), .inl (0, 40, .inl (fun _ => 0))]
  refine aw_putF fp_E_19 rfl dE_init_46 rfl (Nat.le_of_ble_eq_true rfl) (fun _ => ⟨rfl, rfl⟩) ?_
  show AW _ true 2 27 617 _ 19 512 49 [some (.ref 0), some (.int 4)] [] [.inr (0, [Value.ref 1, .ref 10, .null, .null, .null, .int 0, .int 0, .int 0, .int 0, .int 0, .int 0]), .inl (2, 4, .inr (.inr (.inr (.inr (fun j => if j < 4 then some (2 + 2 * j) else none))))), .inr (1, [Value.ref 3, .int 0, .int 0, .int 50]), .inl (0, 40, .inl (fun _ => 0)), .inr (1, [Value.ref 5, .int 0, .int 0, .int 50]), .inl (0, 40, .inl (fun _ => 0)), .inr (1, [Value.ref 7, .int 0, .int 0, .int 50]), .inl (0, 40, .inl (fun _ => 0)), .inr (1, [Value.ref 9, .int 0, .int 0, .int 50]), .inl (0, 40, .inl (fun _ => 0)), .inr (2, [Value.ref 11, .ref 12, .ref 13, .ref 14, .ref 15, .int 0, .int 0, .int 0]), .inl (0, 40, .inl (fun _ => 0)), .inl (0, 40, .inl (fun _ => 0)), .inl (0, 40, .inl (fun _ => 0)), .inl (0, 40, .inl (fun _ => 0)), .inl (3, 4, .inr (.inr (.inr (.inr (fun j => if j < 4 then some (16 + j) else none))))), .inl (0, 40, .inl (fun _ => 0)), .inl (0, 40, .inl (fun _ => 0)), .inl (0, 40, .inl (fun _ => 0)), .inl (0, 40, .inl (fun _ => 0))]
  refine aw_aload_r dE_init_49 rfl ?_
  refine aw_new (ci := 3) (ty := ft_M) (fs := [Value.null, .int 0]) rfl fi_M fo_M (k_at 140 (by decide +kernel) (by decide +kernel)) (k_at 141 (by decide +kernel) (by decide +kernel)) (k_at 60 (by decide +kernel) (by decide +kernel)) dE_init_50 hf_M ⟨(Nat.le_of_ble_eq_true rfl), (Nat.le_of_ble_eq_true rfl)⟩ ?_
  show AW _ true 2 27 617 _ 20 514 53 [some (.ref 0), some (.int 4)] [.ref 20, .ref 0] [.inr (0, [Value.ref 1, .ref 10, .null, .null, .null, .int 0, .int 0, .int 0, .int 0, .int 0, .int 0]), .inl (2, 4, .inr (.inr (.inr (.inr (fun j => if j < 4 then some (2 + 2 * j) else none))))), .inr (1, [Value.ref 3, .int 0, .int 0, .int 50]), .inl (0, 40, .inl (fun _ => 0)), .inr (1, [Value.ref 5, .int 0, .int 0, .int 50]), .inl (0, 40, .inl (fun _ => 0)), .inr (1, [Value.ref 7, .int 0, .int 0, .int 50]), .inl (0, 40, .inl (fun _ => 0)), .inr (1, [Value.ref 9, .int 0, .int 0, .int 50]), .inl (0, 40, .inl (fun _ => 0)), .inr (2, [Value.ref 11, .ref 12, .ref 13, .ref 14, .ref 15, .int 0, .int 0, .int 0]), .inl (0, 40, .inl (fun _ => 0)), .inl (0, 40, .inl (fun _ => 0)), .inl (0, 40, .inl (fun _ => 0)), .inl (0, 40, .inl (fun _ => 0)), .inl (3, 4, .inr (.inr (.inr (.inr (fun j => if j < 4 then some (16 + j) else none))))), .inl (0, 40, .inl (fun _ => 0)), .inl (0, 40, .inl (fun _ => 0)), .inl (0, 40, .inl (fun _ => 0)), .inl (0, 40, .inl (fun _ => 0)), .inr (3, [Value.null, .int 0])]
  refine aw_dup dE_init_53 rfl ?_
  refine aw_callIw (pre := [.inr (0, [Value.ref 1, .ref 10, .null, .null, .null, .int 0, .int 0, .int 0, .int 0, .int 0, .int 0]), .inl (2, 4, .inr (.inr (.inr (.inr (fun j => if j < 4 then some (2 + 2 * j) else none))))), .inr (1, [Value.ref 3, .int 0, .int 0, .int 50]), .inl (0, 40, .inl (fun _ => 0)), .inr (1, [Value.ref 5, .int 0, .int 0, .int 50]), .inl (0, 40, .inl (fun _ => 0)), .inr (1, [Value.ref 7, .int 0, .int 0, .int 50]), .inl (0, 40, .inl (fun _ => 0)), .inr (1, [Value.ref 9, .int 0, .int 0, .int 50]), .inl (0, 40, .inl (fun _ => 0)), .inr (2, [Value.ref 11, .ref 12, .ref 13, .ref 14, .ref 15, .int 0, .int 0, .int 0]), .inl (0, 40, .inl (fun _ => 0)), .inl (0, 40, .inl (fun _ => 0)), .inl (0, 40, .inl (fun _ => 0)), .inl (0, 40, .inl (fun _ => 0)), .inl (3, 4, .inr (.inr (.inr (.inr (fun j => if j < 4 then some (16 + j) else none))))), .inl (0, 40, .inl (fun _ => 0)), .inl (0, 40, .inl (fun _ => 0)), .inl (0, 40, .inl (fun _ => 0)), .inl (0, 40, .inl (fun _ => 0))]) (o := 20) rfl cg_E_25 c_M_init dE_init_54 rfl rfl (Nat.le_of_ble_eq_true rfl) (Nat.le_of_ble_eq_true rfl) ⟨(Nat.le_of_ble_eq_true rfl), (Nat.le_of_ble_eq_true rfl)⟩ rfl ?_
  rintro _ _ ⟨rfl, rfl⟩
  show AW _ true 2 27 617 _ 21 554 57 [some (.ref 0), some (.int 4)] [.ref 20, .ref 0] [.inr (0, [Value.ref 1, .ref 10, .null, .null, .null, .int 0, .int 0, .int 0, .int 0, .int 0, .int 0]), .inl (2, 4, .inr (.inr (.inr (.inr (fun j => if j < 4 then some (2 + 2 * j) else none))))), .inr (1, [Value.ref 3, .int 0, .int 0, .int 50]), .inl (0, 40, .inl (fun _ => 0)), .inr (1, [Value.ref 5, .int 0, .int 0, .int 50]), .inl (0, 40, .inl (fun _ => 0)), .inr (1, [Value.ref 7, .int 0, .int 0, .int 50]), .inl (0, 40, .inl (fun _ => 0)), .inr (1, [Value.ref 9, .int 0, .int 0, .int 50]), .inl (0, 40, .inl (fun _ => 0)), .inr (2, [Value.ref 11, .ref 12, .ref 13, .ref 14, .ref 15, .int 0, .int 0, .int 0]), .inl (0, 40, .inl (fun _ => 0)), .inl (0, 40, .inl (fun _ => 0)), .inl (0, 40, .inl (fun _ => 0)), .inl (0, 40, .inl (fun _ => 0)), .inl (3, 4, .inr (.inr (.inr (.inr (fun j => if j < 4 then some (16 + j) else none))))), .inl (0, 40, .inl (fun _ => 0)), .inl (0, 40, .inl (fun _ => 0)), .inl (0, 40, .inl (fun _ => 0)), .inl (0, 40, .inl (fun _ => 0)), .inr (3, [Value.ref 21, .int 0]), .inl (0, 40, .inl (fun _ => 0))]
  refine aw_putF fp_E_26 rfl dE_init_57 rfl (Nat.le_of_ble_eq_true rfl) (fun _ => ⟨rfl, rfl⟩) ?_
  show AW _ true 2 27 617 _ 21 554 60 [some (.ref 0), some (.int 4)] [] [.inr (0, [Value.ref 1, .ref 10, .ref 20, .null, .null, .int 0, .int 0, .int 0, .int 0, .int 0, .int 0]), .inl (2, 4, .inr (.inr (.inr (.inr (fun j => if j < 4 then some (2 + 2 * j) else none))))), .inr (1, [Value.ref 3, .int 0, .int 0, .int 50]), .inl (0, 40, .inl (fun _ => 0)), .inr (1, [Value.ref 5, .int 0, .int 0, .int 50]), .inl (0, 40, .inl (fun _ => 0)), .inr (1, [Value.ref 7, .int 0, .int 0, .int 50]), .inl (0, 40, .inl (fun _ => 0)), .inr (1, [Value.ref 9, .int 0, .int 0, .int 50]), .inl (0, 40, .inl (fun _ => 0)), .inr (2, [Value.ref 11, .ref 12, .ref 13, .ref 14, .ref 15, .int 0, .int 0, .int 0]), .inl (0, 40, .inl (fun _ => 0)), .inl (0, 40, .inl (fun _ => 0)), .inl (0, 40, .inl (fun _ => 0)), .inl (0, 40, .inl (fun _ => 0)), .inl (3, 4, .inr (.inr (.inr (.inr (fun j => if j < 4 then some (16 + j) else none))))), .inl (0, 40, .inl (fun _ => 0)), .inl (0, 40, .inl (fun _ => 0)), .inl (0, 40, .inl (fun _ => 0)), .inl (0, 40, .inl (fun _ => 0)), .inr (3, [Value.ref 21, .int 0]), .inl (0, 40, .inl (fun _ => 0))]
  refine aw_aload_r dE_init_60 rfl ?_
  refine aw_new (ci := 4) (ty := ft_L) (fs := [Value.null, .null, .null, .null, .int 0, .int 0, .int 0]) rfl fi_L fo_L (k_at 155 (by decide +kernel) (by decide +kernel)) (k_at 156 (by decide +kernel) (by decide +kernel)) (k_at 61 (by decide +kernel) (by decide +kernel)) dE_init_61 hf_L ⟨(Nat.le_of_ble_eq_true rfl), (Nat.le_of_ble_eq_true rfl)⟩ ?_
  show AW _ true 2 27 617 _ 22 561 64 [some (.ref 0), some (.int 4)] [.ref 22, .ref 0] [.inr (0, [Value.ref 1, .ref 10, .ref 20, .null, .null, .int 0, .int 0, .int 0, .int 0, .int 0, .int 0]), .inl (2, 4, .inr (.inr (.inr (.inr (fun j => if j < 4 then some (2 + 2 * j) else none))))), .inr (1, [Value.ref 3, .int 0, .int 0, .int 50]), .inl (0, 40, .inl (fun _ => 0)), .inr (1, [Value.ref 5, .int 0, .int 0, .int 50]), .inl (0, 40, .inl (fun _ => 0)), .inr (1, [Value.ref 7, .int 0, .int 0, .int 50]), .inl (0, 40, .inl (fun _ => 0)), .inr (1, [Value.ref 9, .int 0, .int 0, .int 50]), .inl (0, 40, .inl (fun _ => 0)), .inr (2, [Value.ref 11, .ref 12, .ref 13, .ref 14, .ref 15, .int 0, .int 0, .int 0]), .inl (0, 40, .inl (fun _ => 0)), .inl (0, 40, .inl (fun _ => 0)), .inl (0, 40, .inl (fun _ => 0)), .inl (0, 40, .inl (fun _ => 0)), .inl (3, 4, .inr (.inr (.inr (.inr (fun j => if j < 4 then some (16 + j) else none))))), .inl (0, 40, .inl (fun _ => 0)), .inl (0, 40, .inl (fun _ => 0)), .inl (0, 40, .inl (fun _ => 0)), .inl (0, 40, .inl (fun _ => 0)), .inr (3, [Value.ref 21, .int 0]), .inl (0, 40, .inl (fun _ => 0)), .inr (4, [Value.null, .null, .null, .null, .int 0, .int 0, .int 0])]
  refine aw_dup dE_init_64 rfl ?_
  refine aw_callIw (pre := [.inr (0, [Value.ref 1, .ref 10, .ref 20, .null, .null, .int 0, .int 0, .int 0, .int 0, .int 0, .int 0]), .inl (2, 4, .inr (.inr (.inr (.inr (fun j => if j < 4 then some (2 + 2 * j) else none))))), .inr (1, [Value.ref 3, .int 0, .int 0, .int 50]), .inl (0, 40, .inl (fun _ => 0)), .inr (1, [Value.ref 5, .int 0, .int 0, .int 50]), .inl (0, 40, .inl (fun _ => 0)), .inr (1, [Value.ref 7, .int 0, .int 0, .int 50]), .inl (0, 40, .inl (fun _ => 0)), .inr (1, [Value.ref 9, .int 0, .int 0, .int 50]), .inl (0, 40, .inl (fun _ => 0)), .inr (2, [Value.ref 11, .ref 12, .ref 13, .ref 14, .ref 15, .int 0, .int 0, .int 0]), .inl (0, 40, .inl (fun _ => 0)), .inl (0, 40, .inl (fun _ => 0)), .inl (0, 40, .inl (fun _ => 0)), .inl (0, 40, .inl (fun _ => 0)), .inl (3, 4, .inr (.inr (.inr (.inr (fun j => if j < 4 then some (16 + j) else none))))), .inl (0, 40, .inl (fun _ => 0)), .inl (0, 40, .inl (fun _ => 0)), .inl (0, 40, .inl (fun _ => 0)), .inl (0, 40, .inl (fun _ => 0)), .inr (3, [Value.ref 21, .int 0]), .inl (0, 40, .inl (fun _ => 0))]) (o := 22) rfl cg_E_32 c_L_init dE_init_65 rfl rfl (Nat.le_of_ble_eq_true rfl) (Nat.le_of_ble_eq_true rfl) ⟨(Nat.le_of_ble_eq_true rfl), (Nat.le_of_ble_eq_true rfl)⟩ rfl ?_
  rintro _ _ ⟨rfl, rfl⟩
  show AW _ true 2 27 617 _ 26 577 68 [some (.ref 0), some (.int 4)] [.ref 22, .ref 0] [.inr (0, [Value.ref 1, .ref 10, .ref 20, .null, .null, .int 0, .int 0, .int 0, .int 0, .int 0, .int 0]), .inl (2, 4, .inr (.inr (.inr (.inr (fun j => if j < 4 then some (2 + 2 * j) else none))))), .inr (1, [Value.ref 3, .int 0, .int 0, .int 50]), .inl (0, 40, .inl (fun _ => 0)), .inr (1, [Value.ref 5, .int 0, .int 0, .int 50]), .inl (0, 40, .inl (fun _ => 0)), .inr (1, [Value.ref 7, .int 0, .int 0, .int 50]), .inl (0, 40, .inl (fun _ => 0)), .inr (1, [Value.ref 9, .int 0, .int 0, .int 50]), .inl (0, 40, .inl (fun _ => 0)), .inr (2, [Value.ref 11, .ref 12, .ref 13, .ref 14, .ref 15, .int 0, .int 0, .int 0]), .inl (0, 40, .inl (fun _ => 0)), .inl (0, 40, .inl (fun _ => 0)), .inl (0, 40, .inl (fun _ => 0)), .inl (0, 40, .inl (fun _ => 0)), .inl (3, 4, .inr (.inr (.inr (.inr (fun j => if j < 4 then some (16 + j) else none))))), .inl (0, 40, .inl (fun _ => 0)), .inl (0, 40, .inl (fun _ => 0)), .inl (0, 40, .inl (fun _ => 0)), .inl (0, 40, .inl (fun _ => 0)), .inr (3, [Value.ref 21, .int 0]), .inl (0, 40, .inl (fun _ => 0)), .inr (4, [Value.ref 23, .ref 24, .ref 25, .ref 26, .int 0, .int 0, .int 0]), .inl (0, 4, .inl (fun _ => 0)), .inl (0, 4, .inl (fun _ => 0)), .inl (0, 4, .inl (fun _ => 0)), .inl (0, 4, .inl (fun _ => 0))]
  refine aw_putF fp_E_33 rfl dE_init_68 rfl (Nat.le_of_ble_eq_true rfl) (fun _ => ⟨rfl, rfl⟩) ?_
  show AW _ true 2 27 617 _ 26 577 71 [some (.ref 0), some (.int 4)] [] [.inr (0, [Value.ref 1, .ref 10, .ref 20, .ref 22, .null, .int 0, .int 0, .int 0, .int 0, .int 0, .int 0]), .inl (2, 4, .inr (.inr (.inr (.inr (fun j => if j < 4 then some (2 + 2 * j) else none))))), .inr (1, [Value.ref 3, .int 0, .int 0, .int 50]), .inl (0, 40, .inl (fun _ => 0)), .inr (1, [Value.ref 5, .int 0, .int 0, .int 50]), .inl (0, 40, .inl (fun _ => 0)), .inr (1, [Value.ref 7, .int 0, .int 0, .int 50]), .inl (0, 40, .inl (fun _ => 0)), .inr (1, [Value.ref 9, .int 0, .int 0, .int 50]), .inl (0, 40, .inl (fun _ => 0)), .inr (2, [Value.ref 11, .ref 12, .ref 13, .ref 14, .ref 15, .int 0, .int 0, .int 0]), .inl (0, 40, .inl (fun _ => 0)), .inl (0, 40, .inl (fun _ => 0)), .inl (0, 40, .inl (fun _ => 0)), .inl (0, 40, .inl (fun _ => 0)), .inl (3, 4, .inr (.inr (.inr (.inr (fun j => if j < 4 then some (16 + j) else none))))), .inl (0, 40, .inl (fun _ => 0)), .inl (0, 40, .inl (fun _ => 0)), .inl (0, 40, .inl (fun _ => 0)), .inl (0, 40, .inl (fun _ => 0)), .inr (3, [Value.ref 21, .int 0]), .inl (0, 40, .inl (fun _ => 0)), .inr (4, [Value.ref 23, .ref 24, .ref 25, .ref 26, .int 0, .int 0, .int 0]), .inl (0, 4, .inl (fun _ => 0)), .inl (0, 4, .inl (fun _ => 0)), .inl (0, 4, .inl (fun _ => 0)), .inl (0, 4, .inl (fun _ => 0))]
  refine aw_aload_r dE_init_71 rfl ?_
  refine aw_bipush (v := 40) dE_init_72 (by decide) ?_
  refine aw_newz (N := 40) dE_init_74 (by decide) (by decide) (by decide) ⟨(Nat.le_of_ble_eq_true rfl), (Nat.le_of_ble_eq_true rfl)⟩ ?_
  show AW _ true 2 27 617 _ 27 617 76 [some (.ref 0), some (.int 4)] [.ref 27, .ref 0] [.inr (0, [Value.ref 1, .ref 10, .ref 20, .ref 22, .null, .int 0, .int 0, .int 0, .int 0, .int 0, .int 0]), .inl (2, 4, .inr (.inr (.inr (.inr (fun j => if j < 4 then some (2 + 2 * j) else none))))), .inr (1, [Value.ref 3, .int 0, .int 0, .int 50]), .inl (0, 40, .inl (fun _ => 0)), .inr (1, [Value.ref 5, .int 0, .int 0, .int 50]), .inl (0, 40, .inl (fun _ => 0)), .inr (1, [Value.ref 7, .int 0, .int 0, .int 50]), .inl (0, 40, .inl (fun _ => 0)), .inr (1, [Value.ref 9, .int 0, .int 0, .int 50]), .inl (0, 40, .inl (fun _ => 0)), .inr (2, [Value.ref 11, .ref 12, .ref 13, .ref 14, .ref 15, .int 0, .int 0, .int 0]), .inl (0, 40, .inl (fun _ => 0)), .inl (0, 40, .inl (fun _ => 0)), .inl (0, 40, .inl (fun _ => 0)), .inl (0, 40, .inl (fun _ => 0)), .inl (3, 4, .inr (.inr (.inr (.inr (fun j => if j < 4 then some (16 + j) else none))))), .inl (0, 40, .inl (fun _ => 0)), .inl (0, 40, .inl (fun _ => 0)), .inl (0, 40, .inl (fun _ => 0)), .inl (0, 40, .inl (fun _ => 0)), .inr (3, [Value.ref 21, .int 0]), .inl (0, 40, .inl (fun _ => 0)), .inr (4, [Value.ref 23, .ref 24, .ref 25, .ref 26, .int 0, .int 0, .int 0]), .inl (0, 4, .inl (fun _ => 0)), .inl (0, 4, .inl (fun _ => 0)), .inl (0, 4, .inl (fun _ => 0)), .inl (0, 4, .inl (fun _ => 0)), .inl (1, 40, .inl (fun _ => 0))]
  refine aw_putF fp_E_37 rfl dE_init_76 rfl (Nat.le_of_ble_eq_true rfl) (fun _ => ⟨rfl, rfl⟩) ?_
  show AW _ true 2 27 617 _ 27 617 79 [some (.ref 0), some (.int 4)] [] [.inr (0, [Value.ref 1, .ref 10, .ref 20, .ref 22, .ref 27, .int 0, .int 0, .int 0, .int 0, .int 0, .int 0]), .inl (2, 4, .inr (.inr (.inr (.inr (fun j => if j < 4 then some (2 + 2 * j) else none))))), .inr (1, [Value.ref 3, .int 0, .int 0, .int 50]), .inl (0, 40, .inl (fun _ => 0)), .inr (1, [Value.ref 5, .int 0, .int 0, .int 50]), .inl (0, 40, .inl (fun _ => 0)), .inr (1, [Value.ref 7, .int 0, .int 0, .int 50]), .inl (0, 40, .inl (fun _ => 0)), .inr (1, [Value.ref 9, .int 0, .int 0, .int 50]), .inl (0, 40, .inl (fun _ => 0)), .inr (2, [Value.ref 11, .ref 12, .ref 13, .ref 14, .ref 15, .int 0, .int 0, .int 0]), .inl (0, 40, .inl (fun _ => 0)), .inl (0, 40, .inl (fun _ => 0)), .inl (0, 40, .inl (fun _ => 0)), .inl (0, 40, .inl (fun _ => 0)), .inl (3, 4, .inr (.inr (.inr (.inr (fun j => if j < 4 then some (16 + j) else none))))), .inl (0, 40, .inl (fun _ => 0)), .inl (0, 40, .inl (fun _ => 0)), .inl (0, 40, .inl (fun _ => 0)), .inl (0, 40, .inl (fun _ => 0)), .inr (3, [Value.ref 21, .int 0]), .inl (0, 40, .inl (fun _ => 0)), .inr (4, [Value.ref 23, .ref 24, .ref 25, .ref 26, .int 0, .int 0, .int 0]), .inl (0, 4, .inl (fun _ => 0)), .inl (0, 4, .inl (fun _ => 0)), .inl (0, 4, .inl (fun _ => 0)), .inl (0, 4, .inl (fun _ => 0)), .inl (1, 40, .inl (fun _ => 0))]
  refine aw_aload_r dE_init_79 rfl ?_
  refine aw_bipush (v := 10) dE_init_80 (by decide) ?_
  refine aw_put fp_E_41 dE_init_82 rfl (Nat.le_of_ble_eq_true rfl) (okVi _) ?_
  show AW _ true 2 27 617 _ 27 617 85 [some (.ref 0), some (.int 4)] [] [.inr (0, [Value.ref 1, .ref 10, .ref 20, .ref 22, .ref 27, .int 10, .int 0, .int 0, .int 0, .int 0, .int 0]), .inl (2, 4, .inr (.inr (.inr (.inr (fun j => if j < 4 then some (2 + 2 * j) else none))))), .inr (1, [Value.ref 3, .int 0, .int 0, .int 50]), .inl (0, 40, .inl (fun _ => 0)), .inr (1, [Value.ref 5, .int 0, .int 0, .int 50]), .inl (0, 40, .inl (fun _ => 0)), .inr (1, [Value.ref 7, .int 0, .int 0, .int 50]), .inl (0, 40, .inl (fun _ => 0)), .inr (1, [Value.ref 9, .int 0, .int 0, .int 50]), .inl (0, 40, .inl (fun _ => 0)), .inr (2, [Value.ref 11, .ref 12, .ref 13, .ref 14, .ref 15, .int 0, .int 0, .int 0]), .inl (0, 40, .inl (fun _ => 0)), .inl (0, 40, .inl (fun _ => 0)), .inl (0, 40, .inl (fun _ => 0)), .inl (0, 40, .inl (fun _ => 0)), .inl (3, 4, .inr (.inr (.inr (.inr (fun j => if j < 4 then some (16 + j) else none))))), .inl (0, 40, .inl (fun _ => 0)), .inl (0, 40, .inl (fun _ => 0)), .inl (0, 40, .inl (fun _ => 0)), .inl (0, 40, .inl (fun _ => 0)), .inr (3, [Value.ref 21, .int 0]), .inl (0, 40, .inl (fun _ => 0)), .inr (4, [Value.ref 23, .ref 24, .ref 25, .ref 26, .int 0, .int 0, .int 0]), .inl (0, 4, .inl (fun _ => 0)), .inl (0, 4, .inl (fun _ => 0)), .inl (0, 4, .inl (fun _ => 0)), .inl (0, 4, .inl (fun _ => 0)), .inl (1, 40, .inl (fun _ => 0))]
  refine aw_aload_r dE_init_85 rfl ?_
  refine aw_iconst (v := 0) dE_init_86 (by decide) ?_
  refine aw_put fp_E_45 dE_init_87 rfl (Nat.le_of_ble_eq_true rfl) (okVi _) ?_
  show AW _ true 2 27 617 _ 27 617 90 [some (.ref 0), some (.int 4)] [] [.inr (0, [Value.ref 1, .ref 10, .ref 20, .ref 22, .ref 27, .int 10, .int 0, .int 0, .int 0, .int 0, .int 0]), .inl (2, 4, .inr (.inr (.inr (.inr (fun j => if j < 4 then some (2 + 2 * j) else none))))), .inr (1, [Value.ref 3, .int 0, .int 0, .int 50]), .inl (0, 40, .inl (fun _ => 0)), .inr (1, [Value.ref 5, .int 0, .int 0, .int 50]), .inl (0, 40, .inl (fun _ => 0)), .inr (1, [Value.ref 7, .int 0, .int 0, .int 50]), .inl (0, 40, .inl (fun _ => 0)), .inr (1, [Value.ref 9, .int 0, .int 0, .int 50]), .inl (0, 40, .inl (fun _ => 0)), .inr (2, [Value.ref 11, .ref 12, .ref 13, .ref 14, .ref 15, .int 0, .int 0, .int 0]), .inl (0, 40, .inl (fun _ => 0)), .inl (0, 40, .inl (fun _ => 0)), .inl (0, 40, .inl (fun _ => 0)), .inl (0, 40, .inl (fun _ => 0)), .inl (3, 4, .inr (.inr (.inr (.inr (fun j => if j < 4 then some (16 + j) else none))))), .inl (0, 40, .inl (fun _ => 0)), .inl (0, 40, .inl (fun _ => 0)), .inl (0, 40, .inl (fun _ => 0)), .inl (0, 40, .inl (fun _ => 0)), .inr (3, [Value.ref 21, .int 0]), .inl (0, 40, .inl (fun _ => 0)), .inr (4, [Value.ref 23, .ref 24, .ref 25, .ref 26, .int 0, .int 0, .int 0]), .inl (0, 4, .inl (fun _ => 0)), .inl (0, 4, .inl (fun _ => 0)), .inl (0, 4, .inl (fun _ => 0)), .inl (0, 4, .inl (fun _ => 0)), .inl (1, 40, .inl (fun _ => 0))]
  refine aw_aload_r dE_init_90 rfl ?_
  refine aw_iconst (v := 3) dE_init_91 (by decide) ?_
  refine aw_put fp_E_48 dE_init_92 rfl (Nat.le_of_ble_eq_true rfl) (okVi _) ?_
  show AW _ true 2 27 617 _ 27 617 95 [some (.ref 0), some (.int 4)] [] [.inr (0, [Value.ref 1, .ref 10, .ref 20, .ref 22, .ref 27, .int 10, .int 0, .int 3, .int 0, .int 0, .int 0]), .inl (2, 4, .inr (.inr (.inr (.inr (fun j => if j < 4 then some (2 + 2 * j) else none))))), .inr (1, [Value.ref 3, .int 0, .int 0, .int 50]), .inl (0, 40, .inl (fun _ => 0)), .inr (1, [Value.ref 5, .int 0, .int 0, .int 50]), .inl (0, 40, .inl (fun _ => 0)), .inr (1, [Value.ref 7, .int 0, .int 0, .int 50]), .inl (0, 40, .inl (fun _ => 0)), .inr (1, [Value.ref 9, .int 0, .int 0, .int 50]), .inl (0, 40, .inl (fun _ => 0)), .inr (2, [Value.ref 11, .ref 12, .ref 13, .ref 14, .ref 15, .int 0, .int 0, .int 0]), .inl (0, 40, .inl (fun _ => 0)), .inl (0, 40, .inl (fun _ => 0)), .inl (0, 40, .inl (fun _ => 0)), .inl (0, 40, .inl (fun _ => 0)), .inl (3, 4, .inr (.inr (.inr (.inr (fun j => if j < 4 then some (16 + j) else none))))), .inl (0, 40, .inl (fun _ => 0)), .inl (0, 40, .inl (fun _ => 0)), .inl (0, 40, .inl (fun _ => 0)), .inl (0, 40, .inl (fun _ => 0)), .inr (3, [Value.ref 21, .int 0]), .inl (0, 40, .inl (fun _ => 0)), .inr (4, [Value.ref 23, .ref 24, .ref 25, .ref 26, .int 0, .int 0, .int 0]), .inl (0, 4, .inl (fun _ => 0)), .inl (0, 4, .inl (fun _ => 0)), .inl (0, 4, .inl (fun _ => 0)), .inl (0, 4, .inl (fun _ => 0)), .inl (1, 40, .inl (fun _ => 0))]
  refine aw_aload_r dE_init_95 rfl ?_
  refine aw_iconst (v := 1) dE_init_96 (by decide) ?_
  refine aw_put fp_E_51 dE_init_97 rfl (Nat.le_of_ble_eq_true rfl) (okVi _) ?_
  show AW _ true 2 27 617 _ 27 617 100 [some (.ref 0), some (.int 4)] [] [.inr (0, [Value.ref 1, .ref 10, .ref 20, .ref 22, .ref 27, .int 10, .int 0, .int 3, .int 1, .int 0, .int 0]), .inl (2, 4, .inr (.inr (.inr (.inr (fun j => if j < 4 then some (2 + 2 * j) else none))))), .inr (1, [Value.ref 3, .int 0, .int 0, .int 50]), .inl (0, 40, .inl (fun _ => 0)), .inr (1, [Value.ref 5, .int 0, .int 0, .int 50]), .inl (0, 40, .inl (fun _ => 0)), .inr (1, [Value.ref 7, .int 0, .int 0, .int 50]), .inl (0, 40, .inl (fun _ => 0)), .inr (1, [Value.ref 9, .int 0, .int 0, .int 50]), .inl (0, 40, .inl (fun _ => 0)), .inr (2, [Value.ref 11, .ref 12, .ref 13, .ref 14, .ref 15, .int 0, .int 0, .int 0]), .inl (0, 40, .inl (fun _ => 0)), .inl (0, 40, .inl (fun _ => 0)), .inl (0, 40, .inl (fun _ => 0)), .inl (0, 40, .inl (fun _ => 0)), .inl (3, 4, .inr (.inr (.inr (.inr (fun j => if j < 4 then some (16 + j) else none))))), .inl (0, 40, .inl (fun _ => 0)), .inl (0, 40, .inl (fun _ => 0)), .inl (0, 40, .inl (fun _ => 0)), .inl (0, 40, .inl (fun _ => 0)), .inr (3, [Value.ref 21, .int 0]), .inl (0, 40, .inl (fun _ => 0)), .inr (4, [Value.ref 23, .ref 24, .ref 25, .ref 26, .int 0, .int 0, .int 0]), .inl (0, 4, .inl (fun _ => 0)), .inl (0, 4, .inl (fun _ => 0)), .inl (0, 4, .inl (fun _ => 0)), .inl (0, 4, .inl (fun _ => 0)), .inl (1, 40, .inl (fun _ => 0))]
  refine aw_aload_r dE_init_100 rfl ?_
  refine aw_iconst (v := (-1)) dE_init_101 (by decide) ?_
  refine aw_put fp_E_54 dE_init_102 rfl (Nat.le_of_ble_eq_true rfl) (okVi _) ?_
  show AW _ true 2 27 617 _ 27 617 105 [some (.ref 0), some (.int 4)] [] [.inr (0, [Value.ref 1, .ref 10, .ref 20, .ref 22, .ref 27, .int 10, .int 0, .int 3, .int 1, .int (-1), .int 0]), .inl (2, 4, .inr (.inr (.inr (.inr (fun j => if j < 4 then some (2 + 2 * j) else none))))), .inr (1, [Value.ref 3, .int 0, .int 0, .int 50]), .inl (0, 40, .inl (fun _ => 0)), .inr (1, [Value.ref 5, .int 0, .int 0, .int 50]), .inl (0, 40, .inl (fun _ => 0)), .inr (1, [Value.ref 7, .int 0, .int 0, .int 50]), .inl (0, 40, .inl (fun _ => 0)), .inr (1, [Value.ref 9, .int 0, .int 0, .int 50]), .inl (0, 40, .inl (fun _ => 0)), .inr (2, [Value.ref 11, .ref 12, .ref 13, .ref 14, .ref 15, .int 0, .int 0, .int 0]), .inl (0, 40, .inl (fun _ => 0)), .inl (0, 40, .inl (fun _ => 0)), .inl (0, 40, .inl (fun _ => 0)), .inl (0, 40, .inl (fun _ => 0)), .inl (3, 4, .inr (.inr (.inr (.inr (fun j => if j < 4 then some (16 + j) else none))))), .inl (0, 40, .inl (fun _ => 0)), .inl (0, 40, .inl (fun _ => 0)), .inl (0, 40, .inl (fun _ => 0)), .inl (0, 40, .inl (fun _ => 0)), .inr (3, [Value.ref 21, .int 0]), .inl (0, 40, .inl (fun _ => 0)), .inr (4, [Value.ref 23, .ref 24, .ref 25, .ref 26, .int 0, .int 0, .int 0]), .inl (0, 4, .inl (fun _ => 0)), .inl (0, 4, .inl (fun _ => 0)), .inl (0, 4, .inl (fun _ => 0)), .inl (0, 4, .inl (fun _ => 0)), .inl (1, 40, .inl (fun _ => 0))]
  refine aw_aload_r dE_init_105 rfl ?_
  refine aw_iconst (v := 0) dE_init_106 (by decide) ?_
  refine aw_put fp_E_57 dE_init_107 rfl (Nat.le_of_ble_eq_true rfl) (okVi _) ?_
  show AW _ true 2 27 617 _ 27 617 110 [some (.ref 0), some (.int 4)] [] [.inr (0, [Value.ref 1, .ref 10, .ref 20, .ref 22, .ref 27, .int 10, .int 0, .int 3, .int 1, .int (-1), .int 0]), .inl (2, 4, .inr (.inr (.inr (.inr (fun j => if j < 4 then some (2 + 2 * j) else none))))), .inr (1, [Value.ref 3, .int 0, .int 0, .int 50]), .inl (0, 40, .inl (fun _ => 0)), .inr (1, [Value.ref 5, .int 0, .int 0, .int 50]), .inl (0, 40, .inl (fun _ => 0)), .inr (1, [Value.ref 7, .int 0, .int 0, .int 50]), .inl (0, 40, .inl (fun _ => 0)), .inr (1, [Value.ref 9, .int 0, .int 0, .int 50]), .inl (0, 40, .inl (fun _ => 0)), .inr (2, [Value.ref 11, .ref 12, .ref 13, .ref 14, .ref 15, .int 0, .int 0, .int 0]), .inl (0, 40, .inl (fun _ => 0)), .inl (0, 40, .inl (fun _ => 0)), .inl (0, 40, .inl (fun _ => 0)), .inl (0, 40, .inl (fun _ => 0)), .inl (3, 4, .inr (.inr (.inr (.inr (fun j => if j < 4 then some (16 + j) else none))))), .inl (0, 40, .inl (fun _ => 0)), .inl (0, 40, .inl (fun _ => 0)), .inl (0, 40, .inl (fun _ => 0)), .inl (0, 40, .inl (fun _ => 0)), .inr (3, [Value.ref 21, .int 0]), .inl (0, 40, .inl (fun _ => 0)), .inr (4, [Value.ref 23, .ref 24, .ref 25, .ref 26, .int 0, .int 0, .int 0]), .inl (0, 4, .inl (fun _ => 0)), .inl (0, 4, .inl (fun _ => 0)), .inl (0, 4, .inl (fun _ => 0)), .inl (0, 4, .inl (fun _ => 0)), .inl (1, 40, .inl (fun _ => 0))]
  exact aw_vret rfl dE_init_110 ⟨rfl, rfl⟩

set_option maxHeartbeats 4000000 in
set_option maxRecDepth 100000 in
theorem c_T_init : AMet kT_init true 1 16 668 [.ref 0] [.inr (5, [Value.null, .null, .null, .null, .int 0, .int 0, .int 0, .null, .null, .int 0, .int 0, .null, .null, .null, .int 0, .null, .int 0, .null, .int 0, .int 0, .int 0, .int 0, .int 0, .null, .null, .null, .null, .null])] (fun v h' => v = none ∧ h' = hT J_0 B_0) := by
  refine AMet.of (by decide) (by simp [Value.category]) (Nat.le_of_ble_eq_true rfl) ?_
  show AW _ true 1 16 668 _ 0 0 0 [some (.ref 0)] [] [.inr (5, [Value.null, .null, .null, .null, .int 0, .int 0, .int 0, .null, .null, .int 0, .int 0, .null, .null, .null, .int 0, .null, .int 0, .null, .int 0, .int 0, .int 0, .int 0, .int 0, .null, .null, .null, .null, .null])]
  refine aw_aload_r dT_init_0 rfl ?_
  refine aw_obj cg_T_1 dT_init_1 (Nat.le_of_ble_eq_true rfl) (Nat.le_of_ble_eq_true rfl) ?_
  refine aw_aload_r dT_init_4 rfl ?_
  refine aw_iconst (v := 4) dT_init_5 (by decide) ?_
  refine aw_newi (N := 4) dT_init_6 (by decide) (by decide) (by decide) ⟨(Nat.le_of_ble_eq_true rfl), (Nat.le_of_ble_eq_true rfl)⟩ ?_
  show AW _ true 1 16 668 _ 1 4 8 [some (.ref 0)] [.ref 1, .ref 0] [.inr (5, [Value.null, .null, .null, .null, .int 0, .int 0, .int 0, .null, .null, .int 0, .int 0, .null, .null, .null, .int 0, .null, .int 0, .null, .int 0, .int 0, .int 0, .int 0, .int 0, .null, .null, .null, .null, .null]), .inl (0, 4, .inl (fun _ => 0))]
  refine aw_putF fp_T_7 rfl dT_init_8 rfl (Nat.le_of_ble_eq_true rfl) (fun _ => ⟨rfl, rfl⟩) ?_
  show AW _ true 1 16 668 _ 1 4 11 [some (.ref 0)] [] [.inr (5, [Value.ref 1, .null, .null, .null, .int 0, .int 0, .int 0, .null, .null, .int 0, .int 0, .null, .null, .null, .int 0, .null, .int 0, .null, .int 0, .int 0, .int 0, .int 0, .int 0, .null, .null, .null, .null, .null]), .inl (0, 4, .inl (fun _ => 0))]
  refine aw_aload_r dT_init_11 rfl ?_
  refine aw_sipush (v := 160) dT_init_12 (by decide) ?_
  refine aw_newi (N := 160) dT_init_15 (by decide) (by decide) (by decide) ⟨(Nat.le_of_ble_eq_true rfl), (Nat.le_of_ble_eq_true rfl)⟩ ?_
  show AW _ true 1 16 668 _ 2 164 17 [some (.ref 0)] [.ref 2, .ref 0] [.inr (5, [Value.ref 1, .null, .null, .null, .int 0, .int 0, .int 0, .null, .null, .int 0, .int 0, .null, .null, .null, .int 0, .null, .int 0, .null, .int 0, .int 0, .int 0, .int 0, .int 0, .null, .null, .null, .null, .null]), .inl (0, 4, .inl (fun _ => 0)), .inl (0, 160, .inl (fun _ => 0))]
  refine aw_putF fp_T_13 rfl dT_init_17 rfl (Nat.le_of_ble_eq_true rfl) (fun _ => ⟨rfl, rfl⟩) ?_
  show AW _ true 1 16 668 _ 2 164 20 [some (.ref 0)] [] [.inr (5, [Value.ref 1, .ref 2, .null, .null, .int 0, .int 0, .int 0, .null, .null, .int 0, .int 0, .null, .null, .null, .int 0, .null, .int 0, .null, .int 0, .int 0, .int 0, .int 0, .int 0, .null, .null, .null, .null, .null]), .inl (0, 4, .inl (fun _ => 0)), .inl (0, 160, .inl (fun _ => 0))]
  refine aw_aload_r dT_init_20 rfl ?_
  refine aw_iconst (v := 4) dT_init_21 (by decide) ?_
  refine aw_newi (N := 4) dT_init_22 (by decide) (by decide) (by decide) ⟨(Nat.le_of_ble_eq_true rfl), (Nat.le_of_ble_eq_true rfl)⟩ ?_
  show AW _ true 1 16 668 _ 3 168 24 [some (.ref 0)] [.ref 3, .ref 0] [.inr (5, [Value.ref 1, .ref 2, .null, .null, .int 0, .int 0, .int 0, .null, .null, .int 0, .int 0, .null, .null, .null, .int 0, .null, .int 0, .null, .int 0, .int 0, .int 0, .int 0, .int 0, .null, .null, .null, .null, .null]), .inl (0, 4, .inl (fun _ => 0)), .inl (0, 160, .inl (fun _ => 0)), .inl (0, 4, .inl (fun _ => 0))]
  refine aw_putF fp_T_16 rfl dT_init_24 rfl (Nat.le_of_ble_eq_true rfl) (fun _ => ⟨rfl, rfl⟩) ?_
  show AW _ true 1 16 668 _ 3 168 27 [some (.ref 0)] [] [.inr (5, [Value.ref 1, .ref 2, .ref 3, .null, .int 0, .int 0, .int 0, .null, .null, .int 0, .int 0, .null, .null, .null, .int 0, .null, .int 0, .null, .int 0, .int 0, .int 0, .int 0, .int 0, .null, .null, .null, .null, .null]), .inl (0, 4, .inl (fun _ => 0)), .inl (0, 160, .inl (fun _ => 0)), .inl (0, 4, .inl (fun _ => 0))]
  refine aw_aload_r dT_init_27 rfl ?_
  refine aw_iconst (v := 4) dT_init_28 (by decide) ?_
  refine aw_newi (N := 4) dT_init_29 (by decide) (by decide) (by decide) ⟨(Nat.le_of_ble_eq_true rfl), (Nat.le_of_ble_eq_true rfl)⟩ ?_
  show AW _ true 1 16 668 _ 4 172 31 [some (.ref 0)] [.ref 4, .ref 0] [.inr (5, [Value.ref 1, .ref 2, .ref 3, .null, .int 0, .int 0, .int 0, .null, .null, .int 0, .int 0, .null, .null, .null, .int 0, .null, .int 0, .null, .int 0, .int 0, .int 0, .int 0, .int 0, .null, .null, .null, .null, .null]), .inl (0, 4, .inl (fun _ => 0)), .inl (0, 160, .inl (fun _ => 0)), .inl (0, 4, .inl (fun _ => 0)), .inl (0, 4, .inl (fun _ => 0))]
  refine aw_dup dT_init_31 rfl ?_
  refine aw_iconst (v := 0) dT_init_32 (by decide) ?_
  refine aw_bipush (v := 50) dT_init_33 (by decide) ?_
  refine aw_iast dT_init_35 rfl (by unfold vp_in; decide) ?_
  show AW _ true 1 16 668 _ 4 172 36 [some (.ref 0)] [.ref 4, .ref 0] [.inr (5, [Value.ref 1, .ref 2, .ref 3, .null, .int 0, .int 0, .int 0, .null, .null, .int 0, .int 0, .null, .null, .null, .int 0, .null, .int 0, .null, .int 0, .int 0, .int 0, .int 0, .int 0, .null, .null, .null, .null, .null]), .inl (0, 4, .inl (fun _ => 0)), .inl (0, 160, .inl (fun _ => 0)), .inl (0, 4, .inl (fun _ => 0)), .inl (0, 4, .inl (upd (fun _ => 0) 0 50))]
  refine aw_dup dT_init_36 rfl ?_
  refine aw_iconst (v := 1) dT_init_37 (by decide) ?_
  refine aw_bipush (v := 50) dT_init_38 (by decide) ?_
  refine aw_iast dT_init_40 rfl (by unfold vp_in; decide) ?_
  show AW _ true 1 16 668 _ 4 172 41 [some (.ref 0)] [.ref 4, .ref 0] [.inr (5, [Value.ref 1, .ref 2, .ref 3, .null, .int 0, .int 0, .int 0, .null, .null, .int 0, .int 0, .null, .null, .null, .int 0, .null, .int 0, .null, .int 0, .int 0, .int 0, .int 0, .int 0, .null, .null, .null, .null, .null]), .inl (0, 4, .inl (fun _ => 0)), .inl (0, 160, .inl (fun _ => 0)), .inl (0, 4, .inl (fun _ => 0)), .inl (0, 4, .inl (upd (upd (fun _ => 0) 0 50) 1 50))]
  refine aw_dup dT_init_41 rfl ?_
  refine aw_iconst (v := 2) dT_init_42 (by decide) ?_
  refine aw_bipush (v := 50) dT_init_43 (by decide) ?_
  refine aw_iast dT_init_45 rfl (by unfold vp_in; decide) ?_
  show AW _ true 1 16 668 _ 4 172 46 [some (.ref 0)] [.ref 4, .ref 0] [.inr (5, [Value.ref 1, .ref 2, .ref 3, .null, .int 0, .int 0, .int 0, .null, .null, .int 0, .int 0, .null, .null, .null, .int 0, .null, .int 0, .null, .int 0, .int 0, .int 0, .int 0, .int 0, .null, .null, .null, .null, .null]), .inl (0, 4, .inl (fun _ => 0)), .inl (0, 160, .inl (fun _ => 0)), .inl (0, 4, .inl (fun _ => 0)), .inl (0, 4, .inl (upd (upd (upd (fun _ => 0) 0 50) 1 50) 2 50))]
  refine aw_dup dT_init_46 rfl ?_
  refine aw_iconst (v := 3) dT_init_47 (by decide) ?_
  refine aw_bipush (v := 50) dT_init_48 (by decide) ?_
  refine aw_iast dT_init_50 rfl (by unfold vp_in; decide) ?_
  show AW _ true 1 16 668 _ 4 172 51 [some (.ref 0)] [.ref 4, .ref 0] [.inr (5, [Value.ref 1, .ref 2, .ref 3, .null, .int 0, .int 0, .int 0, .null, .null, .int 0, .int 0, .null, .null, .null, .int 0, .null, .int 0, .null, .int 0, .int 0, .int 0, .int 0, .int 0, .null, .null, .null, .null, .null]), .inl (0, 4, .inl (fun _ => 0)), .inl (0, 160, .inl (fun _ => 0)), .inl (0, 4, .inl (fun _ => 0)), .inl (0, 4, .inl (upd (upd (upd (upd (fun _ => 0) 0 50) 1 50) 2 50) 3 50))]
  refine aw_putF fp_T_19 rfl dT_init_51 rfl (Nat.le_of_ble_eq_true rfl) (fun _ => ⟨rfl, rfl⟩) ?_
  show AW _ true 1 16 668 _ 4 172 54 [some (.ref 0)] [] [.inr (5, [Value.ref 1, .ref 2, .ref 3, .ref 4, .int 0, .int 0, .int 0, .null, .null, .int 0, .int 0, .null, .null, .null, .int 0, .null, .int 0, .null, .int 0, .int 0, .int 0, .int 0, .int 0, .null, .null, .null, .null, .null]), .inl (0, 4, .inl (fun _ => 0)), .inl (0, 160, .inl (fun _ => 0)), .inl (0, 4, .inl (fun _ => 0)), .inl (0, 4, .inl (upd (upd (upd (upd (fun _ => 0) 0 50) 1 50) 2 50) 3 50))]
  refine aw_aload_r dT_init_54 rfl ?_
  refine aw_bipush (v := 10) dT_init_55 (by decide) ?_
  refine aw_put fp_T_22 dT_init_57 rfl (Nat.le_of_ble_eq_true rfl) (okVi _) ?_
  show AW _ true 1 16 668 _ 4 172 60 [some (.ref 0)] [] [.inr (5, [Value.ref 1, .ref 2, .ref 3, .ref 4, .int 10, .int 0, .int 0, .null, .null, .int 0, .int 0, .null, .null, .null, .int 0, .null, .int 0, .null, .int 0, .int 0, .int 0, .int 0, .int 0, .null, .null, .null, .null, .null]), .inl (0, 4, .inl (fun _ => 0)), .inl (0, 160, .inl (fun _ => 0)), .inl (0, 4, .inl (fun _ => 0)), .inl (0, 4, .inl (upd (upd (upd (upd (fun _ => 0) 0 50) 1 50) 2 50) 3 50))]
  refine aw_aload_r dT_init_60 rfl ?_
  refine aw_iconst (v := (-1)) dT_init_61 (by decide) ?_
  refine aw_put fp_T_26 dT_init_62 rfl (Nat.le_of_ble_eq_true rfl) (okVi _) ?_
  show AW _ true 1 16 668 _ 4 172 65 [some (.ref 0)] [] [.inr (5, [Value.ref 1, .ref 2, .ref 3, .ref 4, .int 10, .int (-1), .int 0, .null, .null, .int 0, .int 0, .null, .null, .null, .int 0, .null, .int 0, .null, .int 0, .int 0, .int 0, .int 0, .int 0, .null, .null, .null, .null, .null]), .inl (0, 4, .inl (fun _ => 0)), .inl (0, 160, .inl (fun _ => 0)), .inl (0, 4, .inl (fun _ => 0)), .inl (0, 4, .inl (upd (upd (upd (upd (fun _ => 0) 0 50) 1 50) 2 50) 3 50))]
  refine aw_aload_r dT_init_65 rfl ?_
  refine aw_bipush (v := 40) dT_init_66 (by decide) ?_
  refine aw_newi (N := 40) dT_init_68 (by decide) (by decide) (by decide) ⟨(Nat.le_of_ble_eq_true rfl), (Nat.le_of_ble_eq_true rfl)⟩ ?_
  show AW _ true 1 16 668 _ 5 212 70 [some (.ref 0)] [.ref 5, .ref 0] [.inr (5, [Value.ref 1, .ref 2, .ref 3, .ref 4, .int 10, .int (-1), .int 0, .null, .null, .int 0, .int 0, .null, .null, .null, .int 0, .null, .int 0, .null, .int 0, .int 0, .int 0, .int 0, .int 0, .null, .null, .null, .null, .null]), .inl (0, 4, .inl (fun _ => 0)), .inl (0, 160, .inl (fun _ => 0)), .inl (0, 4, .inl (fun _ => 0)), .inl (0, 4, .inl (upd (upd (upd (upd (fun _ => 0) 0 50) 1 50) 2 50) 3 50)), .inl (0, 40, .inl (fun _ => 0))]
  refine aw_putF fp_T_29 rfl dT_init_70 rfl (Nat.le_of_ble_eq_true rfl) (fun _ => ⟨rfl, rfl⟩) ?_
  show AW _ true 1 16 668 _ 5 212 73 [some (.ref 0)] [] [.inr (5, [Value.ref 1, .ref 2, .ref 3, .ref 4, .int 10, .int (-1), .int 0, .ref 5, .null, .int 0, .int 0, .null, .null, .null, .int 0, .null, .int 0, .null, .int 0, .int 0, .int 0, .int 0, .int 0, .null, .null, .null, .null, .null]), .inl (0, 4, .inl (fun _ => 0)), .inl (0, 160, .inl (fun _ => 0)), .inl (0, 4, .inl (fun _ => 0)), .inl (0, 4, .inl (upd (upd (upd (upd (fun _ => 0) 0 50) 1 50) 2 50) 3 50)), .inl (0, 40, .inl (fun _ => 0))]
  refine aw_aload_r dT_init_73 rfl ?_
  refine aw_sipush (v := 164) dT_init_74 (by decide) ?_
  refine aw_newi (N := 164) dT_init_77 (by decide) (by decide) (by decide) ⟨(Nat.le_of_ble_eq_true rfl), (Nat.le_of_ble_eq_true rfl)⟩ ?_
  show AW _ true 1 16 668 _ 6 376 79 [some (.ref 0)] [.ref 6, .ref 0] [.inr (5, [Value.ref 1, .ref 2, .ref 3, .ref 4, .int 10, .int (-1), .int 0, .ref 5, .null, .int 0, .int 0, .null, .null, .null, .int 0, .null, .int 0, .null, .int 0, .int 0, .int 0, .int 0, .int 0, .null, .null, .null, .null, .null]), .inl (0, 4, .inl (fun _ => 0)), .inl (0, 160, .inl (fun _ => 0)), .inl (0, 4, .inl (fun _ => 0)), .inl (0, 4, .inl (upd (upd (upd (upd (fun _ => 0) 0 50) 1 50) 2 50) 3 50)), .inl (0, 40, .inl (fun _ => 0)), .inl (0, 164, .inl (fun _ => 0))]
  refine aw_putF fp_T_32 rfl dT_init_79 rfl (Nat.le_of_ble_eq_true rfl) (fun _ => ⟨rfl, rfl⟩) ?_
  show AW _ true 1 16 668 _ 6 376 82 [some (.ref 0)] [] [.inr (5, [Value.ref 1, .ref 2, .ref 3, .ref 4, .int 10, .int (-1), .int 0, .ref 5, .ref 6, .int 0, .int 0, .null, .null, .null, .int 0, .null, .int 0, .null, .int 0, .int 0, .int 0, .int 0, .int 0, .null, .null, .null, .null, .null]), .inl (0, 4, .inl (fun _ => 0)), .inl (0, 160, .inl (fun _ => 0)), .inl (0, 4, .inl (fun _ => 0)), .inl (0, 4, .inl (upd (upd (upd (upd (fun _ => 0) 0 50) 1 50) 2 50) 3 50)), .inl (0, 40, .inl (fun _ => 0)), .inl (0, 164, .inl (fun _ => 0))]
  refine aw_aload_r dT_init_82 rfl ?_
  refine aw_bipush (v := 40) dT_init_83 (by decide) ?_
  refine aw_newi (N := 40) dT_init_85 (by decide) (by decide) (by decide) ⟨(Nat.le_of_ble_eq_true rfl), (Nat.le_of_ble_eq_true rfl)⟩ ?_
  show AW _ true 1 16 668 _ 7 416 87 [some (.ref 0)] [.ref 7, .ref 0] [.inr (5, [Value.ref 1, .ref 2, .ref 3, .ref 4, .int 10, .int (-1), .int 0, .ref 5, .ref 6, .int 0, .int 0, .null, .null, .null, .int 0, .null, .int 0, .null, .int 0, .int 0, .int 0, .int 0, .int 0, .null, .null, .null, .null, .null]), .inl (0, 4, .inl (fun _ => 0)), .inl (0, 160, .inl (fun _ => 0)), .inl (0, 4, .inl (fun _ => 0)), .inl (0, 4, .inl (upd (upd (upd (upd (fun _ => 0) 0 50) 1 50) 2 50) 3 50)), .inl (0, 40, .inl (fun _ => 0)), .inl (0, 164, .inl (fun _ => 0)), .inl (0, 40, .inl (fun _ => 0))]
  refine aw_putF fp_T_35 rfl dT_init_87 rfl (Nat.le_of_ble_eq_true rfl) (fun _ => ⟨rfl, rfl⟩) ?_
  show AW _ true 1 16 668 _ 7 416 90 [some (.ref 0)] [] [.inr (5, [Value.ref 1, .ref 2, .ref 3, .ref 4, .int 10, .int (-1), .int 0, .ref 5, .ref 6, .int 0, .int 0, .ref 7, .null, .null, .int 0, .null, .int 0, .null, .int 0, .int 0, .int 0, .int 0, .int 0, .null, .null, .null, .null, .null]), .inl (0, 4, .inl (fun _ => 0)), .inl (0, 160, .inl (fun _ => 0)), .inl (0, 4, .inl (fun _ => 0)), .inl (0, 4, .inl (upd (upd (upd (upd (fun _ => 0) 0 50) 1 50) 2 50) 3 50)), .inl (0, 40, .inl (fun _ => 0)), .inl (0, 164, .inl (fun _ => 0)), .inl (0, 40, .inl (fun _ => 0))]
  refine aw_aload_r dT_init_90 rfl ?_
  refine aw_bipush (v := 40) dT_init_91 (by decide) ?_
  refine aw_newi (N := 40) dT_init_93 (by decide) (by decide) (by decide) ⟨(Nat.le_of_ble_eq_true rfl), (Nat.le_of_ble_eq_true rfl)⟩ ?_
  show AW _ true 1 16 668 _ 8 456 95 [some (.ref 0)] [.ref 8, .ref 0] [.inr (5, [Value.ref 1, .ref 2, .ref 3, .ref 4, .int 10, .int (-1), .int 0, .ref 5, .ref 6, .int 0, .int 0, .ref 7, .null, .null, .int 0, .null, .int 0, .null, .int 0, .int 0, .int 0, .int 0, .int 0, .null, .null, .null, .null, .null]), .inl (0, 4, .inl (fun _ => 0)), .inl (0, 160, .inl (fun _ => 0)), .inl (0, 4, .inl (fun _ => 0)), .inl (0, 4, .inl (upd (upd (upd (upd (fun _ => 0) 0 50) 1 50) 2 50) 3 50)), .inl (0, 40, .inl (fun _ => 0)), .inl (0, 164, .inl (fun _ => 0)), .inl (0, 40, .inl (fun _ => 0)), .inl (0, 40, .inl (fun _ => 0))]
  refine aw_putF fp_T_38 rfl dT_init_95 rfl (Nat.le_of_ble_eq_true rfl) (fun _ => ⟨rfl, rfl⟩) ?_
  show AW _ true 1 16 668 _ 8 456 98 [some (.ref 0)] [] [.inr (5, [Value.ref 1, .ref 2, .ref 3, .ref 4, .int 10, .int (-1), .int 0, .ref 5, .ref 6, .int 0, .int 0, .ref 7, .ref 8, .null, .int 0, .null, .int 0, .null, .int 0, .int 0, .int 0, .int 0, .int 0, .null, .null, .null, .null, .null]), .inl (0, 4, .inl (fun _ => 0)), .inl (0, 160, .inl (fun _ => 0)), .inl (0, 4, .inl (fun _ => 0)), .inl (0, 4, .inl (upd (upd (upd (upd (fun _ => 0) 0 50) 1 50) 2 50) 3 50)), .inl (0, 40, .inl (fun _ => 0)), .inl (0, 164, .inl (fun _ => 0)), .inl (0, 40, .inl (fun _ => 0)), .inl (0, 40, .inl (fun _ => 0))]
  refine aw_aload_r dT_init_98 rfl ?_
  refine aw_bipush (v := 40) dT_init_99 (by decide) ?_
  refine aw_newi (N := 40) dT_init_101 (by decide) (by decide) (by decide) ⟨(Nat.le_of_ble_eq_true rfl), (Nat.le_of_ble_eq_true rfl)⟩ ?_
  show AW _ true 1 16 668 _ 9 496 103 [some (.ref 0)] [.ref 9, .ref 0] [.inr (5, [Value.ref 1, .ref 2, .ref 3, .ref 4, .int 10, .int (-1), .int 0, .ref 5, .ref 6, .int 0, .int 0, .ref 7, .ref 8, .null, .int 0, .null, .int 0, .null, .int 0, .int 0, .int 0, .int 0, .int 0, .null, .null, .null, .null, .null]), .inl (0, 4, .inl (fun _ => 0)), .inl (0, 160, .inl (fun _ => 0)), .inl (0, 4, .inl (fun _ => 0)), .inl (0, 4, .inl (upd (upd (upd (upd (fun _ => 0) 0 50) 1 50) 2 50) 3 50)), .inl (0, 40, .inl (fun _ => 0)), .inl (0, 164, .inl (fun _ => 0)), .inl (0, 40, .inl (fun _ => 0)), .inl (0, 40, .inl (fun _ => 0)), .inl (0, 40, .inl (fun _ => 0))]
  refine aw_putF fp_T_41 rfl dT_init_103 rfl (Nat.le_of_ble_eq_true rfl) (fun _ => ⟨rfl, rfl⟩) ?_
  show AW _ true 1 16 668 _ 9 496 106 [some (.ref 0)] [] [.inr (5, [Value.ref 1, .ref 2, .ref 3, .ref 4, .int 10, .int (-1), .int 0, .ref 5, .ref 6, .int 0, .int 0, .ref 7, .ref 8, .ref 9, .int 0, .null, .int 0, .null, .int 0, .int 0, .int 0, .int 0, .int 0, .null, .null, .null, .null, .null]), .inl (0, 4, .inl (fun _ => 0)), .inl (0, 160, .inl (fun _ => 0)), .inl (0, 4, .inl (fun _ => 0)), .inl (0, 4, .inl (upd (upd (upd (upd (fun _ => 0) 0 50) 1 50) 2 50) 3 50)), .inl (0, 40, .inl (fun _ => 0)), .inl (0, 164, .inl (fun _ => 0)), .inl (0, 40, .inl (fun _ => 0)), .inl (0, 40, .inl (fun _ => 0)), .inl (0, 40, .inl (fun _ => 0))]
  refine aw_aload_r dT_init_106 rfl ?_
  refine aw_bipush (v := 40) dT_init_107 (by decide) ?_
  refine aw_newi (N := 40) dT_init_109 (by decide) (by decide) (by decide) ⟨(Nat.le_of_ble_eq_true rfl), (Nat.le_of_ble_eq_true rfl)⟩ ?_
  show AW _ true 1 16 668 _ 10 536 111 [some (.ref 0)] [.ref 10, .ref 0] [.inr (5, [Value.ref 1, .ref 2, .ref 3, .ref 4, .int 10, .int (-1), .int 0, .ref 5, .ref 6, .int 0, .int 0, .ref 7, .ref 8, .ref 9, .int 0, .null, .int 0, .null, .int 0, .int 0, .int 0, .int 0, .int 0, .null, .null, .null, .null, .null]), .inl (0, 4, .inl (fun _ => 0)), .inl (0, 160, .inl (fun _ => 0)), .inl (0, 4, .inl (fun _ => 0)), .inl (0, 4, .inl (upd (upd (upd (upd (fun _ => 0) 0 50) 1 50) 2 50) 3 50)), .inl (0, 40, .inl (fun _ => 0)), .inl (0, 164, .inl (fun _ => 0)), .inl (0, 40, .inl (fun _ => 0)), .inl (0, 40, .inl (fun _ => 0)), .inl (0, 40, .inl (fun _ => 0)), .inl (0, 40, .inl (fun _ => 0))]
  refine aw_putF fp_T_44 rfl dT_init_111 rfl (Nat.le_of_ble_eq_true rfl) (fun _ => ⟨rfl, rfl⟩) ?_
  show AW _ true 1 16 668 _ 10 536 114 [some (.ref 0)] [] [.inr (5, [Value.ref 1, .ref 2, .ref 3, .ref 4, .int 10, .int (-1), .int 0, .ref 5, .ref 6, .int 0, .int 0, .ref 7, .ref 8, .ref 9, .int 0, .ref 10, .int 0, .null, .int 0, .int 0, .int 0, .int 0, .int 0, .null, .null, .null, .null, .null]), .inl (0, 4, .inl (fun _ => 0)), .inl (0, 160, .inl (fun _ => 0)), .inl (0, 4, .inl (fun _ => 0)), .inl (0, 4, .inl (upd (upd (upd (upd (fun _ => 0) 0 50) 1 50) 2 50) 3 50)), .inl (0, 40, .inl (fun _ => 0)), .inl (0, 164, .inl (fun _ => 0)), .inl (0, 40, .inl (fun _ => 0)), .inl (0, 40, .inl (fun _ => 0)), .inl (0, 40, .inl (fun _ => 0)), .inl (0, 40, .inl (fun _ => 0))]
  refine aw_aload_r dT_init_114 rfl ?_
  refine aw_bipush (v := 40) dT_init_115 (by decide) ?_
  refine aw_newi (N := 40) dT_init_117 (by decide) (by decide) (by decide) ⟨(Nat.le_of_ble_eq_true rfl), (Nat.le_of_ble_eq_true rfl)⟩ ?_
  show AW _ true 1 16 668 _ 11 576 119 [some (.ref 0)] [.ref 11, .ref 0] [.inr (5, [Value.ref 1, .ref 2, .ref 3, .ref 4, .int 10, .int (-1), .int 0, .ref 5, .ref 6, .int 0, .int 0, .ref 7, .ref 8, .ref 9, .int 0, .ref 10, .int 0, .null, .int 0, .int 0, .int 0, .int 0, .int 0, .null, .null, .null, .null, .null]), .inl (0, 4, .inl (fun _ => 0)), .inl (0, 160, .inl (fun _ => 0)), .inl (0, 4, .inl (fun _ => 0)), .inl (0, 4, .inl (upd (upd (upd (upd (fun _ => 0) 0 50) 1 50) 2 50) 3 50)), .inl (0, 40, .inl (fun _ => 0)), .inl (0, 164, .inl (fun _ => 0)), .inl (0, 40, .inl (fun _ => 0)), .inl (0, 40, .inl (fun _ => 0)), .inl (0, 40, .inl (fun _ => 0)), .inl (0, 40, .inl (fun _ => 0)), .inl (0, 40, .inl (fun _ => 0))]
  refine aw_putF fp_T_47 rfl dT_init_119 rfl (Nat.le_of_ble_eq_true rfl) (fun _ => ⟨rfl, rfl⟩) ?_
  show AW _ true 1 16 668 _ 11 576 122 [some (.ref 0)] [] [.inr (5, [Value.ref 1, .ref 2, .ref 3, .ref 4, .int 10, .int (-1), .int 0, .ref 5, .ref 6, .int 0, .int 0, .ref 7, .ref 8, .ref 9, .int 0, .ref 10, .int 0, .ref 11, .int 0, .int 0, .int 0, .int 0, .int 0, .null, .null, .null, .null, .null]), .inl (0, 4, .inl (fun _ => 0)), .inl (0, 160, .inl (fun _ => 0)), .inl (0, 4, .inl (fun _ => 0)), .inl (0, 4, .inl (upd (upd (upd (upd (fun _ => 0) 0 50) 1 50) 2 50) 3 50)), .inl (0, 40, .inl (fun _ => 0)), .inl (0, 164, .inl (fun _ => 0)), .inl (0, 40, .inl (fun _ => 0)), .inl (0, 40, .inl (fun _ => 0)), .inl (0, 40, .inl (fun _ => 0)), .inl (0, 40, .inl (fun _ => 0)), .inl (0, 40, .inl (fun _ => 0))]
  refine aw_aload_r dT_init_122 rfl ?_
  refine aw_iconst (v := 3) dT_init_123 (by decide) ?_
  refine aw_put fp_T_50 dT_init_124 rfl (Nat.le_of_ble_eq_true rfl) (okVi _) ?_
  show AW _ true 1 16 668 _ 11 576 127 [some (.ref 0)] [] [.inr (5, [Value.ref 1, .ref 2, .ref 3, .ref 4, .int 10, .int (-1), .int 0, .ref 5, .ref 6, .int 0, .int 0, .ref 7, .ref 8, .ref 9, .int 0, .ref 10, .int 0, .ref 11, .int 0, .int 3, .int 0, .int 0, .int 0, .null, .null, .null, .null, .null]), .inl (0, 4, .inl (fun _ => 0)), .inl (0, 160, .inl (fun _ => 0)), .inl (0, 4, .inl (fun _ => 0)), .inl (0, 4, .inl (upd (upd (upd (upd (fun _ => 0) 0 50) 1 50) 2 50) 3 50)), .inl (0, 40, .inl (fun _ => 0)), .inl (0, 164, .inl (fun _ => 0)), .inl (0, 40, .inl (fun _ => 0)), .inl (0, 40, .inl (fun _ => 0)), .inl (0, 40, .inl (fun _ => 0)), .inl (0, 40, .inl (fun _ => 0)), .inl (0, 40, .inl (fun _ => 0))]
  refine aw_aload_r dT_init_127 rfl ?_
  refine aw_iconst (v := 1) dT_init_128 (by decide) ?_
  refine aw_put fp_T_53 dT_init_129 rfl (Nat.le_of_ble_eq_true rfl) (okVi _) ?_
  show AW _ true 1 16 668 _ 11 576 132 [some (.ref 0)] [] [.inr (5, [Value.ref 1, .ref 2, .ref 3, .ref 4, .int 10, .int (-1), .int 0, .ref 5, .ref 6, .int 0, .int 0, .ref 7, .ref 8, .ref 9, .int 0, .ref 10, .int 0, .ref 11, .int 0, .int 3, .int 1, .int 0, .int 0, .null, .null, .null, .null, .null]), .inl (0, 4, .inl (fun _ => 0)), .inl (0, 160, .inl (fun _ => 0)), .inl (0, 4, .inl (fun _ => 0)), .inl (0, 4, .inl (upd (upd (upd (upd (fun _ => 0) 0 50) 1 50) 2 50) 3 50)), .inl (0, 40, .inl (fun _ => 0)), .inl (0, 164, .inl (fun _ => 0)), .inl (0, 40, .inl (fun _ => 0)), .inl (0, 40, .inl (fun _ => 0)), .inl (0, 40, .inl (fun _ => 0)), .inl (0, 40, .inl (fun _ => 0)), .inl (0, 40, .inl (fun _ => 0))]
  refine aw_aload_r dT_init_132 rfl ?_
  refine aw_iconst (v := 4) dT_init_133 (by decide) ?_
  refine aw_newi (N := 4) dT_init_134 (by decide) (by decide) (by decide) ⟨(Nat.le_of_ble_eq_true rfl), (Nat.le_of_ble_eq_true rfl)⟩ ?_
  show AW _ true 1 16 668 _ 12 580 136 [some (.ref 0)] [.ref 12, .ref 0] [.inr (5, [Value.ref 1, .ref 2, .ref 3, .ref 4, .int 10, .int (-1), .int 0, .ref 5, .ref 6, .int 0, .int 0, .ref 7, .ref 8, .ref 9, .int 0, .ref 10, .int 0, .ref 11, .int 0, .int 3, .int 1, .int 0, .int 0, .null, .null, .null, .null, .null]), .inl (0, 4, .inl (fun _ => 0)), .inl (0, 160, .inl (fun _ => 0)), .inl (0, 4, .inl (fun _ => 0)), .inl (0, 4, .inl (upd (upd (upd (upd (fun _ => 0) 0 50) 1 50) 2 50) 3 50)), .inl (0, 40, .inl (fun _ => 0)), .inl (0, 164, .inl (fun _ => 0)), .inl (0, 40, .inl (fun _ => 0)), .inl (0, 40, .inl (fun _ => 0)), .inl (0, 40, .inl (fun _ => 0)), .inl (0, 40, .inl (fun _ => 0)), .inl (0, 40, .inl (fun _ => 0)), .inl (0, 4, .inl (fun _ => 0))]
  refine aw_putF fp_T_56 rfl dT_init_136 rfl (Nat.le_of_ble_eq_true rfl) (fun _ => ⟨rfl, rfl⟩) ?_
  show AW _ true 1 16 668 _ 12 580 139 [some (.ref 0)] [] [.inr (5, [Value.ref 1, .ref 2, .ref 3, .ref 4, .int 10, .int (-1), .int 0, .ref 5, .ref 6, .int 0, .int 0, .ref 7, .ref 8, .ref 9, .int 0, .ref 10, .int 0, .ref 11, .int 0, .int 3, .int 1, .int 0, .int 0, .ref 12, .null, .null, .null, .null]), .inl (0, 4, .inl (fun _ => 0)), .inl (0, 160, .inl (fun _ => 0)), .inl (0, 4, .inl (fun _ => 0)), .inl (0, 4, .inl (upd (upd (upd (upd (fun _ => 0) 0 50) 1 50) 2 50) 3 50)), .inl (0, 40, .inl (fun _ => 0)), .inl (0, 164, .inl (fun _ => 0)), .inl (0, 40, .inl (fun _ => 0)), .inl (0, 40, .inl (fun _ => 0)), .inl (0, 40, .inl (fun _ => 0)), .inl (0, 40, .inl (fun _ => 0)), .inl (0, 40, .inl (fun _ => 0)), .inl (0, 4, .inl (fun _ => 0))]
  refine aw_aload_r dT_init_139 rfl ?_
  refine aw_iconst (v := 4) dT_init_140 (by decide) ?_
  refine aw_newi (N := 4) dT_init_141 (by decide) (by decide) (by decide) ⟨(Nat.le_of_ble_eq_true rfl), (Nat.le_of_ble_eq_true rfl)⟩ ?_
  show AW _ true 1 16 668 _ 13 584 143 [some (.ref 0)] [.ref 13, .ref 0] [.inr (5, [Value.ref 1, .ref 2, .ref 3, .ref 4, .int 10, .int (-1), .int 0, .ref 5, .ref 6, .int 0, .int 0, .ref 7, .ref 8, .ref 9, .int 0, .ref 10, .int 0, .ref 11, .int 0, .int 3, .int 1, .int 0, .int 0, .ref 12, .null, .null, .null, .null]), .inl (0, 4, .inl (fun _ => 0)), .inl (0, 160, .inl (fun _ => 0)), .inl (0, 4, .inl (fun _ => 0)), .inl (0, 4, .inl (upd (upd (upd (upd (fun _ => 0) 0 50) 1 50) 2 50) 3 50)), .inl (0, 40, .inl (fun _ => 0)), .inl (0, 164, .inl (fun _ => 0)), .inl (0, 40, .inl (fun _ => 0)), .inl (0, 40, .inl (fun _ => 0)), .inl (0, 40, .inl (fun _ => 0)), .inl (0, 40, .inl (fun _ => 0)), .inl (0, 40, .inl (fun _ => 0)), .inl (0, 4, .inl (fun _ => 0)), .inl (0, 4, .inl (fun _ => 0))]
  refine aw_putF fp_T_59 rfl dT_init_143 rfl (Nat.le_of_ble_eq_true rfl) (fun _ => ⟨rfl, rfl⟩) ?_
  show AW _ true 1 16 668 _ 13 584 146 [some (.ref 0)] [] [.inr (5, [Value.ref 1, .ref 2, .ref 3, .ref 4, .int 10, .int (-1), .int 0, .ref 5, .ref 6, .int 0, .int 0, .ref 7, .ref 8, .ref 9, .int 0, .ref 10, .int 0, .ref 11, .int 0, .int 3, .int 1, .int 0, .int 0, .ref 12, .ref 13, .null, .null, .null]), .inl (0, 4, .inl (fun _ => 0)), .inl (0, 160, .inl (fun _ => 0)), .inl (0, 4, .inl (fun _ => 0)), .inl (0, 4, .inl (upd (upd (upd (upd (fun _ => 0) 0 50) 1 50) 2 50) 3 50)), .inl (0, 40, .inl (fun _ => 0)), .inl (0, 164, .inl (fun _ => 0)), .inl (0, 40, .inl (fun _ => 0)), .inl (0, 40, .inl (fun _ => 0)), .inl (0, 40, .inl (fun _ => 0)), .inl (0, 40, .inl (fun _ => 0)), .inl (0, 40, .inl (fun _ => 0)), .inl (0, 4, .inl (fun _ => 0)), .inl (0, 4, .inl (fun _ => 0))]
  refine aw_aload_r dT_init_146 rfl ?_
  refine aw_iconst (v := 4) dT_init_147 (by decide) ?_
  refine aw_newi (N := 4) dT_init_148 (by decide) (by decide) (by decide) ⟨(Nat.le_of_ble_eq_true rfl), (Nat.le_of_ble_eq_true rfl)⟩ ?_
  show AW _ true 1 16 668 _ 14 588 150 [some (.ref 0)] [.ref 14, .ref 0] [.inr (5, [Value.ref 1, .ref 2, .ref 3, .ref 4, .int 10, .int (-1), .int 0, .ref 5, .ref 6, .int 0, .int 0, .ref 7, .ref 8, .ref 9, .int 0, .ref 10, .int 0, .ref 11, .int 0, .int 3, .int 1, .int 0, .int 0, .ref 12, .ref 13, .null, .null, .null]), .inl (0, 4, .inl (fun _ => 0)), .inl (0, 160, .inl (fun _ => 0)), .inl (0, 4, .inl (fun _ => 0)), .inl (0, 4, .inl (upd (upd (upd (upd (fun _ => 0) 0 50) 1 50) 2 50) 3 50)), .inl (0, 40, .inl (fun _ => 0)), .inl (0, 164, .inl (fun _ => 0)), .inl (0, 40, .inl (fun _ => 0)), .inl (0, 40, .inl (fun _ => 0)), .inl (0, 40, .inl (fun _ => 0)), .inl (0, 40, .inl (fun _ => 0)), .inl (0, 40, .inl (fun _ => 0)), .inl (0, 4, .inl (fun _ => 0)), .inl (0, 4, .inl (fun _ => 0)), .inl (0, 4, .inl (fun _ => 0))]
  refine aw_putF fp_T_62 rfl dT_init_150 rfl (Nat.le_of_ble_eq_true rfl) (fun _ => ⟨rfl, rfl⟩) ?_
  show AW _ true 1 16 668 _ 14 588 153 [some (.ref 0)] [] [.inr (5, [Value.ref 1, .ref 2, .ref 3, .ref 4, .int 10, .int (-1), .int 0, .ref 5, .ref 6, .int 0, .int 0, .ref 7, .ref 8, .ref 9, .int 0, .ref 10, .int 0, .ref 11, .int 0, .int 3, .int 1, .int 0, .int 0, .ref 12, .ref 13, .ref 14, .null, .null]), .inl (0, 4, .inl (fun _ => 0)), .inl (0, 160, .inl (fun _ => 0)), .inl (0, 4, .inl (fun _ => 0)), .inl (0, 4, .inl (upd (upd (upd (upd (fun _ => 0) 0 50) 1 50) 2 50) 3 50)), .inl (0, 40, .inl (fun _ => 0)), .inl (0, 164, .inl (fun _ => 0)), .inl (0, 40, .inl (fun _ => 0)), .inl (0, 40, .inl (fun _ => 0)), .inl (0, 40, .inl (fun _ => 0)), .inl (0, 40, .inl (fun _ => 0)), .inl (0, 40, .inl (fun _ => 0)), .inl (0, 4, .inl (fun _ => 0)), .inl (0, 4, .inl (fun _ => 0)), .inl (0, 4, .inl (fun _ => 0))]
  refine aw_aload_r dT_init_153 rfl ?_
  refine aw_bipush (v := 40) dT_init_154 (by decide) ?_
  refine aw_newi (N := 40) dT_init_156 (by decide) (by decide) (by decide) ⟨(Nat.le_of_ble_eq_true rfl), (Nat.le_of_ble_eq_true rfl)⟩ ?_
  show AW _ true 1 16 668 _ 15 628 158 [some (.ref 0)] [.ref 15, .ref 0] [.inr (5, [Value.ref 1, .ref 2, .ref 3, .ref 4, .int 10, .int (-1), .int 0, .ref 5, .ref 6, .int 0, .int 0, .ref 7, .ref 8, .ref 9, .int 0, .ref 10, .int 0, .ref 11, .int 0, .int 3, .int 1, .int 0, .int 0, .ref 12, .ref 13, .ref 14, .null, .null]), .inl (0, 4, .inl (fun _ => 0)), .inl (0, 160, .inl (fun _ => 0)), .inl (0, 4, .inl (fun _ => 0)), .inl (0, 4, .inl (upd (upd (upd (upd (fun _ => 0) 0 50) 1 50) 2 50) 3 50)), .inl (0, 40, .inl (fun _ => 0)), .inl (0, 164, .inl (fun _ => 0)), .inl (0, 40, .inl (fun _ => 0)), .inl (0, 40, .inl (fun _ => 0)), .inl (0, 40, .inl (fun _ => 0)), .inl (0, 40, .inl (fun _ => 0)), .inl (0, 40, .inl (fun _ => 0)), .inl (0, 4, .inl (fun _ => 0)), .inl (0, 4, .inl (fun _ => 0)), .inl (0, 4, .inl (fun _ => 0)), .inl (0, 40, .inl (fun _ => 0))]
  refine aw_putF fp_T_65 rfl dT_init_158 rfl (Nat.le_of_ble_eq_true rfl) (fun _ => ⟨rfl, rfl⟩) ?_
  show AW _ true 1 16 668 _ 15 628 161 [some (.ref 0)] [] [.inr (5, [Value.ref 1, .ref 2, .ref 3, .ref 4, .int 10, .int (-1), .int 0, .ref 5, .ref 6, .int 0, .int 0, .ref 7, .ref 8, .ref 9, .int 0, .ref 10, .int 0, .ref 11, .int 0, .int 3, .int 1, .int 0, .int 0, .ref 12, .ref 13, .ref 14, .ref 15, .null]), .inl (0, 4, .inl (fun _ => 0)), .inl (0, 160, .inl (fun _ => 0)), .inl (0, 4, .inl (fun _ => 0)), .inl (0, 4, .inl (upd (upd (upd (upd (fun _ => 0) 0 50) 1 50) 2 50) 3 50)), .inl (0, 40, .inl (fun _ => 0)), .inl (0, 164, .inl (fun _ => 0)), .inl (0, 40, .inl (fun _ => 0)), .inl (0, 40, .inl (fun _ => 0)), .inl (0, 40, .inl (fun _ => 0)), .inl (0, 40, .inl (fun _ => 0)), .inl (0, 40, .inl (fun _ => 0)), .inl (0, 4, .inl (fun _ => 0)), .inl (0, 4, .inl (fun _ => 0)), .inl (0, 4, .inl (fun _ => 0)), .inl (0, 40, .inl (fun _ => 0))]
  refine aw_aload_r dT_init_161 rfl ?_
  refine aw_bipush (v := 40) dT_init_162 (by decide) ?_
  refine aw_newz (N := 40) dT_init_164 (by decide) (by decide) (by decide) ⟨(Nat.le_of_ble_eq_true rfl), (Nat.le_of_ble_eq_true rfl)⟩ ?_
  show AW _ true 1 16 668 _ 16 668 166 [some (.ref 0)] [.ref 16, .ref 0] [.inr (5, [Value.ref 1, .ref 2, .ref 3, .ref 4, .int 10, .int (-1), .int 0, .ref 5, .ref 6, .int 0, .int 0, .ref 7, .ref 8, .ref 9, .int 0, .ref 10, .int 0, .ref 11, .int 0, .int 3, .int 1, .int 0, .int 0, .ref 12, .ref 13, .ref 14, .ref 15, .null]), .inl (0, 4, .inl (fun _ => 0)), .inl (0, 160, .inl (fun _ => 0)), .inl (0, 4, .inl (fun _ => 0)), .inl (0, 4, .inl (upd (upd (upd (upd (fun _ => 0) 0 50) 1 50) 2 50) 3 50)), .inl (0, 40, .inl (fun _ => 0)), .inl (0, 164, .inl (fun _ => 0)), .inl (0, 40, .inl (fun _ => 0)), .inl (0, 40, .inl (fun _ => 0)), .inl (0, 40, .inl (fun _ => 0)), .inl (0, 40, .inl (fun _ => 0)), .inl (0, 40, .inl (fun _ => 0)), .inl (0, 4, .inl (fun _ => 0)), .inl (0, 4, .inl (fun _ => 0)), .inl (0, 4, .inl (fun _ => 0)), .inl (0, 40, .inl (fun _ => 0)), .inl (1, 40, .inl (fun _ => 0))]
  refine aw_putF fp_T_68 rfl dT_init_166 rfl (Nat.le_of_ble_eq_true rfl) (fun _ => ⟨rfl, rfl⟩) ?_
  show AW _ true 1 16 668 _ 16 668 169 [some (.ref 0)] [] [.inr (5, [Value.ref 1, .ref 2, .ref 3, .ref 4, .int 10, .int (-1), .int 0, .ref 5, .ref 6, .int 0, .int 0, .ref 7, .ref 8, .ref 9, .int 0, .ref 10, .int 0, .ref 11, .int 0, .int 3, .int 1, .int 0, .int 0, .ref 12, .ref 13, .ref 14, .ref 15, .ref 16]), .inl (0, 4, .inl (fun _ => 0)), .inl (0, 160, .inl (fun _ => 0)), .inl (0, 4, .inl (fun _ => 0)), .inl (0, 4, .inl (upd (upd (upd (upd (fun _ => 0) 0 50) 1 50) 2 50) 3 50)), .inl (0, 40, .inl (fun _ => 0)), .inl (0, 164, .inl (fun _ => 0)), .inl (0, 40, .inl (fun _ => 0)), .inl (0, 40, .inl (fun _ => 0)), .inl (0, 40, .inl (fun _ => 0)), .inl (0, 40, .inl (fun _ => 0)), .inl (0, 40, .inl (fun _ => 0)), .inl (0, 4, .inl (fun _ => 0)), .inl (0, 4, .inl (fun _ => 0)), .inl (0, 4, .inl (fun _ => 0)), .inl (0, 40, .inl (fun _ => 0)), .inl (1, 40, .inl (fun _ => 0))]
  exact aw_vret rfl dT_init_169 ⟨rfl, rfl⟩
