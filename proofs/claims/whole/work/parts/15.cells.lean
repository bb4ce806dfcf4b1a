def ArrC (t c N : Nat) : Prop := ∀ (I : Nat → Int32) (A : Nat → Nat → Int32), (hC I A)[c]? = some (.inl (t, N, .inl (A c))) ∧ ∀ f, (hC I A).set c (.inl (t, N, .inl f)) = hC I (va_up A c f)
def ArrT (t c N : Nat) : Prop := ∀ (I : Nat → Int32) (A : Nat → Nat → Int32), (hT I A)[c]? = some (.inl (t, N, .inl (A c))) ∧ ∀ f, (hT I A).set c (.inl (t, N, .inl f)) = hT I (va_up A c f)
theorem ac_11 : ArrC 0 11 40 := fun _ _ => ⟨rfl, fun _ => rfl⟩
theorem ac_12 : ArrC 0 12 40 := fun _ _ => ⟨rfl, fun _ => rfl⟩
theorem ac_13 : ArrC 0 13 40 := fun _ _ => ⟨rfl, fun _ => rfl⟩
theorem ac_14 : ArrC 0 14 40 := fun _ _ => ⟨rfl, fun _ => rfl⟩
theorem ac_21 : ArrC 0 21 40 := fun _ _ => ⟨rfl, fun _ => rfl⟩
theorem ac_23 : ArrC 0 23 4 := fun _ _ => ⟨rfl, fun _ => rfl⟩
theorem ac_24 : ArrC 0 24 4 := fun _ _ => ⟨rfl, fun _ => rfl⟩
theorem ac_25 : ArrC 0 25 4 := fun _ _ => ⟨rfl, fun _ => rfl⟩
theorem ac_26 : ArrC 0 26 4 := fun _ _ => ⟨rfl, fun _ => rfl⟩
theorem ac_27 : ArrC 1 27 40 := fun _ _ => ⟨rfl, fun _ => rfl⟩
theorem at_1 : ArrT 0 1 4 := fun _ _ => ⟨rfl, fun _ => rfl⟩
theorem at_2 : ArrT 0 2 160 := fun _ _ => ⟨rfl, fun _ => rfl⟩
theorem at_3 : ArrT 0 3 4 := fun _ _ => ⟨rfl, fun _ => rfl⟩
theorem at_4 : ArrT 0 4 4 := fun _ _ => ⟨rfl, fun _ => rfl⟩
theorem at_5 : ArrT 0 5 40 := fun _ _ => ⟨rfl, fun _ => rfl⟩
theorem at_6 : ArrT 0 6 164 := fun _ _ => ⟨rfl, fun _ => rfl⟩
theorem at_7 : ArrT 0 7 40 := fun _ _ => ⟨rfl, fun _ => rfl⟩
theorem at_8 : ArrT 0 8 40 := fun _ _ => ⟨rfl, fun _ => rfl⟩
theorem at_9 : ArrT 0 9 40 := fun _ _ => ⟨rfl, fun _ => rfl⟩
theorem at_10 : ArrT 0 10 40 := fun _ _ => ⟨rfl, fun _ => rfl⟩
theorem at_11 : ArrT 0 11 40 := fun _ _ => ⟨rfl, fun _ => rfl⟩
theorem at_12 : ArrT 0 12 4 := fun _ _ => ⟨rfl, fun _ => rfl⟩
theorem at_13 : ArrT 0 13 4 := fun _ _ => ⟨rfl, fun _ => rfl⟩
theorem at_14 : ArrT 0 14 4 := fun _ _ => ⟨rfl, fun _ => rfl⟩
theorem at_15 : ArrT 0 15 40 := fun _ _ => ⟨rfl, fun _ => rfl⟩
theorem at_16 : ArrT 1 16 40 := fun _ _ => ⟨rfl, fun _ => rfl⟩
theorem ac_val {k : Nat} (hk : k < 4) : ArrC 0 (3 + 2 * k) 40 := fun I A => ⟨hC_val I A hk, hC_valS I A hk⟩
theorem ac_cost {k : Nat} (hk : k < 4) : ArrC 0 (16 + k) 40 := by
  match k, hk with
  | 0, _ => exact fun _ _ => ⟨rfl, fun _ => rfl⟩
  | 1, _ => exact fun _ _ => ⟨rfl, fun _ => rfl⟩
  | 2, _ => exact fun _ _ => ⟨rfl, fun _ => rfl⟩
  | 3, _ => exact fun _ _ => ⟨rfl, fun _ => rfl⟩
section ANC
variable {M : MI} {d : Nat} {Q : QT} {pc : Nat} {L : List (Option Value)} {st : List Value} {I : Nat → Int32} {A : Nat → Nat → Int32}
theorem an_ldC {c N j : Nat} {x : Int32} (hd : decode M.2.1 pc = .ok (.iaload, 1)) (ha : ArrC 0 c N) (e : x = nI j) (hj : j < N) (hN : N < 2 ^ 31) (kk : AN M d Q (pc + 1) L (.int (A c j) :: st) (hC I A)) : AN M d Q pc L (.int x :: .ref c :: st) (hC I A) := an_ld hd (ha I A).1 e hj hN kk
theorem an_lzC {c N j : Nat} {x : Int32} (hd : decode M.2.1 pc = .ok (.baload, 1)) (ha : ArrC 1 c N) (e : x = nI j) (hj : j < N) (hN : N < 2 ^ 31) (kk : AN M d Q (pc + 1) L (.int (A c j) :: st) (hC I A)) : AN M d Q pc L (.int x :: .ref c :: st) (hC I A) := an_ldz hd (ha I A).1 e hj hN kk
theorem an_stC {c N j : Nat} {x v : Int32} (hd : decode M.2.1 pc = .ok (.iastore, 1)) (ha : ArrC 0 c N) (e : x = nI j) (hj : j < N) (hN : N < 2 ^ 31) (kk : AN M d Q (pc + 1) L st (hC I (va_up A c (upd (A c) j v)))) : AN M d Q pc L (.int v :: .int x :: .ref c :: st) (hC I A) := an_st hd (ha I A).1 e hj hN ((ha I A).2 _) kk
theorem an_szC {c N j : Nat} {x v : Int32} (hd : decode M.2.1 pc = .ok (.bastore, 1)) (ha : ArrC 1 c N) (e : x = nI j) (hj : j < N) (hN : N < 2 ^ 31) (hv : v = 0 ∨ v = 1) (kk : AN M d Q (pc + 1) L st (hC I (va_up A c (upd (A c) j v)))) : AN M d Q pc L (.int v :: .int x :: .ref c :: st) (hC I A) := an_stz hd (ha I A).1 e hj hN hv ((ha I A).2 _) kk
theorem an_ldT {c N j : Nat} {x : Int32} (hd : decode M.2.1 pc = .ok (.iaload, 1)) (ha : ArrT 0 c N) (e : x = nI j) (hj : j < N) (hN : N < 2 ^ 31) (kk : AN M d Q (pc + 1) L (.int (A c j) :: st) (hT I A)) : AN M d Q pc L (.int x :: .ref c :: st) (hT I A) := an_ld hd (ha I A).1 e hj hN kk
theorem an_lzT {c N j : Nat} {x : Int32} (hd : decode M.2.1 pc = .ok (.baload, 1)) (ha : ArrT 1 c N) (e : x = nI j) (hj : j < N) (hN : N < 2 ^ 31) (kk : AN M d Q (pc + 1) L (.int (A c j) :: st) (hT I A)) : AN M d Q pc L (.int x :: .ref c :: st) (hT I A) := an_ldz hd (ha I A).1 e hj hN kk
theorem an_stT {c N j : Nat} {x v : Int32} (hd : decode M.2.1 pc = .ok (.iastore, 1)) (ha : ArrT 0 c N) (e : x = nI j) (hj : j < N) (hN : N < 2 ^ 31) (kk : AN M d Q (pc + 1) L st (hT I (va_up A c (upd (A c) j v)))) : AN M d Q pc L (.int v :: .int x :: .ref c :: st) (hT I A) := an_st hd (ha I A).1 e hj hN ((ha I A).2 _) kk
theorem an_szT {c N j : Nat} {x v : Int32} (hd : decode M.2.1 pc = .ok (.bastore, 1)) (ha : ArrT 1 c N) (e : x = nI j) (hj : j < N) (hN : N < 2 ^ 31) (hv : v = 0 ∨ v = 1) (kk : AN M d Q (pc + 1) L st (hT I (va_up A c (upd (A c) j v)))) : AN M d Q pc L (.int v :: .int x :: .ref c :: st) (hT I A) := an_stz hd (ha I A).1 e hj hN hv ((ha I A).2 _) kk
theorem an_putT {ix kf : Nat} {v : Int32} (f : FP false M.1.cls ix 5 kf .int) (hd : decode M.2.1 pc = .ok (.putfield ix, 3)) (hk : kf ∈ [4, 5, 6, 9, 10, 14, 16, 18, 19, 20, 21, 22]) (kk : AN M d Q (pc + 3) L st (hT (upd I kf v) A)) : AN M d Q pc L (.int v :: .ref 0 :: st) (hT I A) := by
  refine an_put f hd rfl ?_ (okVi _) ?_ kk
  · simp only [List.mem_cons, List.not_mem_nil, or_false] at hk
    rcases hk with rfl | rfl | rfl | rfl | rfl | rfl | rfl | rfl | rfl | rfl | rfl | rfl <;> exact Nat.le_of_ble_eq_true rfl
  · simp only [List.mem_cons, List.not_mem_nil, or_false] at hk
    rcases hk with rfl | rfl | rfl | rfl | rfl | rfl | rfl | rfl | rfl | rfl | rfl | rfl <;> rfl
theorem an_putE {ix kf : Nat} {v : Int32} (f : FP false M.1.cls ix 0 kf .int) (hd : decode M.2.1 pc = .ok (.putfield ix, 3)) (hk : kf ∈ [5, 6, 7, 8, 9, 10]) (kk : AN M d Q (pc + 3) L st (hC (upd I kf v) A)) : AN M d Q pc L (.int v :: .ref 0 :: st) (hC I A) := by
  refine an_put f hd rfl ?_ (okVi _) ?_ kk
  · simp only [List.mem_cons, List.not_mem_nil, or_false] at hk
    rcases hk with rfl | rfl | rfl | rfl | rfl | rfl <;> exact Nat.le_of_ble_eq_true rfl
  · simp only [List.mem_cons, List.not_mem_nil, or_false] at hk
    rcases hk with rfl | rfl | rfl | rfl | rfl | rfl <;> rfl
theorem an_putS {ix kf : Nat} {v : Int32} (f : FP false M.1.cls ix 2 kf .int) (hd : decode M.2.1 pc = .ok (.putfield ix, 3)) (hk : kf ∈ [5, 6, 7]) (kk : AN M d Q (pc + 3) L st (hC (upd I (1000 + kf) v) A)) : AN M d Q pc L (.int v :: .ref 10 :: st) (hC I A) := by
  refine an_put f hd rfl ?_ (okVi _) ?_ kk
  · simp only [List.mem_cons, List.not_mem_nil, or_false] at hk
    rcases hk with rfl | rfl | rfl <;> exact Nat.le_of_ble_eq_true rfl
  · simp only [List.mem_cons, List.not_mem_nil, or_false] at hk
    rcases hk with rfl | rfl | rfl <;> rfl
theorem an_putM {ix : Nat} {v : Int32} (f : FP false M.1.cls ix 3 1 .int) (hd : decode M.2.1 pc = .ok (.putfield ix, 3)) (kk : AN M d Q (pc + 3) L st (hC (upd I 2001 v) A)) : AN M d Q pc L (.int v :: .ref 20 :: st) (hC I A) :=
  an_put f hd rfl (Nat.le_of_ble_eq_true rfl) (okVi _) rfl kk
theorem an_putL {ix kf : Nat} {v : Int32} (f : FP false M.1.cls ix 4 kf .int) (hd : decode M.2.1 pc = .ok (.putfield ix, 3)) (hk : kf ∈ [4, 5, 6]) (kk : AN M d Q (pc + 3) L st (hC (upd I (2200 + kf) v) A)) : AN M d Q pc L (.int v :: .ref 22 :: st) (hC I A) := by
  refine an_put f hd rfl ?_ (okVi _) ?_ kk
  · simp only [List.mem_cons, List.not_mem_nil, or_false] at hk
    rcases hk with rfl | rfl | rfl <;> exact Nat.le_of_ble_eq_true rfl
  · simp only [List.mem_cons, List.not_mem_nil, or_false] at hk
    rcases hk with rfl | rfl | rfl <;> rfl
theorem an_putR {ix j k : Nat} {v : Int32} (hk : k < 4) (f : FP false M.1.cls ix 1 (1 + j) .int) (hd : decode M.2.1 pc = .ok (.putfield ix, 3)) (hj : j < 3) (kk : AN M d Q (pc + 3) L st (hC (upd I (201 + 200 * k + j) v) A)) : AN M d Q pc L (.int v :: .ref (2 + 2 * k) :: st) (hC I A) :=
  an_put f hd (hC_row I A hk) (by show 1 + j < 4; omega) (okVi _) (hC_rowS I A hk j hj v) kk
theorem an_getR {ix j k : Nat} {v : Value} (hk : k < 4) (f : FG M.1.cls ix 1 j) (hd : decode M.2.1 pc = .ok (.getfield ix, 3)) (hv : [Value.ref (3 + 2 * k), .int (I (201 + 200 * k)), .int (I (202 + 200 * k)), .int (I (203 + 200 * k))][j]? = some v) (kk : AN M d Q (pc + 3) L (v :: st) (hC I A)) : AN M d Q pc L (.ref (2 + 2 * k) :: st) (hC I A) :=
  aw_get f hd (hC_row I A hk) hv kk
theorem an_rows {x : Int32} {k : Nat} (hd : decode M.2.1 pc = .ok (.aaload, 1)) (e : x = nI k) (hk : k < 4) (kk : AN M d Q (pc + 1) L (.ref (2 + 2 * k) :: st) (hC I A)) : AN M d Q pc L (.int x :: .ref 1 :: st) (hC I A) := by
  subst e
  refine aw_aald (t := 2) (ty := .object "EarChart$Row") (fun _ => rfl) rfl hd rfl (vp_in_nI hk (by decide)) ?_
  rw [nI_clamp (by omega), if_pos hk]
  exact kk
theorem an_costs {x : Int32} {k : Nat} (hd : decode M.2.1 pc = .ok (.aaload, 1)) (e : x = nI k) (hk : k < 4) (kk : AN M d Q (pc + 1) L (.ref (16 + k) :: st) (hC I A)) : AN M d Q pc L (.int x :: .ref 15 :: st) (hC I A) := by
  subst e
  refine aw_aald (t := 3) (ty := .array .int) (fun _ => rfl) rfl hd rfl (vp_in_nI hk (by decide)) ?_
  rw [nI_clamp (by omega), if_pos hk]
  exact kk
end ANC
