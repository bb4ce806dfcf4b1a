abbrev AN (M : MI) (d : Nat) (Q : QT) (pc : Nat) (L : List (Option Value)) (st : List Value) (h : List AC) : Prop := AW M false d 0 0 Q 0 0 pc L st h
abbrev AM (M : MI) (d : Nat) (as : List Value) (h : List AC) (Q : QT) : Prop := AMet M false d 0 0 as h Q
def RQ (E : Int32) (h : List AC) : QT := fun v h' => h' = h ∧ v = some (.int E)
def BQ (P : Prop) (h : List AC) : QT := fun v h' => h' = h ∧ (P ∧ v = some (.int 1) ∨ ¬ P ∧ v = some (.int 0))
section ANR
variable {M : MI} {d : Nat} {Q : QT} {pc : Nat} {L : List (Option Value)} {st : List Value} {h : List AC}
theorem an_heap {h' : List AC} (e : h = h') (kk : AN M d Q pc L st h') : AN M d Q pc L st h := e ▸ kk
theorem an_loc {L' : List (Option Value)} (e : L = L') (kk : AN M d Q pc L' st h) : AN M d Q pc L st h := e ▸ kk
theorem an_top {x y : Int32} (e : x = y) (kk : AN M d Q pc L (.int y :: st) h) : AN M d Q pc L (.int x :: st) h := e ▸ kk
theorem an_top2 {x y : Int32} {v : Value} (e : x = y) (kk : AN M d Q pc L (v :: .int y :: st) h) : AN M d Q pc L (v :: .int x :: st) h := e ▸ kk
theorem an_callSb {ix nP d' : Nat} {M' : MI} {as : List Value} {P : Prop} {st0 : List Value} (g : CGk 0 M.1.cls ix M' nP) (hM : AM M' d' as h (BQ P h)) (hd : decode M.2.1 pc = .ok (.invokestatic ix, 3)) (hlen : as.length = nP) (hst : st0 = as.reverse ++ st) (hW : (st.map fun v => v.category).sum ≤ 8) (hdd : d' + 1 ≤ d)
    (kt : P → AN M d Q (pc + 3) L (.int 1 :: st) h) (kf : ¬ P → AN M d Q (pc + 3) L (.int 0 :: st) h) : AN M d Q pc L st0 h :=
  aw_callS g hM hd hlen hst hW hdd ⟨Nat.le_refl _, Nat.le_refl _⟩ (fun r h' hq _ => by
    obtain ⟨rfl, ⟨hp, rfl⟩ | ⟨hp, rfl⟩⟩ := hq
    · exact kt hp
    · exact kf hp)
theorem an_callSr {ix nP d' : Nat} {M' : MI} {as : List Value} {E : Int32} {st0 : List Value} (g : CGk 0 M.1.cls ix M' nP) (hM : AM M' d' as h (RQ E h)) (hd : decode M.2.1 pc = .ok (.invokestatic ix, 3)) (hlen : as.length = nP) (hst : st0 = as.reverse ++ st) (hW : (st.map fun v => v.category).sum ≤ 8) (hdd : d' + 1 ≤ d)
    (kk : AN M d Q (pc + 3) L (.int E :: st) h) : AN M d Q pc L st0 h :=
  aw_callS g hM hd hlen hst hW hdd ⟨Nat.le_refl _, Nat.le_refl _⟩ (fun r h' hq _ => by
    obtain ⟨rfl, rfl⟩ := hq
    exact kk)
theorem an_callSx {ix nP d' : Nat} {M' : MI} {as : List Value} {Q' : QT} {st0 : List Value} (g : CGk 0 M.1.cls ix M' nP) (hM : AM M' d' as h Q') (hd : decode M.2.1 pc = .ok (.invokestatic ix, 3)) (hlen : as.length = nP) (hst : st0 = as.reverse ++ st) (hW : (st.map fun v => v.category).sum ≤ 8) (hdd : d' + 1 ≤ d)
    (kk : ∀ (r : Option Value) (h' : List AC), Q' r h' → AN M d Q (pc + 3) L (r.toList ++ st) h') : AN M d Q pc L st0 h :=
  aw_callS g hM hd hlen hst hW hdd ⟨Nat.le_refl _, Nat.le_refl _⟩ (fun r h' hq _ => kk r h' hq)
theorem an_callVb {ix nP d' a ci : Nat} {M' : MI} {as : List Value} {fs : List Value} {q : vw_C} {P : Prop} {st0 : List Value} (g : CGk 1 M.1.cls ix M' nP) (hM : AM M' d' (.ref a :: as) h (BQ P h)) (hd : decode M.2.1 pc = .ok (.invokevirtual ix, 3)) (hlen : as.length = nP) (he : h[a]? = some (.inr (ci, fs))) (hc : kclasses[ci]? = some q) (hq : q.1 = M'.1.cls) (hst : st0 = (Value.ref a :: as).reverse ++ st) (hW : (st.map fun v => v.category).sum ≤ 8) (hdd : d' + 1 ≤ d)
    (kt : P → AN M d Q (pc + 3) L (.int 1 :: st) h) (kf : ¬ P → AN M d Q (pc + 3) L (.int 0 :: st) h) : AN M d Q pc L st0 h :=
  aw_callV g hM hd hlen he hc hq hst hW hdd ⟨Nat.le_refl _, Nat.le_refl _⟩ (fun r h' hq _ => by
    obtain ⟨rfl, ⟨hp, rfl⟩ | ⟨hp, rfl⟩⟩ := hq
    · exact kt hp
    · exact kf hp)
theorem an_callVr {ix nP d' a ci : Nat} {M' : MI} {as : List Value} {fs : List Value} {q : vw_C} {E : Int32} {st0 : List Value} (g : CGk 1 M.1.cls ix M' nP) (hM : AM M' d' (.ref a :: as) h (RQ E h)) (hd : decode M.2.1 pc = .ok (.invokevirtual ix, 3)) (hlen : as.length = nP) (he : h[a]? = some (.inr (ci, fs))) (hc : kclasses[ci]? = some q) (hq : q.1 = M'.1.cls) (hst : st0 = (Value.ref a :: as).reverse ++ st) (hW : (st.map fun v => v.category).sum ≤ 8) (hdd : d' + 1 ≤ d)
    (kk : AN M d Q (pc + 3) L (.int E :: st) h) : AN M d Q pc L st0 h :=
  aw_callV g hM hd hlen he hc hq hst hW hdd ⟨Nat.le_refl _, Nat.le_refl _⟩ (fun r h' hq _ => by
    obtain ⟨rfl, rfl⟩ := hq
    exact kk)
theorem an_callVx {ix nP d' a ci : Nat} {M' : MI} {as : List Value} {fs : List Value} {q : vw_C} {Q' : QT} {st0 : List Value} (g : CGk 1 M.1.cls ix M' nP) (hM : AM M' d' (.ref a :: as) h Q') (hd : decode M.2.1 pc = .ok (.invokevirtual ix, 3)) (hlen : as.length = nP) (he : h[a]? = some (.inr (ci, fs))) (hc : kclasses[ci]? = some q) (hq : q.1 = M'.1.cls) (hst : st0 = (Value.ref a :: as).reverse ++ st) (hW : (st.map fun v => v.category).sum ≤ 8) (hdd : d' + 1 ≤ d)
    (kk : ∀ (r : Option Value) (h' : List AC), Q' r h' → AN M d Q (pc + 3) L (r.toList ++ st) h') : AN M d Q pc L st0 h :=
  aw_callV g hM hd hlen he hc hq hst hW hdd ⟨Nat.le_refl _, Nat.le_refl _⟩ (fun r h' hq _ => kk r h' hq)
theorem an_ld {c N j : Nat} {x : Int32} {f : Nat → Int32} (hd : decode M.2.1 pc = .ok (.iaload, 1)) (he : h[c]? = some (.inl (0, N, .inl f))) (e : x = nI j) (hj : j < N) (hN : N < 2 ^ 31) (kk : AN M d Q (pc + 1) L (.int (f j) :: st) h) : AN M d Q pc L (.int x :: .ref c :: st) h := by
  subst e
  refine aw_iald hd he (vp_in_nI hj hN) ?_
  rw [nI_clamp (by omega)]
  exact kk
theorem an_ldz {c N j : Nat} {x : Int32} {f : Nat → Int32} (hd : decode M.2.1 pc = .ok (.baload, 1)) (he : h[c]? = some (.inl (1, N, .inl f))) (e : x = nI j) (hj : j < N) (hN : N < 2 ^ 31) (kk : AN M d Q (pc + 1) L (.int (f j) :: st) h) : AN M d Q pc L (.int x :: .ref c :: st) h := by
  subst e
  refine aw_zald hd he (vp_in_nI hj hN) ?_
  rw [nI_clamp (by omega)]
  exact kk
theorem an_st {c N j : Nat} {x v : Int32} {f : Nat → Int32} {h' : List AC} (hd : decode M.2.1 pc = .ok (.iastore, 1)) (he : h[c]? = some (.inl (0, N, .inl f))) (e : x = nI j) (hj : j < N) (hN : N < 2 ^ 31) (e' : h.set c (.inl (0, N, .inl (upd f j v))) = h') (kk : AN M d Q (pc + 1) L st h') : AN M d Q pc L (.int v :: .int x :: .ref c :: st) h := by
  subst e
  subst e'
  refine aw_iast hd he (vp_in_nI hj hN) ?_
  rw [nI_clamp (by omega)]
  exact kk
theorem an_stz {c N j : Nat} {x v : Int32} {f : Nat → Int32} {h' : List AC} (hd : decode M.2.1 pc = .ok (.bastore, 1)) (he : h[c]? = some (.inl (1, N, .inl f))) (e : x = nI j) (hj : j < N) (hN : N < 2 ^ 31) (hv : v = 0 ∨ v = 1) (e' : h.set c (.inl (1, N, .inl (upd f j v))) = h') (kk : AN M d Q (pc + 1) L st h') : AN M d Q pc L (.int v :: .int x :: .ref c :: st) h := by
  subst e
  subst e'
  refine aw_zast hd he (vp_in_nI hj hN) hv ?_
  rw [nI_clamp (by omega)]
  exact kk
theorem an_put {i ci kf ix : Nat} {fs : List Value} {v : Value} {ty : FieldType} {h' : List AC} (f : FP false M.1.cls ix ci kf ty) (hd : decode M.2.1 pc = .ok (.putfield ix, 3)) (he : h[i]? = some (.inr (ci, fs))) (hl : kf < fs.length) (hv : okV ty v) (e' : h.set i (.inr (ci, fs.set kf v)) = h') (kk : AN M d Q (pc + 3) L st h') : AN M d Q pc L (v :: .ref i :: st) h := by
  subst e'
  exact aw_put f hd he hl hv kk
theorem okVi (x : Int32) : okV .int (.int x) := fun _ => ⟨rfl, rfl⟩
theorem an_astore_r {i : Fin 4} {a : Nat} (hd : decode M.2.1 pc = .ok (.astore_n i, 1)) (hn : (i : Nat) < M.2.2.1) (kk : AN M d Q (pc + 1) (L.set i (some (.ref a))) st h) : AN M d Q pc L (.ref a :: st) h := aw_astore_n (r := some a) hd hn kk
theorem an_astore_0 {i : Fin 4} (hd : decode M.2.1 pc = .ok (.astore_n i, 1)) (hn : (i : Nat) < M.2.2.1) (kk : AN M d Q (pc + 1) (L.set i (some .null)) st h) : AN M d Q pc L (.null :: st) h := aw_astore_n (r := none) hd hn kk
theorem an_astore_m {i : Nat} {a : Nat} (hd : decode M.2.1 pc = .ok (.astore i, 2)) (hn : i < M.2.2.1) (kk : AN M d Q (pc + 2) (L.set i (some (.ref a))) st h) : AN M d Q pc L (.ref a :: st) h := aw_astore (r := some a) hd hn kk
theorem an_aload_0 {i : Fin 4} (hd : decode M.2.1 pc = .ok (.aload_n i, 1)) (hl : L[(i : Nat)]? = some (some .null)) (kk : AN M d Q (pc + 1) L (.null :: st) h) : AN M d Q pc L st h := aw_aload_n (r := none) hd hl kk
theorem an_ifnull_0 {off : Int} {tgt : Nat} (hd : decode M.2.1 pc = .ok (.ifnull off, 3)) (ht : (pc : Int) + off = (tgt : Int)) (kk : AN M d Q tgt L st h) : AN M d Q pc L (.null :: st) h := aw_ifnull (r := none) hd ht (fun _ => kk) (fun _ q => by cases q)
theorem an_ifnull_r {off : Int} {tgt a : Nat} (hd : decode M.2.1 pc = .ok (.ifnull off, 3)) (ht : (pc : Int) + off = (tgt : Int)) (kk : AN M d Q (pc + 3) L st h) : AN M d Q pc L (.ref a :: st) h := aw_ifnull (r := some a) hd ht (fun q => by cases q) (fun _ _ => kk)
theorem an_ifnonnull_0 {off : Int} {tgt : Nat} (hd : decode M.2.1 pc = .ok (.ifnonnull off, 3)) (ht : (pc : Int) + off = (tgt : Int)) (kk : AN M d Q (pc + 3) L st h) : AN M d Q pc L (.null :: st) h := aw_ifnonnull (r := none) hd ht (fun _ q => by cases q) (fun _ => kk)
theorem an_ifnonnull_r {off : Int} {tgt a : Nat} (hd : decode M.2.1 pc = .ok (.ifnonnull off, 3)) (ht : (pc : Int) + off = (tgt : Int)) (kk : AN M d Q tgt L st h) : AN M d Q pc L (.ref a :: st) h := aw_ifnonnull (r := some a) hd ht (fun _ _ => kk) (fun q => by cases q)
theorem an_aret_r {a : Nat} {nm : String} (hr : M.2.2.2 = some (.object nm)) (hd : decode M.2.1 pc = .ok (.areturn, 1)) (hq : Q (some (.ref a)) h) : AN M d Q pc L [.ref a] h := aw_aret (r := some a) hr hd hq
theorem an_aret_0 {nm : String} (hr : M.2.2.2 = some (.object nm)) (hd : decode M.2.1 pc = .ok (.areturn, 1)) (hq : Q (some .null) h) : AN M d Q pc L [.null] h := aw_aret (r := none) hr hd hq
end ANR
abbrev ci_ (N : Nat) (f : Nat → Int32) : AC := .inl (0, N, .inl f)
abbrev cz_ (N : Nat) (f : Nat → Int32) : AC := .inl (1, N, .inl f)
def hT (J : Nat → Int32) (B : Nat → Nat → Int32) : List AC := [
  .inr (5, [.ref 1, .ref 2, .ref 3, .ref 4, .int (J 4), .int (J 5), .int (J 6), .ref 5, .ref 6, .int (J 9), .int (J 10), .ref 7, .ref 8, .ref 9, .int (J 14), .ref 10, .int (J 16), .ref 11, .int (J 18), .int (J 19), .int (J 20), .int (J 21), .int (J 22), .ref 12, .ref 13, .ref 14, .ref 15, .ref 16]),
  ci_ 4 (B 1), ci_ 160 (B 2), ci_ 4 (B 3), ci_ 4 (B 4), ci_ 40 (B 5), ci_ 164 (B 6), ci_ 40 (B 7), ci_ 40 (B 8), ci_ 40 (B 9), ci_ 40 (B 10), ci_ 40 (B 11), ci_ 4 (B 12), ci_ 4 (B 13), ci_ 4 (B 14), ci_ 40 (B 15), cz_ 40 (B 16)]
def rowc (I : Nat → Int32) (k : Nat) : AC := .inr (1, [.ref (3 + 2 * k), .int (I (201 + 200 * k)), .int (I (202 + 200 * k)), .int (I (203 + 200 * k))])
def hC (I : Nat → Int32) (A : Nat → Nat → Int32) : List AC := [
  .inr (0, [.ref 1, .ref 10, .ref 20, .ref 22, .ref 27, .int (I 5), .int (I 6), .int (I 7), .int (I 8), .int (I 9), .int (I 10)]),
  .inl (2, 4, .inr (.inr (.inr (.inr (fun j => if j < 4 then some (2 + 2 * j) else none))))),
  rowc I 0, ci_ 40 (A 3), rowc I 1, ci_ 40 (A 5), rowc I 2, ci_ 40 (A 7), rowc I 3, ci_ 40 (A 9),
  .inr (2, [.ref 11, .ref 12, .ref 13, .ref 14, .ref 15, .int (I 1005), .int (I 1006), .int (I 1007)]),
  ci_ 40 (A 11), ci_ 40 (A 12), ci_ 40 (A 13), ci_ 40 (A 14), .inl (3, 4, .inr (.inr (.inr (.inr (fun j => if j < 4 then some (16 + j) else none))))), ci_ 40 (A 16), ci_ 40 (A 17), ci_ 40 (A 18), ci_ 40 (A 19),
  .inr (3, [.ref 21, .int (I 2001)]), ci_ 40 (A 21),
  .inr (4, [.ref 23, .ref 24, .ref 25, .ref 26, .int (I 2204), .int (I 2205), .int (I 2206)]), ci_ 4 (A 23), ci_ 4 (A 24), ci_ 4 (A 25), ci_ 4 (A 26),
  cz_ 40 (A 27)]
theorem hC_row (I : Nat → Int32) (A : Nat → Nat → Int32) {k : Nat} (hk : k < 4) : (hC I A)[2 + 2 * k]? = some (rowc I k) := by
  match k, hk with
  | 0, _ => rfl
  | 1, _ => rfl
  | 2, _ => rfl
  | 3, _ => rfl
theorem hC_val (I : Nat → Int32) (A : Nat → Nat → Int32) {k : Nat} (hk : k < 4) : (hC I A)[3 + 2 * k]? = some (ci_ 40 (A (3 + 2 * k))) := by
  match k, hk with
  | 0, _ => rfl
  | 1, _ => rfl
  | 2, _ => rfl
  | 3, _ => rfl
theorem hC_rowS (I : Nat → Int32) (A : Nat → Nat → Int32) {k : Nat} (hk : k < 4) (j : Nat) (hj : j < 3) (v : Int32) : (hC I A).set (2 + 2 * k) (.inr (1, [Value.ref (3 + 2 * k), .int (I (201 + 200 * k)), .int (I (202 + 200 * k)), .int (I (203 + 200 * k))].set (1 + j) (.int v))) = hC (upd I (201 + 200 * k + j) v) A := by
  match k, hk, j, hj with
  | 0, _, 0, _ => rfl
  | 0, _, 1, _ => rfl
  | 0, _, 2, _ => rfl
  | 1, _, 0, _ => rfl
  | 1, _, 1, _ => rfl
  | 1, _, 2, _ => rfl
  | 2, _, 0, _ => rfl
  | 2, _, 1, _ => rfl
  | 2, _, 2, _ => rfl
  | 3, _, 0, _ => rfl
  | 3, _, 1, _ => rfl
  | 3, _, 2, _ => rfl
theorem hC_valS (I : Nat → Int32) (A : Nat → Nat → Int32) {k : Nat} (hk : k < 4) (f : Nat → Int32) : (hC I A).set (3 + 2 * k) (ci_ 40 f) = hC I (va_up A (3 + 2 * k) f) := by
  match k, hk with
  | 0, _ => rfl
  | 1, _ => rfl
  | 2, _ => rfl
  | 3, _ => rfl
