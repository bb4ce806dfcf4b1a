def RL (al : Bool) (b : Nat) (D : va_G) (κ : Nat → ClassId) (h : List AC) (U : State) : Prop := (∀ w ∈ ktbl, w.before #[] U = true) ∧ va_K D kclasses (tyk κ) U ∧ va_P D kclasses (wso b κ h) U.heap ∧ (al = true → U.heap.size = b + h.length)
theorem RL.vm {al : Bool} {b : Nat} {D : va_G} {κ : Nat → ClassId} {h : List AC} {u U : State} (hW : u.WarmedH U.vm) (hh : U.heap = u.heap) (r : RL al b D κ h u) : RL al b D κ h U := ⟨tb_warm hW r.1, va_K.moved hW.alike r.2.1, by rw [hh]; exact r.2.2.1, by rw [hh]; exact r.2.2.2⟩
def rmD (d mc ms : Nat) : Room := { frames := d, cells := mc, slots := ms, locals := 64 * d }
abbrev QT : Type := Option Value → List AC → Prop
def QC (al : Bool) (b : Nat) (D : va_G) (κ : Nat → ClassId) (N0 : Nat) (Q : QT) : Array Value → State → Outcome → State → Prop := fun _ st o t => (∃ (r : Option Value) (h' : List AC), o = .returned (r.map (rv b)) ∧ Q r h' ∧ (al = false → h'.length = N0) ∧ RL al b D κ h' t) ∧ va_F (AX al b N0) st t
def AMet (M : MI) (al : Bool) (d mc ms : Nat) (as : List Value) (h : List AC) (Q : QT) : Prop :=
  ∀ (l : Launch) (b : Nat) (D : va_G) (κ : Nat → ClassId), Met l M.1 [.code M.1 M.2.1 M.2.2.1 M.2.2.2] (rmD d mc ms) (va_Pc (as.map (rv b)) (RL al b D κ h)) (QC al b D κ h.length Q) mc ms (AX al b h.length)
def lvl (b : Nat) (L : List (Option Value)) : List (Nat × Value) := (L.mapIdx (fun i o => o.map (fun v => (i, rv b v)))).filterMap id
theorem lvl_mem {b : Nat} {L : List (Option Value)} {q : Nat × Value} : q ∈ lvl b L ↔ ∃ v, L[q.1]? = some (some v) ∧ q.2 = rv b v := by
  unfold lvl
  rw [List.mem_filterMap]
  constructor
  · rintro ⟨o, ho, e⟩
    obtain ⟨i, hi⟩ := List.mem_iff_getElem?.mp ho
    rw [List.getElem?_mapIdx] at hi
    cases hL : L[i]? with
    | none => rw [hL] at hi; cases hi
    | some v0 =>
      rw [hL] at hi
      cases v0 with
      | none => cases hi; cases e
      | some v => cases hi; cases e; exact ⟨v, hL, rfl⟩
  · rintro ⟨v, h1, h2⟩
    refine ⟨some q, List.mem_iff_getElem?.mpr ⟨q.1, ?_⟩, rfl⟩
    rw [List.getElem?_mapIdx, h1]
    simp [← h2]
def lr (b : Nat) (ls : Array Slot) (nL : Nat) (L : List (Option Value)) : Prop := lv_has ls nL (lvl b L) ∧ ∀ (i : Nat) (v : Value), L[i]? = some (some v) → v.category = 1
theorem lr.at {b : Nat} {ls : Array Slot} {nL : Nat} {L : List (Option Value)} (h : lr b ls nL L) {i : Nat} {v : Value} (hi : L[i]? = some (some v)) : ls[i]? = some (.val (rv b v)) := h.1.2.2 (i, rv b v) (lvl_mem.mpr ⟨v, hi, rfl⟩)
theorem lr.st {b : Nat} {ls ls' : Array Slot} {nL : Nat} {L : List (Option Value)} (h : lr b ls nL L) {i : Nat} {v : Value} (hc : v.category = 1) (h' : lv_has ls' nL ((i, rv b v) :: (lvl b L).filter (fun q => !(q.1 == i) && !(q.1 + 1 == i && q.2.category == 2)))) : lr b ls' nL (L.set i (some v)) := by
  refine ⟨⟨h'.1, h'.2.1, fun q hq => ?_⟩, fun j w hj => ?_⟩
  · obtain ⟨w, h1, h2⟩ := lvl_mem.mp hq
    rw [List.getElem?_set] at h1
    by_cases e : i = q.1
    · rw [if_pos e] at h1
      split at h1
      · cases h1
        exact h'.2.2 q (by rw [show q = (i, rv b v) from Prod.ext e.symm h2]; exact List.mem_cons_self)
      · cases h1
    · rw [if_neg e] at h1
      refine h'.2.2 q (List.mem_cons_of_mem _ (List.mem_filter.mpr ⟨lvl_mem.mpr ⟨w, h1, h2⟩, ?_⟩))
      have hw := h.2 _ _ h1
      have h9 : q.2.category = 1 := by rw [h2, rv_cat, hw]
      simp [h9, Ne.symm e]
  · rw [List.getElem?_set] at hj
    by_cases e : i = j
    · rw [if_pos e] at hj
      split at hj
      · cases hj; exact hc
      · cases hj
    · rw [if_neg e] at hj
      exact h.2 _ _ hj
def CX (M : MI) (al : Bool) (p : Program) (s : State) (m : MethodId) (args : Array Value) (meth : Method) (c : Code) (b : Nat) (D : va_G) (κ : Nat → ClassId) (N0 : Nat) : Prop :=
  p.tables.exec = Jvm.exec ∧ c.code = M.2.1 ∧ c.maxLocals = M.2.2.1 ∧ s.vm.findClass M.1.cls = some m.cls ∧ (∀ w ∈ ktbl, w.before args s = true) ∧ meth.sig.returnType = M.2.2.2 ∧ meth.locks = false ∧ meth.name = M.1.name ∧ va_K D kclasses (tyk κ) s ∧ (al = true → s.heap.size = b + N0)
def DX (M : MI) (al : Bool) (s : State) (b : Nat) (D : va_G) (κ : Nat → ClassId) (N0 : Nat) (L : List (Option Value)) (h : List AC) (H : Heap) (locs : List Loc) (ls : Array Slot) : Prop :=
  (al = false → h.length = N0) ∧ va_P D kclasses (wso b κ h) H ∧ (al = true → H.size = b + h.length) ∧ va_S (AX al b N0) s.heap H locs ∧ lr b ls M.2.2.1 L
def AW (M : MI) (al : Bool) (d mc ms : Nat) (Q : QT) (k n : Nat) (pc : Nat) (L : List (Option Value)) (st : List Value) (h : List AC) : Prop :=
  ∀ (p : Program) (l : Launch) (e : Env) (s : State) (m : MethodId) (args : Array Value) (below : List Frame) (meth : Method) (c : Code) (b : Nat) (D : va_G) (κ : Nat → ClassId) (N0 : Nat) (H : Heap) (locs : List Loc) (ls : Array Slot), CX M al p s m args meth c b D κ N0 → DX M al s b D κ N0 L h H locs ls →
    W p l e (rmD d mc ms) s m args below meth c H locs k n (MQ below (QC al b D κ N0 Q) args s mc ms (AX al b N0)) (F0 m pc ls (st.map (rv b)))
theorem DX.D {M : MI} {al : Bool} {s : State} {b : Nat} {D : va_G} {κ : Nat → ClassId} {N0 : Nat} {L : List (Option Value)} {h : List AC} {H : Heap} {locs : List Loc} {ls : Array Slot} (X : DX M al s b D κ N0 L h H locs ls) : va_D (AX al b N0) (wso b κ h) := wso_D X.1
theorem lvargs_mem : ∀ (vs : List Value) (k : Nat), (∀ v ∈ vs, v.category = 1) → ∀ (j : Nat) (v : Value), vs[j]? = some v → (k + j, v) ∈ lv_args k vs
  | [], _, _, j, v, h => by simp at h
  | w :: vs, k, hc, j, v, h => by
    have hw : ¬ w.category = 2 := by rw [hc w List.mem_cons_self]; decide
    rw [lv_args, if_neg hw]
    cases j with
    | zero => simp at h; subst h; exact List.mem_cons_self
    | succ j =>
      have := lvargs_mem vs (k + 1) (fun v hv => hc v (List.mem_cons_of_mem _ hv)) j v (by simpa using h)
      rw [show k + (j + 1) = k + 1 + j by omega]
      exact List.mem_cons_of_mem _ this
theorem lgsl_len : ∀ (vs : List Value), (∀ v ∈ vs, v.category = 1) → (lg_sl vs).length = vs.length
  | [], _ => rfl
  | w :: vs, hc => by
    have hw : ¬ w.category = 2 := by rw [hc w List.mem_cons_self]; decide
    have := lgsl_len vs (fun v hv => hc v (List.mem_cons_of_mem _ hv))
    unfold lg_sl at this ⊢
    rw [List.flatMap_cons, if_neg hw, List.length_append, this]
    simp; omega
def L0 (M : MI) (as : List Value) : List (Option Value) := as.map some ++ List.replicate (M.2.2.1 - as.length) none
theorem AMet.of {M : MI} {al : Bool} {d mc ms : Nat} {as : List Value} {h : List AC} {Q : QT} (hy : plainName M.1.cls = true) (hc : ∀ v ∈ as, v.category = 1) (hL : as.length ≤ M.2.2.1)
    (k : AW M al d mc ms Q 0 0 0 (L0 M as) [] h) : AMet M al d mc ms as h Q := by
  intro l b D κ
  refine Met.ofW (cc := M.2.1) (maxL := M.2.2.1) (ret := M.2.2.2) (ws' := []) hy rfl ?_
  intro p e s m args below meth c s₁ B hml hv
  obtain ⟨rfl, hT, hK, hP, hsz⟩ := hv
  rw [lg_entry_eq]
  have hcr : ∀ v ∈ as.map (rv b), v.category = 1 := fun v hv => by
    obtain ⟨w, hw, rfl⟩ := List.mem_map.mp hv
    rw [rv_cat, hc w hw]
  have hlen := lgsl_len _ hcr
  have hl := lv_entry (as.map (rv b)) (n := M.2.2.1) (by rw [hlen, List.length_map]; exact hL)
  refine k p l e s m _ below meth c b D κ h.length s.heap [] _ ⟨B.exec, B.bytes, hml, findClass_of_methodNamed B.named, tb_args hT, B.returns, B.notSynchronized, (name_of_methodNamed B.named B.method).1, hK, hsz⟩ ⟨fun _ => rfl, hP, hsz, va_S.rf, ?_⟩
  have key : ∀ (i : Nat) (v : Value), (L0 M as)[i]? = some (some v) → as[i]? = some v := fun i v hi => by
    unfold L0 at hi
    by_cases hil : i < as.length
    · rw [List.getElem?_append_left (by simpa using hil)] at hi
      simpa using hi
    · rw [List.getElem?_append_right (by simpa using hil), List.getElem?_replicate] at hi
      split at hi <;> simp at hi
  refine ⟨⟨hl.1, hl.2.1, fun q hq => ?_⟩, fun i v hi => hc v (List.mem_of_getElem? (key i v hi))⟩
  obtain ⟨v, h1, h2⟩ := lvl_mem.mp hq
  refine hl.2.2 q ?_
  have := lvargs_mem _ 0 hcr q.1 (rv b v) (by rw [List.getElem?_map, key _ _ h1]; rfl)
  rw [show q = (0 + q.1, rv b v) from Prod.ext (by simp) h2]
  exact this
section AWR
variable {M : MI} {al : Bool} {d mc ms : Nat} {Q : QT} {k n : Nat} {pc : Nat} {L : List (Option Value)} {st : List Value} {h : List AC}
theorem aw_iconst {z : Int} {v : Int32} (hd : decode M.2.1 pc = .ok (.iconst z, 1)) (hv : Int32.ofInt z = v) (kk : AW M al d mc ms Q k n (pc + 1) L (.int v :: st) h) : AW M al d mc ms Q k n pc L st h :=
  fun p l e s m args below meth c b D κ N0 H locs ls C X => lv_iconst C.1 C.2.1 hd hv (kk p l e s m args below meth c b D κ N0 H locs ls C X)
theorem aw_bipush {z : Int} {v : Int32} (hd : decode M.2.1 pc = .ok (.bipush z, 2)) (hv : (Int8.ofInt z).toInt32 = v) (kk : AW M al d mc ms Q k n (pc + 2) L (.int v :: st) h) : AW M al d mc ms Q k n pc L st h :=
  fun p l e s m args below meth c b D κ N0 H locs ls C X => lv_bipush C.1 C.2.1 hd hv (kk p l e s m args below meth c b D κ N0 H locs ls C X)
theorem aw_sipush {z : Int} {v : Int32} (hd : decode M.2.1 pc = .ok (.sipush z, 3)) (hv : (Int16.ofInt z).toInt32 = v) (kk : AW M al d mc ms Q k n (pc + 3) L (.int v :: st) h) : AW M al d mc ms Q k n pc L st h :=
  fun p l e s m args below meth c b D κ N0 H locs ls C X => lv_sipush C.1 C.2.1 hd hv (kk p l e s m args below meth c b D κ N0 H locs ls C X)
theorem aw_ldc {i : Nat} {v : Int32} (hw : Cond.constant M.1.cls i v ∈ ktbl) (hd : decode M.2.1 pc = .ok (.ldc i, 2)) (kk : AW M al d mc ms Q k n (pc + 2) L (.int v :: st) h) : AW M al d mc ms Q k n pc L st h :=
  fun p l e s m args below meth c b D κ N0 H locs ls C X => lv_ldc C.1 C.2.1 C.2.2.2.1 (C.2.2.2.2.1 _ hw) hd (kk p l e s m args below meth c b D κ N0 H locs ls C X)
theorem aw_iload_n {i : Fin 4} {v : Int32} (hd : decode M.2.1 pc = .ok (.iload_n i, 1)) (hl : L[(i : Nat)]? = some (some (.int v))) (kk : AW M al d mc ms Q k n (pc + 1) L (.int v :: st) h) : AW M al d mc ms Q k n pc L st h :=
  fun p l e s m args below meth c b D κ N0 H locs ls C X => lv_iload_n C.1 C.2.1 hd rfl (X.2.2.2.2.at hl) (kk p l e s m args below meth c b D κ N0 H locs ls C X)
theorem aw_iload {i : Nat} {v : Int32} (hd : decode M.2.1 pc = .ok (.iload i, 2)) (hl : L[i]? = some (some (.int v))) (kk : AW M al d mc ms Q k n (pc + 2) L (.int v :: st) h) : AW M al d mc ms Q k n pc L st h :=
  fun p l e s m args below meth c b D κ N0 H locs ls C X => lv_iload C.1 C.2.1 hd (X.2.2.2.2.at hl) (kk p l e s m args below meth c b D κ N0 H locs ls C X)
theorem aw_aload_n {i : Fin 4} {r : Option Nat} (hd : decode M.2.1 pc = .ok (.aload_n i, 1)) (hl : L[(i : Nat)]? = some (some (va_rf r))) (kk : AW M al d mc ms Q k n (pc + 1) L (va_rf r :: st) h) : AW M al d mc ms Q k n pc L st h :=
  fun p l e s m args below meth c b D κ N0 H locs ls C X => by
    cases r with
    | none => exact lv_aload_nN C.1 C.2.1 hd rfl (X.2.2.2.2.at hl) (kk p l e s m args below meth c b D κ N0 H locs ls C X)
    | some a => exact lv_aload_n C.1 C.2.1 hd rfl (X.2.2.2.2.at hl) (kk p l e s m args below meth c b D κ N0 H locs ls C X)
theorem aw_aload_r {i : Fin 4} {a : Nat} (hd : decode M.2.1 pc = .ok (.aload_n i, 1)) (hl : L[(i : Nat)]? = some (some (.ref a))) (kk : AW M al d mc ms Q k n (pc + 1) L (.ref a :: st) h) : AW M al d mc ms Q k n pc L st h :=
  aw_aload_n (r := some a) hd hl kk
theorem aw_aload {i : Nat} {a : Nat} (hd : decode M.2.1 pc = .ok (.aload i, 2)) (hl : L[i]? = some (some (.ref a))) (kk : AW M al d mc ms Q k n (pc + 2) L (.ref a :: st) h) : AW M al d mc ms Q k n pc L st h :=
  fun p l e s m args below meth c b D κ N0 H locs ls C X => lv_aload C.1 C.2.1 hd (X.2.2.2.2.at hl) (kk p l e s m args below meth c b D κ N0 H locs ls C X)
theorem aw_istore_n {i : Fin 4} {v : Int32} (hd : decode M.2.1 pc = .ok (.istore_n i, 1)) (hn : (i : Nat) < M.2.2.1) (kk : AW M al d mc ms Q k n (pc + 1) (L.set i (some (.int v))) st h) : AW M al d mc ms Q k n pc L (.int v :: st) h :=
  fun p l e s m args below meth c b D κ N0 H locs ls C X => lv_istore_n C.1 C.2.1 hd rfl X.2.2.2.2.1 hn rfl (fun ls' h' => kk p l e s m args below meth c b D κ N0 H locs ls' C ⟨X.1, X.2.1, X.2.2.1, X.2.2.2.1, X.2.2.2.2.st (v := .int v) rfl h'⟩)
theorem aw_istore {i : Nat} {v : Int32} (hd : decode M.2.1 pc = .ok (.istore i, 2)) (hn : i < M.2.2.1) (kk : AW M al d mc ms Q k n (pc + 2) (L.set i (some (.int v))) st h) : AW M al d mc ms Q k n pc L (.int v :: st) h :=
  fun p l e s m args below meth c b D κ N0 H locs ls C X => lv_istore C.1 C.2.1 hd X.2.2.2.2.1 hn rfl (fun ls' h' => kk p l e s m args below meth c b D κ N0 H locs ls' C ⟨X.1, X.2.1, X.2.2.1, X.2.2.2.1, X.2.2.2.2.st (v := .int v) rfl h'⟩)
theorem aw_astore_n {i : Fin 4} {r : Option Nat} (hd : decode M.2.1 pc = .ok (.astore_n i, 1)) (hn : (i : Nat) < M.2.2.1) (kk : AW M al d mc ms Q k n (pc + 1) (L.set i (some (va_rf r))) st h) : AW M al d mc ms Q k n pc L (va_rf r :: st) h :=
  fun p l e s m args below meth c b D κ N0 H locs ls C X => by
    cases r with
    | none => exact lv_astore_nN C.1 C.2.1 hd rfl X.2.2.2.2.1 hn rfl (fun ls' h' => kk p l e s m args below meth c b D κ N0 H locs ls' C ⟨X.1, X.2.1, X.2.2.1, X.2.2.2.1, X.2.2.2.2.st (v := .null) rfl h'⟩)
    | some a => exact lv_astore_n C.1 C.2.1 hd rfl X.2.2.2.2.1 hn rfl (fun ls' h' => kk p l e s m args below meth c b D κ N0 H locs ls' C ⟨X.1, X.2.1, X.2.2.1, X.2.2.2.1, X.2.2.2.2.st (v := .ref a) rfl h'⟩)
theorem aw_astore {i : Nat} {r : Option Nat} (hd : decode M.2.1 pc = .ok (.astore i, 2)) (hn : i < M.2.2.1) (kk : AW M al d mc ms Q k n (pc + 2) (L.set i (some (va_rf r))) st h) : AW M al d mc ms Q k n pc L (va_rf r :: st) h :=
  fun p l e s m args below meth c b D κ N0 H locs ls C X => by
    cases r with
    | none => exact lv_astoreN C.1 C.2.1 hd X.2.2.2.2.1 hn rfl (fun ls' h' => kk p l e s m args below meth c b D κ N0 H locs ls' C ⟨X.1, X.2.1, X.2.2.1, X.2.2.2.1, X.2.2.2.2.st (v := .null) rfl h'⟩)
    | some a => exact lv_astore C.1 C.2.1 hd X.2.2.2.2.1 hn rfl (fun ls' h' => kk p l e s m args below meth c b D κ N0 H locs ls' C ⟨X.1, X.2.1, X.2.2.1, X.2.2.2.1, X.2.2.2.2.st (v := .ref a) rfl h'⟩)
theorem aw_iinc {i : Nat} {z : Int} {v w : Int32} (hd : decode M.2.1 pc = .ok (.iinc i z, 3)) (hl : L[i]? = some (some (.int v))) (hv : v + Int32.ofInt z = w) (hn : i < M.2.2.1) (kk : AW M al d mc ms Q k n (pc + 3) (L.set i (some (.int w))) st h) : AW M al d mc ms Q k n pc L st h :=
  fun p l e s m args below meth c b D κ N0 H locs ls C X => by
    obtain ⟨j, hj⟩ := List.mem_iff_getElem?.mp (lvl_mem (b := b) (L := L) (q := (i, .int v)).mpr ⟨.int v, hl, rfl⟩)
    exact lv_iinc C.1 C.2.1 hd X.2.2.2.2.1 hj hv hn rfl (fun ls' h' => kk p l e s m args below meth c b D κ N0 H locs ls' C ⟨X.1, X.2.1, X.2.2.1, X.2.2.2.1, X.2.2.2.2.st (v := .int w) rfl h'⟩)
theorem aw_iadd {v w : Int32} (hd : decode M.2.1 pc = .ok (.iadd, 1)) (kk : AW M al d mc ms Q k n (pc + 1) L (.int (v + w) :: st) h) : AW M al d mc ms Q k n pc L (.int w :: .int v :: st) h :=
  fun p l e s m args below meth c b D κ N0 H locs ls C X => lv_iadd C.1 C.2.1 hd (kk p l e s m args below meth c b D κ N0 H locs ls C X)
theorem aw_isub {v w : Int32} (hd : decode M.2.1 pc = .ok (.isub, 1)) (kk : AW M al d mc ms Q k n (pc + 1) L (.int (v - w) :: st) h) : AW M al d mc ms Q k n pc L (.int w :: .int v :: st) h :=
  fun p l e s m args below meth c b D κ N0 H locs ls C X => lv_isub C.1 C.2.1 hd (kk p l e s m args below meth c b D κ N0 H locs ls C X)
theorem aw_imul {v w : Int32} (hd : decode M.2.1 pc = .ok (.imul, 1)) (kk : AW M al d mc ms Q k n (pc + 1) L (.int (v * w) :: st) h) : AW M al d mc ms Q k n pc L (.int w :: .int v :: st) h :=
  fun p l e s m args below meth c b D κ N0 H locs ls C X => lv_imul C.1 C.2.1 hd (kk p l e s m args below meth c b D κ N0 H locs ls C X)
theorem aw_idiv {v w : Int32} (hd : decode M.2.1 pc = .ok (.idiv, 1)) (hw : ¬ w = 0) (kk : AW M al d mc ms Q k n (pc + 1) L (.int (v / w) :: st) h) : AW M al d mc ms Q k n pc L (.int w :: .int v :: st) h :=
  fun p l e s m args below meth c b D κ N0 H locs ls C X => lv_idiv C.1 C.2.1 hd hw (kk p l e s m args below meth c b D κ N0 H locs ls C X)
theorem aw_irem {v w : Int32} (hd : decode M.2.1 pc = .ok (.irem, 1)) (hw : ¬ w = 0) (kk : AW M al d mc ms Q k n (pc + 1) L (.int (v - v / w * w) :: st) h) : AW M al d mc ms Q k n pc L (.int w :: .int v :: st) h :=
  fun p l e s m args below meth c b D κ N0 H locs ls C X => lv_irem C.1 C.2.1 hd hw (kk p l e s m args below meth c b D κ N0 H locs ls C X)
theorem aw_ineg {v : Int32} (hd : decode M.2.1 pc = .ok (.ineg, 1)) (kk : AW M al d mc ms Q k n (pc + 1) L (.int (-v) :: st) h) : AW M al d mc ms Q k n pc L (.int v :: st) h :=
  fun p l e s m args below meth c b D κ N0 H locs ls C X => lv_ineg C.1 C.2.1 hd (kk p l e s m args below meth c b D κ N0 H locs ls C X)
theorem aw_dup {v : Value} (hd : decode M.2.1 pc = .ok (.dup, 1)) (hv : v.category = 1) (kk : AW M al d mc ms Q k n (pc + 1) L (v :: v :: st) h) : AW M al d mc ms Q k n pc L (v :: st) h :=
  fun p l e s m args below meth c b D κ N0 H locs ls C X => lv_dup C.1 C.2.1 hd ((rv_cat b v).trans hv) (kk p l e s m args below meth c b D κ N0 H locs ls C X)
theorem aw_dup2 {v w : Value} (hd : decode M.2.1 pc = .ok (.dup2, 1)) (hv : v.category = 1) (hw : w.category = 1) (kk : AW M al d mc ms Q k n (pc + 1) L (v :: w :: v :: w :: st) h) : AW M al d mc ms Q k n pc L (v :: w :: st) h :=
  fun p l e s m args below meth c b D κ N0 H locs ls C X => lv_dup2_11 C.1 C.2.1 hd ((rv_cat b v).trans hv) ((rv_cat b w).trans hw) (kk p l e s m args below meth c b D κ N0 H locs ls C X)
theorem aw_pop {v : Value} (hd : decode M.2.1 pc = .ok (.pop, 1)) (hv : v.category = 1) (kk : AW M al d mc ms Q k n (pc + 1) L st h) : AW M al d mc ms Q k n pc L (v :: st) h :=
  fun p l e s m args below meth c b D κ N0 H locs ls C X => lv_pop C.1 C.2.1 hd ((rv_cat b v).trans hv) (kk p l e s m args below meth c b D κ N0 H locs ls C X)
theorem aw_goto {off : Int} {tgt : Nat} (hd : decode M.2.1 pc = .ok (.goto off, 3)) (ht : (pc : Int) + off = (tgt : Int)) (kk : AW M al d mc ms Q k n tgt L st h) : AW M al d mc ms Q k n pc L st h :=
  fun p l e s m args below meth c b D κ N0 H locs ls C X => lv_goto C.1 C.2.1 hd ht (kk p l e s m args below meth c b D κ N0 H locs ls C X)
theorem aw_null (hd : decode M.2.1 pc = .ok (.aconst_null, 1)) (kk : AW M al d mc ms Q k n (pc + 1) L (.null :: st) h) : AW M al d mc ms Q k n pc L st h :=
  fun p l e s m args below meth c b D κ N0 H locs ls C X => lv_null C.1 C.2.1 hd (kk p l e s m args below meth c b D κ N0 H locs ls C X)
theorem aw_ifnonnull {r : Option Nat} {off : Int} {tgt : Nat} (hd : decode M.2.1 pc = .ok (.ifnonnull off, 3)) (ht : (pc : Int) + off = (tgt : Int)) (kt : (∀ a, r = some a → AW M al d mc ms Q k n tgt L st h)) (kf : r = none → AW M al d mc ms Q k n (pc + 3) L st h) : AW M al d mc ms Q k n pc L (va_rf r :: st) h :=
  fun p l e s m args below meth c b D κ N0 H locs ls C X => by
    cases r with
    | none => exact lv_ifnonnullN C.1 C.2.1 hd (kf rfl p l e s m args below meth c b D κ N0 H locs ls C X)
    | some a => exact lv_ifnonnull C.1 C.2.1 hd ht (kt a rfl p l e s m args below meth c b D κ N0 H locs ls C X)
theorem aw_ifnull {r : Option Nat} {off : Int} {tgt : Nat} (hd : decode M.2.1 pc = .ok (.ifnull off, 3)) (ht : (pc : Int) + off = (tgt : Int)) (kt : r = none → AW M al d mc ms Q k n tgt L st h) (kf : ∀ a, r = some a → AW M al d mc ms Q k n (pc + 3) L st h) : AW M al d mc ms Q k n pc L (va_rf r :: st) h :=
  fun p l e s m args below meth c b D κ N0 H locs ls C X => by
    cases r with
    | none => exact lv_ifnullN C.1 C.2.1 hd ht (kt rfl p l e s m args below meth c b D κ N0 H locs ls C X)
    | some a => exact lv_ifnull C.1 C.2.1 hd (kf a rfl p l e s m args below meth c b D κ N0 H locs ls C X)
theorem aw_icmp_eq {x y : Int32} {off : Int} {tgt : Nat} (hd : decode M.2.1 pc = .ok (.if_icmp .eq off, 3)) (ht : (pc : Int) + off = (tgt : Int)) (kt : x = y → AW M al d mc ms Q k n tgt L st h) (kf : ¬ x = y → AW M al d mc ms Q k n (pc + 3) L st h) : AW M al d mc ms Q k n pc L (.int y :: .int x :: st) h :=
  fun p l e s m args below meth c b D κ N0 H locs ls C X => lv_icmp_eq C.1 C.2.1 hd ht (fun q => kt q p l e s m args below meth c b D κ N0 H locs ls C X) (fun q => kf q p l e s m args below meth c b D κ N0 H locs ls C X)
theorem aw_if_eq {x : Int32} {off : Int} {tgt : Nat} (hd : decode M.2.1 pc = .ok (.ifCond .eq off, 3)) (ht : (pc : Int) + off = (tgt : Int)) (kt : x = 0 → AW M al d mc ms Q k n tgt L st h) (kf : ¬ x = 0 → AW M al d mc ms Q k n (pc + 3) L st h) : AW M al d mc ms Q k n pc L (.int x :: st) h :=
  fun p l e s m args below meth c b D κ N0 H locs ls C X => lv_if_eq C.1 C.2.1 hd ht (fun q => kt q p l e s m args below meth c b D κ N0 H locs ls C X) (fun q => kf q p l e s m args below meth c b D κ N0 H locs ls C X)
theorem aw_icmp_ne {x y : Int32} {off : Int} {tgt : Nat} (hd : decode M.2.1 pc = .ok (.if_icmp .ne off, 3)) (ht : (pc : Int) + off = (tgt : Int)) (kt : ¬ x = y → AW M al d mc ms Q k n tgt L st h) (kf : x = y → AW M al d mc ms Q k n (pc + 3) L st h) : AW M al d mc ms Q k n pc L (.int y :: .int x :: st) h :=
  fun p l e s m args below meth c b D κ N0 H locs ls C X => lv_icmp_ne C.1 C.2.1 hd ht (fun q => kt q p l e s m args below meth c b D κ N0 H locs ls C X) (fun q => kf q p l e s m args below meth c b D κ N0 H locs ls C X)
theorem aw_if_ne {x : Int32} {off : Int} {tgt : Nat} (hd : decode M.2.1 pc = .ok (.ifCond .ne off, 3)) (ht : (pc : Int) + off = (tgt : Int)) (kt : ¬ x = 0 → AW M al d mc ms Q k n tgt L st h) (kf : x = 0 → AW M al d mc ms Q k n (pc + 3) L st h) : AW M al d mc ms Q k n pc L (.int x :: st) h :=
  fun p l e s m args below meth c b D κ N0 H locs ls C X => lv_if_ne C.1 C.2.1 hd ht (fun q => kt q p l e s m args below meth c b D κ N0 H locs ls C X) (fun q => kf q p l e s m args below meth c b D κ N0 H locs ls C X)
theorem aw_icmp_lt {x y : Int32} {off : Int} {tgt : Nat} (hd : decode M.2.1 pc = .ok (.if_icmp .lt off, 3)) (ht : (pc : Int) + off = (tgt : Int)) (kt : x < y → AW M al d mc ms Q k n tgt L st h) (kf : ¬ x < y → AW M al d mc ms Q k n (pc + 3) L st h) : AW M al d mc ms Q k n pc L (.int y :: .int x :: st) h :=
  fun p l e s m args below meth c b D κ N0 H locs ls C X => lv_icmp_lt C.1 C.2.1 hd ht (fun q => kt q p l e s m args below meth c b D κ N0 H locs ls C X) (fun q => kf q p l e s m args below meth c b D κ N0 H locs ls C X)
theorem aw_if_lt {x : Int32} {off : Int} {tgt : Nat} (hd : decode M.2.1 pc = .ok (.ifCond .lt off, 3)) (ht : (pc : Int) + off = (tgt : Int)) (kt : x < 0 → AW M al d mc ms Q k n tgt L st h) (kf : ¬ x < 0 → AW M al d mc ms Q k n (pc + 3) L st h) : AW M al d mc ms Q k n pc L (.int x :: st) h :=
  fun p l e s m args below meth c b D κ N0 H locs ls C X => lv_if_lt C.1 C.2.1 hd ht (fun q => kt q p l e s m args below meth c b D κ N0 H locs ls C X) (fun q => kf q p l e s m args below meth c b D κ N0 H locs ls C X)
theorem aw_icmp_ge {x y : Int32} {off : Int} {tgt : Nat} (hd : decode M.2.1 pc = .ok (.if_icmp .ge off, 3)) (ht : (pc : Int) + off = (tgt : Int)) (kt : y ≤ x → AW M al d mc ms Q k n tgt L st h) (kf : ¬ y ≤ x → AW M al d mc ms Q k n (pc + 3) L st h) : AW M al d mc ms Q k n pc L (.int y :: .int x :: st) h :=
  fun p l e s m args below meth c b D κ N0 H locs ls C X => lv_icmp_ge C.1 C.2.1 hd ht (fun q => kt q p l e s m args below meth c b D κ N0 H locs ls C X) (fun q => kf q p l e s m args below meth c b D κ N0 H locs ls C X)
theorem aw_if_ge {x : Int32} {off : Int} {tgt : Nat} (hd : decode M.2.1 pc = .ok (.ifCond .ge off, 3)) (ht : (pc : Int) + off = (tgt : Int)) (kt : 0 ≤ x → AW M al d mc ms Q k n tgt L st h) (kf : ¬ 0 ≤ x → AW M al d mc ms Q k n (pc + 3) L st h) : AW M al d mc ms Q k n pc L (.int x :: st) h :=
  fun p l e s m args below meth c b D κ N0 H locs ls C X => lv_if_ge C.1 C.2.1 hd ht (fun q => kt q p l e s m args below meth c b D κ N0 H locs ls C X) (fun q => kf q p l e s m args below meth c b D κ N0 H locs ls C X)
theorem aw_icmp_gt {x y : Int32} {off : Int} {tgt : Nat} (hd : decode M.2.1 pc = .ok (.if_icmp .gt off, 3)) (ht : (pc : Int) + off = (tgt : Int)) (kt : y < x → AW M al d mc ms Q k n tgt L st h) (kf : ¬ y < x → AW M al d mc ms Q k n (pc + 3) L st h) : AW M al d mc ms Q k n pc L (.int y :: .int x :: st) h :=
  fun p l e s m args below meth c b D κ N0 H locs ls C X => lv_icmp_gt C.1 C.2.1 hd ht (fun q => kt q p l e s m args below meth c b D κ N0 H locs ls C X) (fun q => kf q p l e s m args below meth c b D κ N0 H locs ls C X)
theorem aw_if_gt {x : Int32} {off : Int} {tgt : Nat} (hd : decode M.2.1 pc = .ok (.ifCond .gt off, 3)) (ht : (pc : Int) + off = (tgt : Int)) (kt : 0 < x → AW M al d mc ms Q k n tgt L st h) (kf : ¬ 0 < x → AW M al d mc ms Q k n (pc + 3) L st h) : AW M al d mc ms Q k n pc L (.int x :: st) h :=
  fun p l e s m args below meth c b D κ N0 H locs ls C X => lv_if_gt C.1 C.2.1 hd ht (fun q => kt q p l e s m args below meth c b D κ N0 H locs ls C X) (fun q => kf q p l e s m args below meth c b D κ N0 H locs ls C X)
theorem aw_icmp_le {x y : Int32} {off : Int} {tgt : Nat} (hd : decode M.2.1 pc = .ok (.if_icmp .le off, 3)) (ht : (pc : Int) + off = (tgt : Int)) (kt : x ≤ y → AW M al d mc ms Q k n tgt L st h) (kf : ¬ x ≤ y → AW M al d mc ms Q k n (pc + 3) L st h) : AW M al d mc ms Q k n pc L (.int y :: .int x :: st) h :=
  fun p l e s m args below meth c b D κ N0 H locs ls C X => lv_icmp_le C.1 C.2.1 hd ht (fun q => kt q p l e s m args below meth c b D κ N0 H locs ls C X) (fun q => kf q p l e s m args below meth c b D κ N0 H locs ls C X)
theorem aw_if_le {x : Int32} {off : Int} {tgt : Nat} (hd : decode M.2.1 pc = .ok (.ifCond .le off, 3)) (ht : (pc : Int) + off = (tgt : Int)) (kt : x ≤ 0 → AW M al d mc ms Q k n tgt L st h) (kf : ¬ x ≤ 0 → AW M al d mc ms Q k n (pc + 3) L st h) : AW M al d mc ms Q k n pc L (.int x :: st) h :=
  fun p l e s m args below meth c b D κ N0 H locs ls C X => lv_if_le C.1 C.2.1 hd ht (fun q => kt q p l e s m args below meth c b D κ N0 H locs ls C X) (fun q => kf q p l e s m args below meth c b D κ N0 H locs ls C X)
end AWR
