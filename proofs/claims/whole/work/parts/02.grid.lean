theorem gr_over {args : Array Value} {first s : State} {o : Option Outcome} {idx : List Nat} (h : (Cond.arrayOver (.array .int)).holds args first o s idx = true) :
    ∃ comp c k, s.vm.findClass (FieldType.array .int).toString = some comp ∧ (s.vm.classes.findIdx? fun (x : Class) => match x.kind with | .array component _ => component == comp | _ => false) = some c ∧ s.vm.classes[c]? = some k ∧ k.kind = .array comp (.array .int) ∧ s.vm.findClass ("[" ++ (FieldType.array .int).toString) = some c := by
  unfold Cond.holds at h
  simp only [Cond.value] at h
  generalize e1 : s.vm.findClass (FieldType.array .int).toString = o1 at h
  cases o1 with
  | none => exact absurd h Bool.false_ne_true
  | some comp =>
    rw [Option.bind_some] at h
    generalize e2 : (s.vm.classes.findIdx? fun (x : Class) => match x.kind with | .array component _ => component == comp | _ => false) = o2 at h
    cases o2 with
    | none => exact absurd h Bool.false_ne_true
    | some c =>
      rw [Option.bind_some] at h
      generalize e3 : s.vm.classes[c]? = o3 at h
      cases o3 with
      | none => exact absurd h Bool.false_ne_true
      | some k =>
        have hk : s.vm.classes[c]? = some k := e3
        obtain ⟨hlt, hp, -⟩ := Array.findIdx?_eq_some_iff_getElem.mp e2
        rw [Array.getElem?_eq_getElem hlt, Option.some.injEq] at e3
        rw [e3] at hp
        refine ⟨comp, c, k, rfl, e2, hk, ?_⟩
        have h' := Option.some.inj (eq_of_beq h)
        dsimp only at h'
        generalize k.kind = q at hp h'
        cases q with
        | array a b =>
          have hp' : a = comp := eq_of_beq hp
          have h3 := Bool.and_eq_true_iff.mp h'
          exact ⟨by rw [hp', of_decide_eq_true h3.1], of_decide_eq_true h3.2⟩
        | _ => exact absurd hp Bool.false_ne_true
def gr_row (k : ClassId) : Cell := { cls := k, slots := Array.replicate 40 (.int 0) }
def gr_out (c : ClassId) (a i : Nat) : Cell := arrV c 4 (fun j => va_rf (if j < i then some (a + 1 + j) else none))
def gr_st (S : State) (c k : ClassId) : Nat → State
  | 0 => S.pushCell (gr_out c S.heap.size 0)
  | i + 1 => ((gr_st S c k i).pushCell (gr_row k)).setCell S.heap.size (gr_out c S.heap.size (i + 1))
theorem gr_out0 (c : ClassId) (a : Nat) : ({ cls := c, slots := Array.replicate 4 .null } : Cell) = gr_out c a 0 := by
  rw [show ({ cls := c, slots := Array.replicate 4 .null } : Cell) = arrV c 4 (fun _ => .null) from arrV_new c 4 .null]
  rfl
theorem gr_outS (c : ClassId) (a i : Nat) : (gr_out c a i).setSlot i (.ref (a + 1 + i)) = gr_out c a (i + 1) := by
  unfold gr_out
  rw [arrV_store]
  congr 1
  funext j
  unfold updV
  by_cases h : j = i
  · subst h; rw [if_pos rfl, if_pos (Nat.lt_succ_self _)]; rfl
  · rw [if_neg h]
    show va_rf (if j < i then some (a + 1 + j) else none) = _
    by_cases h2 : j < i
    · rw [if_pos h2, if_pos (by omega)]
    · rw [if_neg h2, if_neg (by omega)]
theorem gr_all (S : State) (c k : ClassId) : ∀ i : Nat, (gr_st S c k i).heap.size = S.heap.size + 1 + i ∧ (gr_st S c k i).heap[S.heap.size]? = some (gr_out c S.heap.size i) ∧ (gr_st S c k i).vm = S.vm ∧ (gr_st S c k i).slotsUsed = S.slotsUsed + 4 + 40 * i ∧
    (∀ x : Nat, x < S.heap.size → (gr_st S c k i).heap[x]? = S.heap[x]?) ∧ ∀ j : Nat, j < i → (gr_st S c k i).heap[S.heap.size + 1 + j]? = some (gr_row k) := by
  intro i
  induction i with
  | zero =>
    refine ⟨by show (S.heap.push _).size = _; rw [Array.size_push], State.heap_pushCell_size _ _, rfl, ?_, fun x hx => State.heap_pushCell_of_lt _ _ hx, fun j hj => by omega⟩
    show S.slotsUsed + (gr_out c S.heap.size 0).slots.size = _
    rw [show (gr_out c S.heap.size 0).slots.size = 4 from arrV_size _ _ _]
  | succ i ih =>
    obtain ⟨h1, h2, h3, h4, h5, h6⟩ := ih
    have hb : ∀ x : Nat, x < S.heap.size + 1 + i → ((gr_st S c k i).pushCell (gr_row k)).heap[x]? = (gr_st S c k i).heap[x]? := fun x hx => State.heap_pushCell_of_lt _ _ (by rw [h1]; exact hx)
    have hz : ((gr_st S c k i).pushCell (gr_row k)).heap[S.heap.size]? = some (gr_out c S.heap.size i) := (hb _ (by omega)).trans h2
    have ho : ∀ x : Nat, x ≠ S.heap.size → (gr_st S c k (i + 1)).heap[x]? = ((gr_st S c k i).pushCell (gr_row k)).heap[x]? := fun x hx => State.heap_setCell_other (fun q => hx q.symm)
    refine ⟨?_, State.heap_setCell_self hz, h3, ?_, fun x hx => ?_, fun j hj => ?_⟩
    · show (((gr_st S c k i).heap.push _).setIfInBounds _ _).size = _
      rw [Array.size_setIfInBounds, Array.size_push, h1]; omega
    · show (gr_st S c k i).slotsUsed + (Array.replicate 40 (Value.int 0)).size = _
      rw [Array.size_replicate, h4]; omega
    · exact (ho x (by omega)).trans ((hb x (by omega)).trans (h5 x hx))
    · refine (ho _ (by omega)).trans ?_
      by_cases e : j = i
      · subst e; rw [← h1]; exact State.heap_pushCell_size _ _
      · exact (hb _ (by omega)).trans (h6 j (by omega))
theorem gr_top (S : State) (f : JFrame) (c k : ClassId) : ∀ i : Nat, gr_st (S.setTop f) c k i = (gr_st S c k i).setTop f := by
  intro i
  induction i with
  | zero => rfl
  | succ i ih =>
    show ((gr_st (S.setTop f) c k i).pushCell _).setCell _ _ = _
    rw [ih]
    rfl
section GRX
variable {p : Program} {l : Launch} {e : Env} {R : Room} {s : State} {m : MethodId} {args : Array Value} {below : List Frame} {meth : Method} {cd : Code} {T : State} {locs : List Loc} {cells slots : Nat}
theorem gr_stand (X : Stand p l e R s m args below meth cd T locs cells slots) (c k : ClassId) : ∀ i : Nat, Stand p l e R s m args below meth cd (gr_st T c k i) locs (cells + 1 + i) (slots + 4 + 40 * i) := by
  intro i
  induction i with
  | zero =>
    have h := X.pushed (gr_out c T.heap.size 0)
    rw [show (gr_out c T.heap.size 0).slots.size = 4 from arrV_size _ _ _] at h
    exact h
  | succ i ih =>
    obtain ⟨h1, h2, -⟩ := gr_all T c k i
    have hb : T.heap.size < (gr_st T c k i).heap.size := by omega
    have hz : ((gr_st T c k i).pushCell (gr_row k)).heap[T.heap.size]? = some (gr_out c T.heap.size i) := (State.heap_pushCell_of_lt _ _ hb).trans h2
    have h := (ih.pushed (gr_row k)).stored hz i (.ref (T.heap.size + 1 + i))
    rw [gr_outS, show (gr_row k).slots.size = 40 from Array.size_replicate] at h
    have h' := h.dropFresh (fun x hx => by cases List.mem_singleton.mp hx; exact X.heapGrown)
    have e3 : slots + 4 + 40 * (i + 1) = slots + 4 + 40 * i + 40 := by omega
    rw [e3]
    exact h'
end GRX
section GRW
variable {E : CtlPost} {e : Env} {d : Bool} {acts : List Action} {U : State}
theorem gr_z4 : ¬ (4 : Int32) < 0 := by decide
theorem gr_z40 : ¬ (40 : Int32) < 0 := by decide
theorem gr_c4 : (4 : Int32).toNatClampNeg = 4 := by decide
theorem gr_c40 : (40 : Int32).toNatClampNeg = 40 := by decide
theorem gr_in {k cc : ClassId} {kk : Class} (h3 : U.vm.classes[k]? = some kk) (h4 : kk.kind = .array cc .int) (hl : 40 ≤ e.platform.arrayLengthLimit) (hh : 160 ≤ e.platform.maxHeapBytes) (hc : U.heap.size < e.platform.maxCells) (hs : U.slotsUsed + 40 ≤ e.platform.maxSlots)
    {Q : Addr → Pre} (hq : ∀ acts', Q U.heap.size d acts' (U.pushCell (gr_row k))) : wp (multianewarray.make k [40]) Q E e d acts U := by
  rw [multianewarray.make]
  simp only [wp_bind', W.ite, gr_z40, if_false, wp_pure', W.theClass, h3, h4, gr_c40, Option.some.injEq, exists_eq_left']
  refine W.newArray_of h3 h4 (by omega) (by show ¬ 40 * 4 > _; omega) hc hs rfl hq
theorem gr_turn {c k cc : ClassId} {kc kk : Class} (h1 : U.vm.classes[c]? = some kc) (h2 : kc.kind = .array k (.array .int)) (h3 : U.vm.classes[k]? = some kk) (h4 : kk.kind = .array cc .int) (hl : 40 ≤ e.platform.arrayLengthLimit) (hh : 160 ≤ e.platform.maxHeapBytes) (hc : U.heap.size + 5 ≤ e.platform.maxCells) (hs : U.slotsUsed + 164 ≤ e.platform.maxSlots) {i : Nat} (hi : i < 4)
    {Q : ForInStep PUnit → Pre} (hq : ∀ d' acts', Q (.yield PUnit.unit) d' acts' (gr_st U c k (i + 1))) : wp (multianewarray.make k [40]) (fun a => wp (do writeLoc U.heap.size i (.ref a); Pure.pure (ForInStep.yield PUnit.unit)) Q E e) E e d acts (gr_st U c k i) := by
  obtain ⟨g1, g2, g3, g4, -, -⟩ := gr_all U c k i
  have hb : U.heap.size < (gr_st U c k i).heap.size := by omega
  refine gr_in (by rw [g3]; exact h3) h4 hl hh (by omega) (by omega) (fun acts' => ?_)
  simp only [wp_bind', W.writeLoc, wp_pure']
  refine ⟨gr_out c U.heap.size i, (State.heap_pushCell_of_lt _ _ hb).trans g2, (by intro q; cases q), (by rw [show (gr_out c U.heap.size i).slots.size = 4 from arrV_size _ _ _]; exact hi), ?_, ?_⟩
  · show State.fitsSlot ((gr_st U c k i).pushCell (gr_row k)) c .none i _ = true
    simp [State.fitsSlot, State.slotType?, g3, h1, h2, fits]
  · rw [g1, gr_outS]
    exact hq _ _
theorem gr_make {c k cc : ClassId} {kc kk : Class} (h1 : U.vm.classes[c]? = some kc) (h2 : kc.kind = .array k (.array .int)) (h3 : U.vm.classes[k]? = some kk) (h4 : kk.kind = .array cc .int) (hl : 40 ≤ e.platform.arrayLengthLimit) (hh : 160 ≤ e.platform.maxHeapBytes) (hc : U.heap.size + 5 ≤ e.platform.maxCells) (hs : U.slotsUsed + 164 ≤ e.platform.maxSlots)
    {Q : Addr → Pre} (hq : ∀ d' acts', Q U.heap.size d' acts' (gr_st U c k 4)) : wp (multianewarray.make c [4, 40]) Q E e d acts U := by
  rw [multianewarray.make]
  simp only [wp_bind', W.ite, gr_z4, if_false, wp_pure', W.theClass, h1, h2, gr_c4, Option.some.injEq, exists_eq_left']
  refine W.newArray_of h1 h2 (by omega) (by show ¬ 4 * 4 > _; omega) (by omega) (by omega) rfl (fun acts' => ?_)
  rw [gr_out0 c U.heap.size]
  simp only [show ([40] : List Int32).find? (· < 0) = none from by decide, ite_self, Std.Legacy.Range.forIn_eq_forIn_range', show ([0:4] : Std.Legacy.Range).size = 4 from rfl, List.range'_succ, List.range'_zero, List.forIn_cons, List.forIn_nil, wp_bind', wp_pure']
  refine gr_turn (i := 0) h1 h2 h3 h4 hl hh hc hs (by decide) (fun d1 a1 => ?_)
  simp only [wp_bind']
  refine gr_turn (i := 1) h1 h2 h3 h4 hl hh hc hs (by decide) (fun d2 a2 => ?_)
  simp only [wp_bind']
  refine gr_turn (i := 2) h1 h2 h3 h4 hl hh hc hs (by decide) (fun d3 a3 => ?_)
  simp only [wp_bind']
  refine gr_turn (i := 3) h1 h2 h3 h4 hl hh hc hs (by decide) (fun d4 a4 => ?_)
  exact hq _ _
end GRW
section GRS
variable {p : Program} {l : Launch} {e : Env} {R : Room} {s : State} {m : MethodId} {args : Array Value} {below : List Frame} {meth : Method} {cd : Code} {T : State} {locs : List Loc} {cells slots : Nat}
theorem gr_step (X : Stand p l e R s m args below meth cd T locs cells slots) (hexec : p.tables.exec = Jvm.exec) {own : String} {index : Nat} (hown : s.vm.findClass own = some m.cls) (w1 : (Cond.classLink own index "[[I").before args s = true) (w2 : (Cond.arrayOver (.array .int)).before args s = true) (w3 : (Cond.arrayClass .int).before args s = true)
    {g : JFrame} (hg : g.method = m) (hdg : decode cd.code g.pc = .ok (.multianewarray index 2, 4)) {rest : List Value} (hst : g.stack = .int 40 :: .int 4 :: rest) (hcells : cells + 5 ≤ R.cells) (hslots : slots + 164 ≤ R.slots) :
    ∃ (vm₁ : Vm) (c k : ClassId), s.vm.findClass "[[I" = some c ∧ s.vm.findClass "[I" = some k ∧ Stand p l e R s m args below meth cd (gr_st (T.setVm vm₁) c k 4) locs (cells + 5) (slots + 164) ∧
      ∀ t, Steps p.tables e below ((gr_st (T.setVm vm₁) c k 4).setTop { g with pc := g.pc + 4, stack := .ref T.heap.size :: rest }) t → Steps p.tables e below (T.setTop g) t := by
  subst hg
  obtain ⟨k, c, kc, f1, -, f2, f3, f4⟩ := gr_over w2
  obtain ⟨k', kk, cc, f5, f6, f7⟩ := Cond.arrayClass_spec w3
  have s1 : (FieldType.array .int).toString = "[I" := by decide +kernel
  have s2 : "[" ++ (FieldType.array .int).toString = "[[I" := by decide +kernel
  have s3 : "[" ++ FieldType.int.toString = "[I" := by decide +kernel
  rw [s1] at f1
  rw [s2] at f4
  rw [s3] at f5
  cases f1.symm.trans f5
  obtain ⟨c', f8, hcl⟩ := Cond.classLink_spec hown w1 e.platform (by rw [X.admits.platform])
  cases f4.symm.trans f8
  obtain ⟨r1, r2, -⟩ := State.classEntry (e := e) X.warmed hcl
  generalize T.vm.noted g.method.cls index (.cls c) = vm₁ at r1 r2
  obtain ⟨kc1, q1, q2⟩ := r2.alike.2.2 _ _ f2
  obtain ⟨kk1, q3, q4⟩ := r2.alike.2.2 _ _ f6
  have f3' : kc1.kind = .array k (.array .int) := by rw [q2]; exact f3
  have f7' : kk1.kind = .array cc .int := by rw [q4]; exact f7
  have X1 := X.noted r2
  have XF := gr_stand X1 c k 4
  obtain ⟨m1, m2⟩ := X.roomAbove hcells hslots
  refine ⟨vm₁, c, k, f4, f1, XF, fun t ht => ?_⟩
  jvm_step X.here [hexec, hdg]
  simp only [multianewarray.sem, wp_bind', W.resolveClassAt_links (State.method?_setTop g X.here.top) r1]
  show wp (popN ([.int 4, .int 40] : List Value).length) _ _ e false [] ((T.setVm vm₁).setTop g)
  rw [popN_top X1.here.top (args := [.int 4, .int 40]) hst]
  simp only [List.mapM_cons, List.mapM_nil, wp_bind', wp_pure']
  refine gr_make (U := (T.setVm vm₁).setTop { g with stack := rest }) (c := c) (k := k) q1 f3' q3 f7' (by rw [Launch.admits_arrayLengthLimit X.admits]; decide) (by rw [Launch.admits_maxHeapBytes X.admits]; decide) m1 m2 (fun d' acts' => ?_)
  rw [gr_top]
  simp only [wp_bind', W.mark, W.pushRef, State.topJava?_setTop' _ XF.here.top, Option.some.injEq, exists_eq_left', State.setTop_setTop, State.heap_setTop]
  intro acts
  simp [jvm, XF.here.top]
  exact ht
end GRS
