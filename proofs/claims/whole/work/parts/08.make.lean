theorem kx_max : Cond.code Lib.Math.max.name Lib.Math.max.code 2 (some .int) ∈ ktbl := k_at 297 (by decide +kernel) (by decide +kernel)
theorem kx_min : Cond.code Lib.Math.min.name Lib.Math.min.code 2 (some .int) ∈ ktbl := k_at 331 (by decide +kernel) (by decide +kernel)
theorem kx_abs : Cond.code Lib.Math.abs.name Lib.Math.abs.code 1 (some .int) ∈ ktbl := k_at 300 (by decide +kernel) (by decide +kernel)
theorem kx_maxS : Cond.static Lib.Math.max.name ∈ ktbl := k_at 296 (by decide +kernel) (by decide +kernel)
theorem kx_minS : Cond.static Lib.Math.min.name ∈ ktbl := k_at 330 (by decide +kernel) (by decide +kernel)
theorem kx_absS : Cond.static Lib.Math.abs.name ∈ ktbl := k_at 299 (by decide +kernel) (by decide +kernel)
theorem kx_math : Cond.initialized "java/lang/Math" ∈ ktbl := k_at 63 (by decide +kernel) (by decide +kernel)
theorem kx_sys : Cond.initialized "java/lang/System" ∈ ktbl := k_at 64 (by decide +kernel) (by decide +kernel)
theorem kx_cpS : Cond.static arraycopyName ∈ ktbl := k_at 442 (by decide +kernel) (by decide +kernel)
theorem kx_cpN : Cond.native arraycopyName ∈ ktbl := k_at 443 (by decide +kernel) (by decide +kernel)
theorem kx_obI : Cond.instanceMethod Lib.objectInit ∈ ktbl := k_at 71 (by decide +kernel) (by decide +kernel)
theorem kx_obC : Cond.code Lib.objectInit ⟨#[0xb1]⟩ 1 none ∈ ktbl := k_at 72 (by decide +kernel) (by decide +kernel)
theorem kx_ai : Cond.arrayClass .int ∈ ktbl := by decide +kernel
theorem kx_az : Cond.arrayClass .boolean ∈ ktbl := by decide +kernel
theorem kx_ao : Cond.arrayOver (.object "EarChart$Row") ∈ ktbl := by decide +kernel
theorem kx_aoa : Cond.arrayOver (.array .int) ∈ ktbl := by decide +kernel
section AWM
variable {M : MI} {al : Bool} {d mc ms : Nat} {Q : QT} {k n : Nat} {pc : Nat} {L : List (Option Value)} {st : List Value} {h : List AC}
theorem aw_callG {kind ix nP d' mc' ms' : Nat} {M' : MI} {as : List Value} {Q' : QT} {st0 : List Value} (g : CGk kind M.1.cls ix M' nP) (hM : AMet M' al d' mc' ms' as h Q')
    (hd : decode M.2.1 pc = .ok ((match kind with | 0 => .invokestatic ix | 1 => .invokevirtual ix | _ => .invokespecial ix), 3)) (hk : kind < 3)
    (hthis : 0 < kind → ∃ (a : Nat) (as' : List Value), as = .ref a :: as' ∧ as'.length = nP ∧ (kind = 1 → ∃ ci fs q, h[a]? = some (.inr (ci, fs)) ∧ kclasses[ci]? = some q ∧ q.1 = M'.1.cls)) (hlen : kind = 0 → as.length = nP)
    (hst : st0 = as.reverse ++ st) (hW : (st.map fun v => v.category).sum ≤ 8) (hdd : d' + 1 ≤ d) (hf : k + mc' ≤ mc ∧ n + ms' ≤ ms)
    (kk : ∀ (r : Option Value) (h' : List AC), Q' r h' → (al = false → h'.length = h.length) → AW M al d mc ms Q (k + mc') (n + ms') (pc + 3) L (r.toList ++ st) h') :
    AW M al d mc ms Q k n pc L st0 h := by
  have e : h = [] ++ h.map (sh ([] : List AC).length) ++ [] := by simp [sh_zeroL]
  have := aw_callW (M := M) (al := al) (d := d) (mc := mc) (ms := ms) (Q := Q) (k := k) (n := n) (pc := pc) (L := L) (st := st) (pre := []) (hc := h) (post := []) (st0 := st0) g hM hd hk hthis hlen (by rw [hst]; show _ = (as.map (rv 0)).reverse ++ st; rw [rv_zeroL]) hW hdd hf (fun _ => rfl) (fun r hc' hq hl => by
    have := kk r hc' hq hl
    show AW M al d mc ms Q (k + mc') (n + ms') (pc + 3) L ((r.map (rv 0)).toList ++ st) ([] ++ hc'.map (sh 0) ++ [])
    rw [rv_zeroO, sh_zeroL]
    simpa using this)
  rw [← e] at this
  exact this
theorem aw_callS {ix nP d' mc' ms' : Nat} {M' : MI} {as : List Value} {Q' : QT} {st0 : List Value} (g : CGk 0 M.1.cls ix M' nP) (hM : AMet M' al d' mc' ms' as h Q') (hd : decode M.2.1 pc = .ok (.invokestatic ix, 3)) (hlen : as.length = nP)
    (hst : st0 = as.reverse ++ st) (hW : (st.map fun v => v.category).sum ≤ 8) (hdd : d' + 1 ≤ d) (hf : k + mc' ≤ mc ∧ n + ms' ≤ ms)
    (kk : ∀ (r : Option Value) (h' : List AC), Q' r h' → (al = false → h'.length = h.length) → AW M al d mc ms Q (k + mc') (n + ms') (pc + 3) L (r.toList ++ st) h') : AW M al d mc ms Q k n pc L st0 h :=
  aw_callG g hM hd (by decide) (fun q => absurd q (by decide)) (fun _ => hlen) hst hW hdd hf kk
theorem aw_callV {ix nP d' mc' ms' a ci : Nat} {M' : MI} {as : List Value} {fs : List Value} {Q' : QT} {st0 : List Value} {q : vw_C} (g : CGk 1 M.1.cls ix M' nP) (hM : AMet M' al d' mc' ms' (.ref a :: as) h Q') (hd : decode M.2.1 pc = .ok (.invokevirtual ix, 3)) (hlen : as.length = nP)
    (he : h[a]? = some (.inr (ci, fs))) (hc : kclasses[ci]? = some q) (hq : q.1 = M'.1.cls)
    (hst : st0 = (Value.ref a :: as).reverse ++ st) (hW : (st.map fun v => v.category).sum ≤ 8) (hdd : d' + 1 ≤ d) (hf : k + mc' ≤ mc ∧ n + ms' ≤ ms)
    (kk : ∀ (r : Option Value) (h' : List AC), Q' r h' → (al = false → h'.length = h.length) → AW M al d mc ms Q (k + mc') (n + ms') (pc + 3) L (r.toList ++ st) h') : AW M al d mc ms Q k n pc L st0 h :=
  aw_callG g hM hd (by decide) (fun _ => ⟨a, as, rfl, hlen, fun _ => ⟨ci, fs, q, he, hc, hq⟩⟩) (fun e => by cases e) hst hW hdd hf kk
theorem aw_callI {ix nP d' mc' ms' a : Nat} {M' : MI} {as : List Value} {Q' : QT} {st0 : List Value} (g : CGk 2 M.1.cls ix M' nP) (hM : AMet M' al d' mc' ms' (.ref a :: as) h Q') (hd : decode M.2.1 pc = .ok (.invokespecial ix, 3)) (hlen : as.length = nP)
    (hst : st0 = (Value.ref a :: as).reverse ++ st) (hW : (st.map fun v => v.category).sum ≤ 8) (hdd : d' + 1 ≤ d) (hf : k + mc' ≤ mc ∧ n + ms' ≤ ms)
    (kk : ∀ (r : Option Value) (h' : List AC), Q' r h' → (al = false → h'.length = h.length) → AW M al d mc ms Q (k + mc') (n + ms') (pc + 3) L (r.toList ++ st) h') : AW M al d mc ms Q k n pc L st0 h :=
  aw_callG g hM hd (by decide) (fun _ => ⟨a, as, rfl, hlen, fun e => by cases e⟩) (fun e => by cases e) hst hW hdd hf kk
theorem aw_callIw {ix nP d' mc' ms' : Nat} {M' : MI} {as : List Value} {Q' : QT} {st0 : List Value} {pre : List AC} {c0 : AC} {o : Nat} (ho : pre.length = o) (g : CGk 2 M.1.cls ix M' nP) (hM : AMet M' al d' mc' ms' (.ref 0 :: as) [c0] Q') (hd : decode M.2.1 pc = .ok (.invokespecial ix, 3)) (hlen : as.length = nP)
    (hst : st0 = ((Value.ref 0 :: as).map (rv o)).reverse ++ st) (hW : (st.map fun v => v.category).sum ≤ 8) (hdd : d' + 1 ≤ d) (hf : k + mc' ≤ mc ∧ n + ms' ≤ ms) (e : h = pre ++ [sh o c0])
    (kk : ∀ (r : Option Value) (h' : List AC), Q' r h' → AW M al d mc ms Q (k + mc') (n + ms') (pc + 3) L ((r.map (rv o)).toList ++ st) (pre ++ h'.map (sh o))) : AW M al d mc ms Q k n pc L st0 h := by
  subst ho
  subst e
  have := aw_callW (M := M) (al := al) (d := d) (mc := mc) (ms := ms) (Q := Q) (k := k) (n := n) (pc := pc) (L := L) (st := st) (pre := pre) (hc := [c0]) (post := []) (st0 := st0) g hM hd (by decide) (fun _ => ⟨0, as, rfl, hlen, fun e => by cases e⟩) (fun e => by cases e) hst hW hdd hf (fun _ => rfl) (fun r hc' hq hl => by
    have := kk r hc' hq
    simpa using this)
  simpa using this
theorem aw_max {ix : Nat} {x y : Int32} (hw : Cond.methodLink M.1.cls ix Lib.Math.max.name ∈ ktbl) (hd : decode M.2.1 pc = .ok (.invokestatic ix, 3)) (hD : 1 ≤ d) (hW : (st.map fun v => v.category).sum ≤ 8) (hf : k ≤ mc ∧ n ≤ ms) (kk : AW M al d mc ms Q k n (pc + 3) L (.int (if x < y then y else x) :: st) h) : AW M al d mc ms Q k n pc L (.int y :: .int x :: st) h :=
  fun p l e s m args below meth c b D κ N0 H locs ls C X => va_mmax C.1 C.2.1 (C.2.2.1.trans X.2.2.2.2.1.1.symm) C.2.2.2.1 (C.2.2.2.2.1 _ hw) (C.2.2.2.2.1 _ kx_maxS) (C.2.2.2.2.1 _ kx_math) (C.2.2.2.2.1 _ kx_max) hD (by rw [cat_sum]; show _ + 13 ≤ 64 * d; omega) hf.1 hf.2 hd (kk p l e s m args below meth c b D κ N0 H locs ls C X)
theorem aw_min {ix : Nat} {x y : Int32} (hw : Cond.methodLink M.1.cls ix Lib.Math.min.name ∈ ktbl) (hd : decode M.2.1 pc = .ok (.invokestatic ix, 3)) (hD : 1 ≤ d) (hW : (st.map fun v => v.category).sum ≤ 8) (hf : k ≤ mc ∧ n ≤ ms) (kk : AW M al d mc ms Q k n (pc + 3) L (.int (if y < x then y else x) :: st) h) : AW M al d mc ms Q k n pc L (.int y :: .int x :: st) h :=
  fun p l e s m args below meth c b D κ N0 H locs ls C X => va_mmin C.1 C.2.1 (C.2.2.1.trans X.2.2.2.2.1.1.symm) C.2.2.2.1 (C.2.2.2.2.1 _ hw) (C.2.2.2.2.1 _ kx_minS) (C.2.2.2.2.1 _ kx_math) (C.2.2.2.2.1 _ kx_min) hD (by rw [cat_sum]; show _ + 13 ≤ 64 * d; omega) hf.1 hf.2 hd (kk p l e s m args below meth c b D κ N0 H locs ls C X)
theorem aw_abs {ix : Nat} {x : Int32} (hw : Cond.methodLink M.1.cls ix Lib.Math.abs.name ∈ ktbl) (hd : decode M.2.1 pc = .ok (.invokestatic ix, 3)) (hD : 1 ≤ d) (hW : (st.map fun v => v.category).sum ≤ 8) (hf : k ≤ mc ∧ n ≤ ms) (kk : AW M al d mc ms Q k n (pc + 3) L (.int (if 0 ≤ x then x else 0 - x) :: st) h) : AW M al d mc ms Q k n pc L (.int x :: st) h :=
  fun p l e s m args below meth c b D κ N0 H locs ls C X => va_mabs C.1 C.2.1 (C.2.2.1.trans X.2.2.2.2.1.1.symm) C.2.2.2.1 (C.2.2.2.2.1 _ hw) (C.2.2.2.2.1 _ kx_absS) (C.2.2.2.2.1 _ kx_math) (C.2.2.2.2.1 _ kx_abs) hD (by rw [cat_sum]; show _ + 13 ≤ 64 * d; omega) hf.1 hf.2 hd (kk p l e s m args below meth c b D κ N0 H locs ls C X)
theorem aw_copy {ix i0 i1 n0 n1 : Nat} {f g : Nat → Int32} {sp dp z : Int32} (hw : Cond.methodLink M.1.cls ix arraycopyName ∈ ktbl) (hd : decode M.2.1 pc = .ok (.invokestatic ix, 3)) (h0 : h[i0]? = some (.inl (0, n0, .inl f))) (h1 : h[i1]? = some (.inl (0, n1, .inl g))) (q1 : ¬ sp < 0) (q2 : ¬ dp < 0) (q3 : ¬ z < 0) (q4 : sp.toNatClampNeg + z.toNatClampNeg ≤ n0) (q5 : dp.toNatClampNeg + z.toNatClampNeg ≤ n1) (hD : 1 ≤ d) (hW : (st.map fun v => v.category).sum ≤ 8)
    (kk : AW M false d mc ms Q k n (pc + 3) L st (h.set i1 (.inl (0, n1, .inl (va_cpy f g sp.toNatClampNeg dp.toNatClampNeg z.toNatClampNeg))))) : AW M false d mc ms Q k n pc L (.int z :: .int dp :: .ref i1 :: .int sp :: .ref i0 :: st) h :=
  fun p l e s m args below meth c b D κ N0 H locs ls C X => by
    refine va_copyi C.1 C.2.1 (C.2.2.1.trans X.2.2.2.2.1.1.symm) C.2.2.2.1 (C.2.2.2.2.1 _ hw) (C.2.2.2.2.1 _ kx_cpN) (C.2.2.2.2.1 _ kx_cpS) (C.2.2.2.2.1 _ kx_sys) C.2.2.2.2.2.2.2.2.1 X.2.1 X.D X.2.2.2.1 i0 i1 0 0 (wso_at h0) (wso_at h1) rfl rfl rfl q1 q2 q3 q4 q5 (fun i _ => rfl) hD ?_ hd fun H1 locs1 hP1 hD1 hS1 => ?_
    · have hz : nativeFrameWords "java/lang/System" "arraycopy" 5 ≤ 40 := by decide +kernel
      rw [cat_sum]
      show _ + (_ + 11) ≤ 64 * d
      omega
    · refine kk p l e s m args below meth c b D κ N0 H1 locs1 ls C ⟨fun q => by rw [List.length_set]; exact X.1 q, ?_, fun q => (by cases q), hS1, X.2.2.2.2⟩
      rw [← wso_set]
      exact hP1
theorem aw_obj {ix a : Nat} (hw : Cond.methodLink M.1.cls ix Lib.objectInit ∈ ktbl) (hd : decode M.2.1 pc = .ok (.invokespecial ix, 3)) (hD : 1 ≤ d) (hW : (st.map fun v => v.category).sum ≤ 8) (kk : AW M al d mc ms Q k n (pc + 3) L st h) : AW M al d mc ms Q k n pc L (.ref a :: st) h :=
  fun p l e s m args below meth c b D κ N0 H locs ls C X => by
    refine W.objInit C.1 C.2.1 C.2.2.2.1 (C.2.2.2.2.1 _ hw) (C.2.2.2.2.1 _ kx_obI) (C.2.2.2.2.1 _ kx_obC) rfl (X.2.2.2.2.1.1.trans C.2.2.1.symm) rfl hd hD ?_ (kk p l e s m args below meth c b D κ N0 H locs ls C X)
    rw [cat_sum]
    show 2 * 0 + _ + 12 ≤ 64 * d
    omega
theorem DX.app {M : MI} {s : State} {b : Nat} {D : va_G} {κ : Nat → ClassId} {N0 : Nat} {L : List (Option Value)} {h : List AC} {H H1 : Heap} {locs : List Loc} {ls : Array Slot} (X : DX M true s b D κ N0 L h H locs ls) {c1 : AC} (ha : va_at D kclasses (b + h.length, ec b κ c1) H1) (z : H1.size = H.size + 1) (oq : ∀ q : Nat, q < H.size → H1[q]? = H[q]?) : DX M true s b D κ N0 L (h ++ [c1]) H1 locs ls := by
  refine ⟨fun q => (by cases q), ?_, fun q => (by rw [z, X.2.2.1 rfl]; simp; omega), ⟨Nat.le_trans X.2.2.2.1.1 (by omega), fun q h1 h2 => (oq q (Nat.lt_of_lt_of_le h1 X.2.2.2.1.1)).trans (X.2.2.2.1.2.1 q h1 h2), X.2.2.2.1.2.2⟩, X.2.2.2.2⟩
  rw [wso_app]
  refine va_P.app (X.2.1.kept (fun k x hx => oq x.1 ((X.2.1 k x hx).lt))) (fun k x hx => ?_)
  have hz : k < 1 := (List.getElem?_eq_some_iff.mp hx).1
  rw [show k = 0 by omega] at hx
  cases hx
  exact ha
theorem aw_new {ix ci N : Nat} {C0 : String} {T : u_T} {ty : Nat → FieldType} {fs : List Value} (hc : kclasses[ci]? = some (C0, T, N)) (hin : ∀ w ∈ u_ws C0 T N, w ∈ ktbl) (hty : ∀ k, k < N → parseFieldDescriptor (T k).2.2.1 = some (ty k)) (w1 : Cond.classLink M.1.cls ix C0 ∈ ktbl) (w2 : Cond.instantiable C0 N ∈ ktbl) (w3 : Cond.initialized C0 ∈ ktbl) (hd : decode M.2.1 pc = .ok (.new ix, 3)) (hfs : ∀ b j, j < N → defaultValue (ty j) = vp_V (fs.map (rv b)) j) (hf : k + 1 ≤ mc ∧ n + N ≤ ms)
    (kk : AW M true d mc ms Q (k + 1) (n + N) (pc + 3) L (.ref h.length :: st) (h ++ [.inr (ci, fs)])) : AW M true d mc ms Q k n pc L st h :=
  fun p l e s m args below meth c b D κ N0 H locs ls C X => by
    have hKn := C.2.2.2.2.2.2.2.2.1.1 ci _ hc
    refine W.newcK C.1 C.2.1 C.2.2.2.1 (C.2.2.2.2.1 _ w1) (C.2.2.2.2.1 _ w2) (C.2.2.2.2.1 _ w3) rfl hd hf.1 hf.2 hKn.2.1 (X.2.2.1 rfl) fun H1 kC hkC e1 z1 o1 => ?_
    refine kk p l e s m args below meth c b D κ N0 H1 locs ls C (X.app ⟨_, hc, (u_born ty C.2.2.2.2.1 hin hKn hkC e1 hty).to (hfs b)⟩ (by rw [z1, X.2.2.1 rfl]) (fun q hq => o1 q (by rw [← X.2.2.1 rfl]; exact hq)))
theorem aw_newi {j : Int32} {N : Nat} (hd : decode M.2.1 pc = .ok (.newarray .int, 2)) (hj : ¬ j < 0) (hN : j.toNatClampNeg = N) (hb : N ≤ 1000) (hf : k + 1 ≤ mc ∧ n + N ≤ ms) (kk : AW M true d mc ms Q (k + 1) (n + N) (pc + 2) L (.ref h.length :: st) (h ++ [.inl (0, N, .inl (fun _ => 0))])) : AW M true d mc ms Q k n pc L (.int j :: st) h :=
  fun p l e s m args below meth c b D κ N0 H locs ls C X => by
    refine va_newaK (atype := .int) C.1 C.2.1 (C.2.2.2.2.1 _ kx_ai) rfl hd rfl hj hN (by show N * 4 ≤ _; omega) hf.1 hf.2 (X.2.2.1 rfl) fun H1 cA e1 z1 o1 hAr hNm => ?_
    have hk0 : cA = κ 0 := Option.some.inj (hNm.symm.trans (C.2.2.2.2.2.2.2.2.1.2 0 _ rfl).2)
    subst hk0
    exact kk p l e s m args below meth c b D κ N0 H1 locs ls C (X.app e1 (by rw [z1, X.2.2.1 rfl]) (fun q hq => o1 q (by rw [← X.2.2.1 rfl]; exact hq)))
theorem aw_newz {j : Int32} {N : Nat} (hd : decode M.2.1 pc = .ok (.newarray .boolean, 2)) (hj : ¬ j < 0) (hN : j.toNatClampNeg = N) (hb : N ≤ 1000) (hf : k + 1 ≤ mc ∧ n + N ≤ ms) (kk : AW M true d mc ms Q (k + 1) (n + N) (pc + 2) L (.ref h.length :: st) (h ++ [.inl (1, N, .inl (fun _ => 0))])) : AW M true d mc ms Q k n pc L (.int j :: st) h :=
  fun p l e s m args below meth c b D κ N0 H locs ls C X => by
    refine va_newaK (atype := .boolean) C.1 C.2.1 (C.2.2.2.2.1 _ kx_az) rfl hd rfl hj hN (by show N * 1 ≤ _; omega) hf.1 hf.2 (X.2.2.1 rfl) fun H1 cA e1 z1 o1 hAr hNm => ?_
    have hk0 : cA = κ 1 := Option.some.inj (hNm.symm.trans (C.2.2.2.2.2.2.2.2.1.2 1 _ rfl).2)
    subst hk0
    exact kk p l e s m args below meth c b D κ N0 H1 locs ls C (X.app e1 (by rw [z1, X.2.2.1 rfl]) (fun q hq => o1 q (by rw [← X.2.2.1 rfl]; exact hq)))
theorem aw_newq {ix : Nat} {j : Int32} {N : Nat} (w1 : Cond.classLink M.1.cls ix "EarChart$Row" ∈ ktbl) (hd : decode M.2.1 pc = .ok (.anewarray ix, 3)) (hj : ¬ j < 0) (hN : j.toNatClampNeg = N) (hb : N ≤ 1000) (hf : k + 1 ≤ mc ∧ n + N ≤ ms) (kk : AW M true d mc ms Q (k + 1) (n + N) (pc + 3) L (.ref h.length :: st) (h ++ [.inl (2, N, .inr (.inr (.inr (.inr (fun _ => none)))))])) : AW M true d mc ms Q k n pc L (.int j :: st) h :=
  fun p l e s m args below meth c b D κ N0 H locs ls C X => by
    subst hN
    refine W.anew (C := "EarChart$Row") C.1 C.2.1 C.2.2.2.1 (C.2.2.2.2.1 _ w1) (C.2.2.2.2.1 _ kx_ao) rfl hd rfl hj (by omega) hf.1 hf.2 fun cA kA comp f1 f2 f3 f4 => ?_
    obtain ⟨_, _, _, _, _, hNm⟩ := (C.2.2.2.2.2.2.2.2.1.2 2 _ rfl).2
    have hk0 : cA = κ 2 := Option.some.inj (f1.symm.trans hNm)
    subst hk0
    have := X.2.2.1 rfl
    rw [this]
    refine kk p l e s m args below meth c b D κ N0 _ locs ls C (X.app ?_ (by rw [Array.size_push]) (fun q hq => by rw [Array.getElem?_push, if_neg (Nat.ne_of_lt hq)]))
    show (H.push _)[b + h.length]? = some (vp_cell (κ 2) (j.toNatClampNeg, .inr (.inr (.inr (.inr (fun _ => (none : Option Nat).map (b + ·)))))))
    rw [← this, Array.getElem?_push_size, vp_cell_q, ← arrV_new]
    rfl
abbrev c40 : AC := .inl (0, 40, .inl (fun _ => 0))
abbrev cGr (o : Nat) : AC := .inl (3, 4, .inr (.inr (.inr (.inr (fun i => if i < 4 then some (o + 1 + i) else none)))))
end AWM
