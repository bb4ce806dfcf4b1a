def CB0 (M' : MI) (nP : Nat) : Prop := Cond.code M'.1 M'.2.1 M'.2.2.1 M'.2.2.2 ∈ ktbl ∧ Cond.initialized M'.1.cls ∈ ktbl ∧ (M'.1.cls ≠ "java/lang/invoke/MethodHandle" ∧ M'.1.cls ≠ "java/lang/invoke/VarHandle") ∧ (parseMethodDescriptor M'.1.desc).map (fun q => q.parameters.length) = some nP ∧ M'.2.2.1 ≤ 45
def CGk (kind : Nat) (own : String) (ix : Nat) (M' : MI) (nP : Nat) : Prop := CB0 M' nP ∧ (Cond.methodLink own ix M'.1 ∈ ktbl ∨ ∃ host, Cond.methodLinkNest own ix M'.1 host ∈ ktbl) ∧ (match kind with
  | 0 => Cond.static M'.1 ∈ ktbl
  | 1 => Cond.instanceMethod M'.1 ∈ ktbl ∧ Cond.selects M'.1.cls M'.1 M'.1 ∈ ktbl
  | _ => Cond.instanceMethod M'.1 ∈ ktbl ∧ M'.1.name = "<init>" ∧ M'.2.2.2 = none)
theorem RL.blind {al : Bool} {b : Nat} {D : va_G} {κ : Nat → ClassId} {h : List AC} {as : List Value} : FrameBlind (va_Pc (as.map (rv b)) (RL al b D κ h)) := by
  rintro a U g mk ⟨rfl, h1, h2, h3, h4⟩
  exact ⟨rfl, tb_warm (U := U.calling g mk _) (State.WarmedH.refl U) h1, va_K.moved (u := U) (U := U.calling g mk _) (Vm.Alike.refl U.vm) h2, h3, h4⟩
theorem cb_code {M' : MI} {nP : Nat} {s : State} {args : Array Value} (hts : ∀ w ∈ ktbl, w.before args s = true) (g : CB0 M' nP) : ∀ w ∈ [Cond.code M'.1 M'.2.1 M'.2.2.1 M'.2.2.2], ∀ (a' : Array Value) (U : State), s.WarmedH U.vm → w.before a' U = true := by
  intro w hw a' U hW
  rw [List.mem_singleton.mp hw]
  exact tb_word hW (okW_of g.1) (hts _ g.1)
theorem cb_len {M' : MI} {nP : Nat} (g : CB0 M' nP) : ∀ sig, parseMethodDescriptor M'.1.desc = some sig → nP = sig.parameters.length := fun sig q => by
  have h2 := g.2.2.2.1
  rw [q] at h2
  exact (Option.some.inj h2).symm
theorem sh_zero (c : AC) : sh 0 c = c := by
  rcases c with ⟨t, n, f | f | f | f | f⟩ | ⟨ci, fs⟩
  · rfl
  · rfl
  · rfl
  · rfl
  · show Sum.inl (t, n, _) = Sum.inl (t, n, _)
    congr 8
    funext j
    cases hf : f j <;> simp [hf]
  · show Sum.inr (ci, fs.map (rv 0)) = Sum.inr (ci, fs)
    congr 2
    have : fs.map (rv 0) = fs.map id := List.map_congr_left (fun v _ => by cases v <;> simp [rv])
    rw [this, List.map_id]
theorem sh_zeroL (h : List AC) : h.map (sh 0) = h := by
  have : h.map (sh 0) = h.map id := List.map_congr_left (fun c _ => sh_zero c)
  rw [this, List.map_id]
theorem rv_zeroL (l : List Value) : l.map (rv 0) = l := by
  have : l.map (rv 0) = l.map id := List.map_congr_left (fun v _ => by cases v <;> simp [rv])
  rw [this, List.map_id]
theorem rv_zeroO (l : Option Value) : l.map (rv 0) = l := by
  cases l with
  | none => rfl
  | some v => cases v <;> simp [rv]
section AWC
variable {M : MI} {al : Bool} {d mc ms : Nat} {Q : QT} {k n : Nat} {pc : Nat} {L : List (Option Value)} {st : List Value}
theorem win_P {b : Nat} {D : va_G} {κ : Nat → ClassId} {pre hc post : List AC} {H : Heap} (hP : va_P D kclasses (wso b κ (pre ++ hc.map (sh pre.length) ++ post)) H) : va_P D kclasses (wso (b + pre.length) κ hc) H := by
  intro i q hq
  obtain ⟨c, hc1, rfl⟩ := wso_of hq
  have hil : i < hc.length := (List.getElem?_eq_some_iff.mp hc1).1
  have h1 : (pre ++ hc.map (sh pre.length) ++ post)[pre.length + i]? = some (sh pre.length c) := by
    rw [List.getElem?_append_left (by simp; omega), List.getElem?_append_right (by omega), List.getElem?_map, show pre.length + i - pre.length = i by omega, hc1]; rfl
  have := hP _ _ (wso_at (b := b) (κ := κ) h1)
  rw [ec_sh, ← Nat.add_assoc] at this
  exact this
theorem aw_ret_call {al : Bool} {pre hc post : List AC} {Q' : QT} {mc' ms' : Nat} {p : Program} {l : Launch} {e : Env} {s : State} {m : MethodId} {args : Array Value} {below : List Frame} {meth : Method} {c : Code} {b : Nat} {D : va_G} {κ : Nat → ClassId} {N0 : Nat} {H : Heap} {locs : List Loc} {ls : Array Slot} {st0 : List Value} {a : Array Value}
    (hpost : al = true → post = []) (C : CX M al p s m args meth c b D κ N0) (X : DX M al s b D κ N0 L (pre ++ hc.map (sh pre.length) ++ post) H locs ls)
    (hr : va_Run p l e (rmD d mc ms) s m args below meth c H locs k n mc' ms' (F0 m pc ls st0) (st.map (rv b)) (QC al (b + pre.length) D κ hc.length Q' a) (AX al (b + pre.length) hc.length))
    (kk : ∀ (r : Option Value) (hc' : List AC), Q' r hc' → (al = false → hc'.length = hc.length) → AW M al d mc ms Q (k + mc') (n + ms') (pc + 3) L ((r.map (rv pre.length)).toList ++ st) (pre ++ hc'.map (sh pre.length) ++ post)) :
    W p l e (rmD d mc ms) s m args below meth c H locs k n (MQ below (QC al b D κ N0 Q) args s mc ms (AX al b N0)) (F0 m pc ls st0) := by
  intro T hT S
  obtain ⟨v, st₀, t, T', Lo, h0, S', hL, e1, e2, ⟨⟨r, hc', hv, hq, hlen, hRL⟩, hF⟩, go⟩ := hr T hT S
  have hv : v = r.map (rv (b + pre.length)) := by
    have := hv
    cases this; rfl
  subst hv
  have hF : H.size ≤ t.heap.size ∧ ∀ q : Nat, q < H.size → ¬ AX al (b + pre.length) hc.length q → t.heap[q]? = H[q]? := by rw [← h0]; exact hF
  have hAA : ∀ q, AX al (b + pre.length) hc.length q → AX al b N0 q := fun q hq => by
    refine ⟨by have := hq.1; omega, fun ha => ?_⟩
    have h1 := hq.2 ha
    have h2 := X.1 ha
    simp at h2
    omega
  have hP1 : va_P D kclasses (wso b κ (pre ++ hc'.map (sh pre.length) ++ post)) t.heap := by
    intro i q hq9
    obtain ⟨c9, hc9, rfl⟩ := wso_of hq9
    by_cases hi : i < pre.length
    · rw [List.append_assoc, List.getElem?_append_left hi] at hc9
      have h1 : (pre ++ hc.map (sh pre.length) ++ post)[i]? = some c9 := by rw [List.append_assoc, List.getElem?_append_left hi]; exact hc9
      have h2 := X.2.1 _ _ (wso_at (b := b) (κ := κ) h1)
      exact h2.kept (hF.2 _ h2.lt (fun ha => by have := ha.1; simp at this; omega))
    · by_cases hi2 : i < pre.length + hc'.length
      · rw [List.getElem?_append_left (by simp; omega), List.getElem?_append_right (by omega), List.getElem?_map] at hc9
        cases h3 : hc'[i - pre.length]? with
        | none => rw [h3] at hc9; cases hc9
        | some c8 =>
          rw [h3] at hc9
          cases hc9
          have h4 := hRL.2.2.1 _ _ (wso_at (b := b + pre.length) (κ := κ) h3)
          rw [ec_sh]
          rw [show b + pre.length + (i - pre.length) = b + i by omega] at h4
          exact h4
      · cases hal : al with
        | true =>
          rw [hpost hal] at hc9
          simp at hc9
          have := (List.getElem?_eq_some_iff.mp hc9).1
          simp at this
          omega
        | false =>
          have hll := hlen hal
          have h1 : (pre ++ hc.map (sh pre.length) ++ post)[i]? = some c9 := by
            rw [List.getElem?_append_right (by simp; omega)] at hc9 ⊢
            simpa [hll] using hc9
          have h2 := X.2.1 _ _ (wso_at (b := b) (κ := κ) h1)
          refine h2.kept (hF.2 _ h2.lt (fun ha => ?_))
          have := ha.2 hal
          simp at this
          omega
  obtain ⟨t2, a1, b1⟩ := kk r hc' hq hlen p l e s m args below meth c b D κ N0 T'.heap (locs ++ Lo) ls C ⟨fun ha => by have h1 := X.1 ha; have h2 := hlen ha; simp at h1 ⊢; omega, by rw [e1]; exact hP1, fun ha => by
      rw [e1, hRL.2.2.2 ha, hpost ha]; simp; omega, ⟨Nat.le_trans X.2.2.2.1.1 (by rw [e1]; exact hF.1), fun q q1 q2 => by rw [e1, hF.2 q (Nat.lt_of_lt_of_le q1 X.2.2.2.1.1) (fun z => q2 (hAA q z))]; exact X.2.2.2.1.2.1 q q1 q2, fun q hq => by
        rcases List.mem_append.mp hq with h | h
        · exact X.2.2.2.1.2.2 q h
        · exact hAA _ (hL q h)⟩, X.2.2.2.2⟩ T' rfl S'
  refine ⟨t2, go t2 ?_, b1⟩
  have hst : (((r.map (rv pre.length)).toList ++ st).map (rv b)) = (r.map (rv (b + pre.length))).toList ++ st.map (rv b) := by
    cases r <;> simp [rv_rv]
  rw [hst] at a1
  exact a1
theorem cat_sum {b : Nat} (st : List Value) : ((st.map (rv b)).map fun v => v.category).sum = (st.map fun v => v.category).sum := by
  rw [List.map_map]
  congr 1
  exact List.map_congr_left (fun v _ => rv_cat b v)
theorem aw_callW {kind ix nP d' mc' ms' : Nat} {M' : MI} {as : List Value} {pre hc post : List AC} {Q' : QT} {st0 : List Value} (g : CGk kind M.1.cls ix M' nP) (hM : AMet M' al d' mc' ms' as hc Q')
    (hd : decode M.2.1 pc = .ok ((match kind with | 0 => .invokestatic ix | 1 => .invokevirtual ix | _ => .invokespecial ix), 3)) (hk : kind < 3)
    (hthis : 0 < kind → ∃ (a : Nat) (as' : List Value), as = .ref a :: as' ∧ as'.length = nP ∧ (kind = 1 → ∃ ci fs q, hc[a]? = some (.inr (ci, fs)) ∧ kclasses[ci]? = some q ∧ q.1 = M'.1.cls)) (hlen : kind = 0 → as.length = nP)
    (hst : st0 = (as.map (rv pre.length)).reverse ++ st) (hW : (st.map fun v => v.category).sum ≤ 8) (hdd : d' + 1 ≤ d) (hf : k + mc' ≤ mc ∧ n + ms' ≤ ms) (hpost : al = true → post = [])
    (kk : ∀ (r : Option Value) (hc' : List AC), Q' r hc' → (al = false → hc'.length = hc.length) → AW M al d mc ms Q (k + mc') (n + ms') (pc + 3) L ((r.map (rv pre.length)).toList ++ st) (pre ++ hc'.map (sh pre.length) ++ post)) :
    AW M al d mc ms Q k n pc L st0 (pre ++ hc.map (sh pre.length) ++ post) :=
  fun p l e s m args below meth c b D κ N0 H locs ls C X => by
    obtain ⟨g0, gl, gk⟩ := g
    have hx := C.1
    have hb := C.2.1
    have hml := C.2.2.1
    have hown := C.2.2.2.1
    have hts := C.2.2.2.2.1
    have hK := C.2.2.2.2.2.2.2.2.1
    have hlo : 8 + (M'.2.2.1 + 11) + (rmD d' mc' ms').locals ≤ (rmD d mc ms).locals := by
      show 8 + (M'.2.2.1 + 11) + 64 * d' ≤ 64 * d
      have := g0.2.2.2.2
      omega
    have hfr : (rmD d' mc' ms').frames + 1 ≤ (rmD d mc ms).frames := hdd
    have hws := cb_code hts g0
    have hRL : ∀ U : State, U.heap = H → s.WarmedH U.vm → va_Pc (as.map (rv (b + pre.length))) (RL al (b + pre.length) D κ hc) (as.map (rv (b + pre.length))).toArray U := fun U hU hWm => by
      refine ⟨rfl, tb_warm hWm hts, va_K.moved hWm.alike hK, by rw [hU]; exact win_P X.2.1, fun ha => ?_⟩
      rw [hU, X.2.2.1 ha, hpost ha]; simp; omega
    have hM' := hM l (b + pre.length) D κ
    have hrm : 2 * (F0 m pc ls (st0.map (rv b))).monitorRoom + ((st.map (rv b)).map fun v => v.category).sum ≤ 8 := lv_room (by rw [cat_sum]; exact hW)
    have hsize : (F0 m pc ls (st0.map (rv b))).locals.size = M.2.2.1 := X.2.2.2.2.1.1
    have hstk : st0.map (rv b) = (as.map (rv (b + pre.length))).reverse ++ st.map (rv b) := by
      rw [hst, List.map_append, List.map_reverse, rv_rvL]
    match kind, hk with
    | 0, _ =>
      have hln : (as.map (rv (b + pre.length))).length = nP := by rw [List.length_map]; exact hlen rfl
      rcases gl with gl | ⟨host, gl⟩
      · exact aw_ret_call hpost C X (va_runS (nL := M.2.2.1) (Ts := ktbl) ⟨hx, hb, hml, hown, hts⟩ hM' ⟨⟨rfl, rfl, hfr, hlo, hws, List.mem_singleton.mpr rfl, hts _ g0.1, hts _ g0.2.1, g0.2.2.1, cb_len g0, hts _ gl⟩, hts _ gk⟩ ⟨RL.blind, hRL⟩ rfl hln hsize hstk hrm hd hf) kk
      · exact aw_ret_call hpost C X (va_runSN (nL := M.2.2.1) (Ts := ktbl) ⟨hx, hb, hml, hown, hts⟩ hM' ⟨⟨⟨rfl, rfl, hfr, hlo, hws, List.mem_singleton.mpr rfl⟩, hts _ g0.1, hts _ g0.2.1, g0.2.2.1, cb_len g0, hts _ gl⟩, hts _ gk, trivial⟩ ⟨RL.blind, hRL⟩ rfl hln hsize hstk hrm hd hf) kk
    | 1, _ =>
      obtain ⟨a, as', rfl, hln, hcl⟩ := hthis (by decide)
      obtain ⟨ci, fs, q, hca, hcq, hqc⟩ := hcl rfl
      have hln : (as'.map (rv (b + pre.length))).length = nP := by rw [List.length_map]; exact hln
      have hstk2 : st0.map (rv b) = (as'.map (rv (b + pre.length))).reverse ++ .ref (b + pre.length + a) :: st.map (rv b) := by
        rw [hstk]; simp [rv]
      have hrecv := va_recv hK (win_P X.2.1) hcq (wso_at (b := b + pre.length) (κ := κ) hca)
      rw [hqc] at hrecv
      rcases gl with gl | ⟨host, gl⟩
      · exact aw_ret_call hpost C X (va_runV (nL := M.2.2.1) (Ts := ktbl) ⟨hx, hb, hml, hown, hts⟩ hM' ⟨⟨rfl, rfl, hfr, hlo, hws, List.mem_singleton.mpr rfl, hts _ g0.1, hts _ g0.2.1, g0.2.2.1, cb_len g0, hts _ gl⟩, hts _ gk.1, hts _ gk.2⟩ ⟨RL.blind, hrecv, hRL⟩ rfl hln hsize hstk2 hrm hd hf) kk
      · exact aw_ret_call hpost C X (va_runVN (nL := M.2.2.1) (Ts := ktbl) ⟨hx, hb, hml, hown, hts⟩ hM' ⟨⟨⟨rfl, rfl, hfr, hlo, hws, List.mem_singleton.mpr rfl⟩, hts _ g0.1, hts _ g0.2.1, g0.2.2.1, cb_len g0, hts _ gl⟩, hts _ gk.1, hts _ gk.2⟩ ⟨RL.blind, hrecv, hRL⟩ rfl hln hsize hstk2 hrm hd hf) kk
    | 2, _ =>
      obtain ⟨a, as', rfl, hln, -⟩ := hthis (by decide)
      have hln : (as'.map (rv (b + pre.length))).length = nP := by rw [List.length_map]; exact hln
      have hstk2 : st0.map (rv b) = (as'.map (rv (b + pre.length))).reverse ++ .ref (b + pre.length + a) :: st.map (rv b) := by
        rw [hstk]; simp [rv]
      obtain ⟨gi, gn, gr⟩ := gk
      have hws2 : ∀ w ∈ [Cond.code M'.1 M'.2.1 M'.2.2.1 none], ∀ (a' : Array Value) (U : State), s.WarmedH U.vm → w.before a' U = true := by rw [← gr]; exact hws
      have hc2 : (Cond.code M'.1 M'.2.1 M'.2.2.1 none).before args s = true := by rw [← gr]; exact hts _ g0.1
      rw [gr] at hM'
      rcases gl with gl | ⟨host, gl⟩
      · exact aw_ret_call hpost C X (va_runI (nL := M.2.2.1) (Ts := ktbl) ⟨hx, hb, hml, hown, hts⟩ hM' ⟨⟨rfl, rfl, hfr, hlo, hws2, List.mem_singleton.mpr rfl, hc2, hts _ g0.2.1, g0.2.2.1, cb_len g0, hts _ gl⟩, gn, hts _ gi⟩ ⟨RL.blind, hRL⟩ rfl hln hsize hstk2 hrm hd hf) kk
      · exact aw_ret_call hpost C X (va_runIN (nL := M.2.2.1) (Ts := ktbl) ⟨hx, hb, hml, hown, hts⟩ hM' ⟨⟨⟨rfl, rfl, hfr, hlo, hws2, List.mem_singleton.mpr rfl⟩, hc2, hts _ g0.2.1, g0.2.2.1, cb_len g0, hts _ gl⟩, gn, hts _ gi⟩ ⟨RL.blind, hRL⟩ rfl hln hsize hstk2 hrm hd hf) kk
end AWC
