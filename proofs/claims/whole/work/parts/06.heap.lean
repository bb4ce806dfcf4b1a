def FG (own : String) (ix ci kf : Nat) : Prop := ∃ (C : String) (T : u_T) (N : Nat), kclasses[ci]? = some (C, T, N) ∧ (∀ w ∈ u_ws C T N, w ∈ ktbl) ∧ kf < N ∧ (Cond.fieldLink own ix (T kf).1 (T kf).2.1 (T kf).2.2.1 ∈ ktbl ∨ ∃ host, Cond.fieldLinkNest own ix (T kf).1 (T kf).2.1 (T kf).2.2.1 host ∈ ktbl)
def FP (fin : Bool) (own : String) (ix ci kf : Nat) (ty : FieldType) : Prop := ∃ (C : String) (T : u_T) (N : Nat) (ty0 : Nat → FieldType), kclasses[ci]? = some (C, T, N) ∧ (∀ w ∈ u_ws C T N, w ∈ ktbl) ∧ kf < N ∧ (∀ k, k < N → parseFieldDescriptor (T k).2.2.1 = some (ty0 k)) ∧ (∀ a, a < N → ∀ b, b < N → a ≠ b → (T a).2.1 ≠ (T b).2.1) ∧ (T kf).2.2.2 = fin ∧ ty0 kf = ty ∧ (fin = true → (T kf).1 = own) ∧ (Cond.fieldLink own ix (T kf).1 (T kf).2.1 (T kf).2.2.1 ∈ ktbl ∨ (fin = false ∧ ∃ host, Cond.fieldLinkNest own ix (T kf).1 (T kf).2.1 (T kf).2.2.1 host ∈ ktbl))
def okV (ty : FieldType) (v : Value) : Prop := ∀ b, narrow ty (rv b v) = rv b v ∧ fits ty (rv b v) = true
section AWH
variable {M : MI} {al : Bool} {d mc ms : Nat} {Q : QT} {k n : Nat} {pc : Nat} {L : List (Option Value)} {st : List Value} {h : List AC}
theorem aw_get {i ci kf ix : Nat} {fs : List Value} {v : Value} (f : FG M.1.cls ix ci kf) (hd : decode M.2.1 pc = .ok (.getfield ix, 3)) (he : h[i]? = some (.inr (ci, fs))) (hv : fs[kf]? = some v) (kk : AW M al d mc ms Q k n (pc + 3) L (v :: st) h) : AW M al d mc ms Q k n pc L (.ref i :: st) h :=
  fun p l e s m args below meth c b D κ N0 H locs ls C X => by
    obtain ⟨C0, T, N, hc, hin, hk, hl⟩ := f
    have hw := wso_at (b := b) (κ := κ) he
    have hv' : (fs.map (rv b))[kf]? = some (rv b v) := by rw [List.getElem?_map, hv]; rfl
    rcases hl with hl | ⟨host, hl⟩
    · exact va_get C.1 C.2.1 C.2.2.2.2.1 hin C.2.2.2.1 C.2.2.2.2.2.2.2.2.1 X.2.1 i hw hc kf hk (C.2.2.2.2.1 _ hl) (fun _ q => q) hv' hd (kk p l e s m args below meth c b D κ N0 H locs ls C X)
    · exact va_getN C.1 C.2.1 C.2.2.2.2.1 hin C.2.2.2.1 C.2.2.2.2.2.2.2.2.1 X.2.1 i hw hc kf hk (C.2.2.2.2.1 _ hl) (fun _ q => q) hv' hd (kk p l e s m args below meth c b D κ N0 H locs ls C X)
theorem DX.set {M : MI} {al : Bool} {s : State} {b : Nat} {D : va_G} {κ : Nat → ClassId} {N0 : Nat} {L : List (Option Value)} {h : List AC} {H H1 : Heap} {locs : List Loc} {ls : Array Slot} (X : DX M al s b D κ N0 L h H locs ls) {i : Nat} {c0 c1 : AC} (he : h[i]? = some c0) (ha : va_at D kclasses (b + i, ec b κ c1) H1) (z : H1.size = H.size) (oq : ∀ q : Nat, q ≠ b + i → H1[q]? = H[q]?) (j : Nat) : DX M al s b D κ N0 L (h.set i c1) H1 (locs ++ [⟨b + i, j⟩]) ls := by
  have hw := wso_at (b := b) (κ := κ) he
  refine ⟨fun q => by rw [List.length_set]; exact X.1 q, ?_, fun q => by rw [z, List.length_set]; exact X.2.2.1 q, X.2.2.2.1.put z oq (X.D.2 i _ hw), X.2.2.2.2⟩
  rw [← wso_set]
  exact X.2.1.set X.D hw ha oq
theorem aw_put {i ci kf ix : Nat} {fs : List Value} {v : Value} {ty : FieldType} (f : FP false M.1.cls ix ci kf ty) (hd : decode M.2.1 pc = .ok (.putfield ix, 3)) (he : h[i]? = some (.inr (ci, fs))) (hl : kf < fs.length) (hv : okV ty v) (kk : AW M al d mc ms Q k n (pc + 3) L st (h.set i (.inr (ci, fs.set kf v)))) : AW M al d mc ms Q k n pc L (v :: .ref i :: st) h :=
  fun p l e s m args below meth c b D κ N0 H locs ls C X => by
    obtain ⟨C0, T, N, ty0, hc, hin, hk, hty, hnm, hfin, hte, -, hlk⟩ := f
    have hw := wso_at (b := b) (κ := κ) he
    have hap := va_apart (own := M.1.cls) C.2.2.2.2.1 hin ty0 hty hnm C.2.2.2.2.2.2.2.2.1 hc
    obtain ⟨r, h1, cell, q1, q2, q3, q4⟩ := X.2.1 i _ hw
    have hr : r = (C0, T, N) := Option.some.inj (h1.symm.trans hc)
    subst hr
    obtain ⟨hS, hfc, kC, hkC, hkind⟩ := C.2.2.2.2.2.2.2.2.1.1 ci _ hc
    obtain ⟨cf, kf', fi, f, hi, hsl⟩ := hS kf hk
    have hlay := C.2.2.2.2.1 _ (hin _ (u_in_lay hk))
    unfold u_lay at hlay
    rw [if_neg (by rw [hfin]; decide)] at hlay
    have hst := (u_facts hfc hkC (u_lays C.2.2.2.2.1 hin hk) hi).1
    have h6 := u_store (v := rv b v) hfc hkC hkind hlay hi ((hty kf hk).trans (by rw [hte])) (hv b).1 (hv b).2
    have fin : ∀ H' : Heap, H'[b + i]? = some (cell.setSlot f.slot (rv b v)) → H'.size = H.size → (∀ q, q ≠ b + i → H'[q]? = H[q]?) → W p l e (rmD d mc ms) s m args below meth c H' (locs ++ [⟨b + i, f.slot⟩]) k n (MQ below (QC al b D κ N0 Q) args s mc ms (AX al b N0)) (F0 m (pc + 3) ls (st.map (rv b))) := fun H' e1 e2 e3 => by
      refine kk p l e s m args below meth c b D κ N0 H' _ ls C (X.set he ?_ e2 e3 _)
      refine ⟨_, hc, t_OB.to (V := updV (vp_V (fs.map (rv b))) kf (rv b v)) ⟨_, e1, q2, q3, ?_⟩ (fun j _ => ?_)⟩
      · rw [hsl]
        exact t_set q4 hap hk (rv b v)
      · rw [List.map_set]
        exact vp_updV_set (by simpa using hl) (rv b v) j
    rcases hlk with hlk | ⟨-, host, hlk⟩
    · exact W.putK C.1 C.2.1 (f := f) ⟨C.2.2.2.1, C.2.2.2.2.1 _ hlk, ⟨_, _, _, hi⟩, hst⟩ (by rw [q2]; exact h6) q1 q3 (by rw [hsl]; exact k2_hasslot (q4 kf hk)) rfl rfl hd fin
    · exact va_WputK C.1 C.2.1 (f := f) C.2.2.2.1 (C.2.2.2.2.1 _ hlk) hi hst (by rw [q2]; exact h6) q1 q3 (by rw [hsl]; exact k2_hasslot (q4 kf hk)) rfl rfl hd fin
theorem aw_putF {i ci kf ix : Nat} {fs : List Value} {v : Value} {ty : FieldType} (f : FP true M.1.cls ix ci kf ty) (hn2 : M.1.name = "<init>") (hd : decode M.2.1 pc = .ok (.putfield ix, 3)) (he : h[i]? = some (.inr (ci, fs))) (hl : kf < fs.length) (hv : okV ty v) (kk : AW M al d mc ms Q k n (pc + 3) L st (h.set i (.inr (ci, fs.set kf v)))) : AW M al d mc ms Q k n pc L (v :: .ref i :: st) h :=
  fun p l e s m args below meth c b D κ N0 H locs ls C X => by
    obtain ⟨C0, T, N, ty0, hc, hin, hk, hty, hnm, hfin, hte, hdecl, hlk⟩ := f
    have hdecl := hdecl rfl
    have hlk : Cond.fieldLink M.1.cls ix (T kf).1 (T kf).2.1 (T kf).2.2.1 ∈ ktbl := by
      rcases hlk with hlk | ⟨hx, -⟩
      · exact hlk
      · cases hx
    have hw := wso_at (b := b) (κ := κ) he
    have hap := va_apart (own := M.1.cls) C.2.2.2.2.1 hin ty0 hty hnm C.2.2.2.2.2.2.2.2.1 hc
    obtain ⟨r, h1, cell, q1, q2, q3, q4⟩ := X.2.1 i _ hw
    have hr : r = (C0, T, N) := Option.some.inj (h1.symm.trans hc)
    subst hr
    obtain ⟨hS, hfc, kC, hkC, hkind⟩ := C.2.2.2.2.2.2.2.2.1.1 ci _ hc
    obtain ⟨cf, kf', fi, f, hi, hsl⟩ := hS kf hk
    have hlay := C.2.2.2.2.1 _ (hin _ (u_in_lay hk))
    unfold u_lay at hlay
    rw [if_pos hfin] at hlay
    have hst := (u_facts hfc hkC (u_lays C.2.2.2.2.1 hin hk) hi).1
    have hcf : m.cls = cf := by
      obtain ⟨_, _, c', _, _, _, -, -, hf', -, -, -, hown2, -⟩ := Cond.laysFinal_spec hlay
      have e1 : c' = cf := by have := hi.symm.trans hf'; simp at this; exact this.1.symm
      rw [hdecl] at hown2
      rw [← e1]; exact Option.some.inj (C.2.2.2.1.symm.trans hown2)
    have h6 := u_fits (v := rv b v) hfc hkC hkind (Or.inr hlay) hi ((hty kf hk).trans (by rw [hte])) (hv b).1 (hv b).2
    refine W.putFinK C.1 C.2.1 C.2.2.2.1 (C.2.2.2.2.1 _ hlk) hi hst hcf (C.2.2.2.2.2.2.2.1.trans hn2) (by rw [q2]; exact h6) q1 q3 (by rw [hsl]; exact k2_hasslot (q4 kf hk)) rfl rfl hd fun H' e1 e2 e3 => ?_
    refine kk p l e s m args below meth c b D κ N0 H' _ ls C (X.set he ?_ e2 e3 _)
    refine ⟨_, hc, t_OB.to (V := updV (vp_V (fs.map (rv b))) kf (rv b v)) ⟨_, e1, q2, q3, ?_⟩ (fun j _ => ?_)⟩
    · rw [hsl]
      exact t_set q4 hap hk (rv b v)
    · rw [List.map_set]
      exact vp_updV_set (by simpa using hl) (rv b v) j
theorem aw_iald {i N : Nat} {f : Nat → Int32} {j : Int32} (hd : decode M.2.1 pc = .ok (.iaload, 1)) (he : h[i]? = some (.inl (0, N, .inl f))) (hj : vp_in j N) (kk : AW M al d mc ms Q k n (pc + 1) L (.int (f j.toNatClampNeg) :: st) h) : AW M al d mc ms Q k n pc L (.int j :: .ref i :: st) h :=
  fun p l e s m args below meth c b D κ N0 H locs ls C X => va_iald C.1 C.2.1 C.2.2.2.2.2.2.2.2.1 X.2.1 i 0 (wso_at he) rfl hj hd (kk p l e s m args below meth c b D κ N0 H locs ls C X)
theorem aw_zald {i N : Nat} {f : Nat → Int32} {j : Int32} (hd : decode M.2.1 pc = .ok (.baload, 1)) (he : h[i]? = some (.inl (1, N, .inl f))) (hj : vp_in j N) (kk : AW M al d mc ms Q k n (pc + 1) L (.int (f j.toNatClampNeg) :: st) h) : AW M al d mc ms Q k n pc L (.int j :: .ref i :: st) h :=
  fun p l e s m args below meth c b D κ N0 H locs ls C X => va_zald C.1 C.2.1 C.2.2.2.2.2.2.2.2.1 X.2.1 i 1 (wso_at he) rfl hj hd (kk p l e s m args below meth c b D κ N0 H locs ls C X)
theorem aw_iast {i N : Nat} {f : Nat → Int32} {j v : Int32} (hd : decode M.2.1 pc = .ok (.iastore, 1)) (he : h[i]? = some (.inl (0, N, .inl f))) (hj : vp_in j N) (kk : AW M al d mc ms Q k n (pc + 1) L st (h.set i (.inl (0, N, .inl (upd f j.toNatClampNeg v))))) : AW M al d mc ms Q k n pc L (.int v :: .int j :: .ref i :: st) h :=
  fun p l e s m args below meth c b D κ N0 H locs ls C X => by
    have ha : H[b + i]? = some (vp_cell (κ 0) (N, .inl f)) := X.2.1 i _ (wso_at he)
    refine W.iast C.1 C.2.1 ha ((C.2.2.2.2.2.2.2.2.1.2 0 _ rfl).1 N (fun j => .int (f j))) (fun q => by cases q) (by show ¬ (j < 0 ∨ (arrV _ _ _).slots.size ≤ _); rw [arrV_size]; exact hj) rfl rfl hd fun H1 e1 z oq => ?_
    refine kk p l e s m args below meth c b D κ N0 H1 _ ls C (X.set he ?_ z oq _)
    show H1[b + i]? = some (vp_cell (κ 0) (N, .inl (upd f j.toNatClampNeg v)))
    rw [e1, vp_cell_i, vp_cell_i, arrV_store]
    congr 2
    funext q
    by_cases hq : q = j.toNatClampNeg
    · subst hq
      simp [updV, upd]
    · simp [updV, upd, hq]
theorem aw_zast {i N : Nat} {f : Nat → Int32} {j v : Int32} (hd : decode M.2.1 pc = .ok (.bastore, 1)) (he : h[i]? = some (.inl (1, N, .inl f))) (hj : vp_in j N) (hv : v = 0 ∨ v = 1) (kk : AW M false d mc ms Q k n (pc + 1) L st (h.set i (.inl (1, N, .inl (upd f j.toNatClampNeg v))))) : AW M false d mc ms Q k n pc L (.int v :: .int j :: .ref i :: st) h :=
  fun p l e s m args below meth c b D κ N0 H locs ls C X => by
    have hn : vp_nar .boolean v = v := by rcases hv with rfl | rfl <;> decide
    refine va_zast C.1 C.2.1 C.2.2.2.2.2.2.2.2.1 X.2.1 X.D X.2.2.2.1 i 1 (wso_at he) rfl hj hd fun H1 locs1 hP1 hD1 hS1 => ?_
    refine kk p l e s m args below meth c b D κ N0 H1 locs1 ls C ⟨fun q => by rw [List.length_set]; exact X.1 q, ?_, fun q => (by cases q), hS1, X.2.2.2.2⟩
    rw [← wso_set]
    rw [hn] at hP1
    exact hP1
theorem aw_aald {i N t : Nat} {ty : FieldType} {f : Nat → Option Nat} {j : Int32} (ht : ∀ κ : Nat → ClassId, (tyk κ)[t]? = some (κ t, ty)) (hty : ty.isReference = true) (hd : decode M.2.1 pc = .ok (.aaload, 1)) (he : h[i]? = some (.inl (t, N, .inr (.inr (.inr (.inr f)))))) (hj : vp_in j N) (kk : AW M al d mc ms Q k n (pc + 1) L (va_rf (f j.toNatClampNeg) :: st) h) : AW M al d mc ms Q k n pc L (.int j :: .ref i :: st) h :=
  fun p l e s m args below meth c b D κ N0 H locs ls C X => by
    have hlt : j.toNatClampNeg < N := Nat.not_le.mp fun q => hj (Or.inr q)
    have ha : H[b + i]? = some (vp_cell (κ t) (N, .inr (.inr (.inr (.inr (fun q => (f q).map (b + ·))))))) := X.2.1 i _ (wso_at he)
    refine W.aald (v := rv b (va_rf (f j.toNatClampNeg))) (ty := ty) C.1 C.2.1 ha ((C.2.2.2.2.2.2.2.2.1.2 t _ (ht κ)).1 N (fun q => va_rf ((f q).map (b + ·)))) hty (fun q => by cases q) (by show ¬ (j < 0 ∨ (arrV _ _ _).slots.size ≤ _); rw [arrV_size]; exact hj) (by show (arrV _ _ _).slots[_]? = _; rw [arrV_read _ _ hlt, rv_rf]) rfl rfl hd (kk p l e s m args below meth c b D κ N0 H locs ls C X)
theorem aw_aast {i N a : Nat} {fs : List Value} {f : Nat → Option Nat} {j : Int32} (hd : decode M.2.1 pc = .ok (.aastore, 1)) (he : h[i]? = some (.inl (2, N, .inr (.inr (.inr (.inr f)))))) (hj : vp_in j N) (ha : h[a]? = some (.inr (1, fs))) (kk : AW M al d mc ms Q k n (pc + 1) L st (h.set i (.inl (2, N, .inr (.inr (.inr (.inr (va_up f j.toNatClampNeg (some a))))))))) : AW M al d mc ms Q k n pc L (.ref a :: .int j :: .ref i :: st) h :=
  fun p l e s m args below meth c b D κ N0 H locs ls C X => by
    have hlt : j.toNatClampNeg < N := Nat.not_le.mp fun q => hj (Or.inr q)
    have h0 : ¬ j < 0 := fun q => hj (Or.inl q)
    have hK := C.2.2.2.2.2.2.2.2.1
    obtain ⟨r', hr', cellV, g1, g2, g3, -⟩ := X.2.1 a _ (wso_at ha)
    have hcls := (hK.1 1 _ rfl).2
    obtain ⟨kA, comp, k1, k2, k3, -⟩ := (hK.2 2 _ rfl).2
    have hcomp : comp = D.1 1 := Option.some.inj (k3.symm.trans hcls.1)
    subst hcomp
    obtain ⟨kC, hkC, -⟩ := hcls.2
    have hcell : H[b + i]? = some (vp_cell (κ 2) (N, .inr (.inr (.inr (.inr (fun q => (f q).map (b + ·))))))) := X.2.1 i _ (wso_at he)
    refine W.aast C.1 C.2.1 hcell (fun q h => by cases h) (fun h => by cases h) k1 k2 rfl hkC ⟨h0, by show _ < (arrV _ _ _).slots.size; rw [arrV_size]; exact hlt⟩ g1 (fun q h => by rw [g3] at h; cases h) (by rw [g2]; exact hkC) (by rw [g2]; exact va_assign hcls) rfl rfl hd fun H1 e1 z oq => ?_
    refine kk p l e s m args below meth c b D κ N0 H1 _ ls C (X.set he ?_ z oq _)
    show H1[b + i]? = some (vp_cell (κ 2) (N, .inr (.inr (.inr (.inr (fun q => (va_up f j.toNatClampNeg (some a) q).map (b + ·)))))))
    rw [e1, vp_cell_q, vp_cell_q, arrV_store]
    congr 2
    funext q
    by_cases hq : q = j.toNatClampNeg
    · subst hq
      simp [updV, va_up, va_rf]
    · simp [updV, va_up, hq]
theorem aw_alen {i : Nat} {t : Nat} {ty : FieldType} {a : vp_A} (ht : ∀ κ : Nat → ClassId, (tyk κ)[t]? = some (κ t, ty)) (hd : decode M.2.1 pc = .ok (.arraylength, 1)) (he : h[i]? = some (.inl (t, a))) (kk : AW M al d mc ms Q k n (pc + 1) L (.int (Int32.ofNat a.1) :: st) h) : AW M al d mc ms Q k n pc L (.ref i :: st) h :=
  fun p l e s m args below meth c b D κ N0 H locs ls C X => va_alen C.1 C.2.1 C.2.2.2.2.2.2.2.2.1 X.2.1 i t (wso_at he) (ht κ) (by obtain ⟨n0, f | f | f | f | f⟩ := a <;> rfl) hd (kk p l e s m args below meth c b D κ N0 H locs ls C X)
theorem QC.mk {M : MI} {al : Bool} {p : Program} {s : State} {m : MethodId} {args : Array Value} {meth : Method} {c : Code} {b : Nat} {D : va_G} {κ : Nat → ClassId} {N0 : Nat} {L : List (Option Value)} {h : List AC} {H : Heap} {locs : List Loc} {ls : Array Slot} (C : CX M al p s m args meth c b D κ N0) (X : DX M al s b D κ N0 L h H locs ls) {Q : QT} {r : Option Value} (hq : Q r h) (t : State) (ht : t.heap = H) (hW : s.WarmedH t.vm) : QC al b D κ N0 Q args s (.returned (r.map (rv b))) t :=
  ⟨⟨r, h, rfl, hq, X.1, tb_warm hW C.2.2.2.2.1, va_K.moved hW.alike C.2.2.2.2.2.2.2.2.1, by rw [ht]; exact X.2.1, fun q => by rw [ht]; exact X.2.2.1 q⟩, X.2.2.2.1.F ht⟩
theorem aw_iret {v : Int32} (hr : M.2.2.2 = some .int) (hd : decode M.2.1 pc = .ok (.ireturn, 1)) (hq : Q (some (.int v)) h) : AW M al d k n Q k n pc L [.int v] h :=
  fun p l e s m args below meth c b D κ N0 H locs ls C X => W.iret C.1 C.2.1 (C.2.2.2.2.2.1.trans hr) (fun t ht hW => QC.mk C X hq t ht hW) X.2.2.2.1.2.2 hd C.2.2.2.2.2.2.1
theorem aw_zret {v : Int32} (hr : M.2.2.2 = some .boolean) (hv : v = 0 ∨ v = 1) (hd : decode M.2.1 pc = .ok (.ireturn, 1)) (hq : Q (some (.int v)) h) : AW M al d k n Q k n pc L [.int v] h :=
  fun p l e s m args below meth c b D κ N0 H locs ls C X => W.zret C.1 C.2.1 (C.2.2.2.2.2.1.trans hr) (by rcases hv with rfl | rfl <;> decide) (fun t ht hW => QC.mk C X hq t ht hW) X.2.2.2.1.2.2 hd C.2.2.2.2.2.2.1
theorem aw_vret (hr : M.2.2.2 = none) (hd : decode M.2.1 pc = .ok (.return_, 1)) (hq : Q none h) : AW M al d k n Q k n pc L [] h :=
  fun p l e s m args below meth c b D κ N0 H locs ls C X => W.vret C.1 C.2.1 (C.2.2.2.2.2.1.trans hr) (fun t ht hW => QC.mk C X (r := none) hq t ht hW) X.2.2.2.1.2.2 hd C.2.2.2.2.2.2.1
theorem aw_aret {r : Option Nat} {nm : String} (hr : M.2.2.2 = some (.object nm)) (hd : decode M.2.1 pc = .ok (.areturn, 1)) (hq : Q (some (va_rf r)) h) : AW M al d k n Q k n pc L [va_rf r] h :=
  fun p l e s m args below meth c b D κ N0 H locs ls C X => W.aret C.1 C.2.1 (C.2.2.2.2.2.1.trans hr) (Or.inl ⟨nm, rfl⟩) (by cases r with
    | none => exact Or.inl rfl
    | some a => exact Or.inr ⟨_, rfl⟩) (fun t ht hW => QC.mk C X hq t ht hW) X.2.2.2.1.2.2 hd C.2.2.2.2.2.2.1
theorem aw_widen {k' n' : Nat} (h1 : k ≤ k') (h2 : n ≤ n') (kk : AW M al d mc ms Q k' n' pc L st h) : AW M al d mc ms Q k n pc L st h :=
  fun p l e s m args below meth c b D κ N0 H locs ls C X => W.widen h1 h2 (kk p l e s m args below meth c b D κ N0 H locs ls C X)
end AWH
