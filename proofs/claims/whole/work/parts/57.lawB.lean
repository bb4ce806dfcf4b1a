def lrv (b B : Nat) : Value → Value
  | .ref 0 => .ref b
  | .ref (a + 1) => .ref (B + a)
  | v => v
theorem lrv_cat (b B : Nat) (v : Value) : (lrv b B v).category = v.category := by
  cases v with
  | ref a => cases a <;> rfl
  | _ => rfl
theorem lrv_sum {b B : Nat} (st : List Value) : ((st.map (lrv b B)).map fun v => v.category).sum = (st.map fun v => v.category).sum := by
  rw [List.map_map]
  congr 1
  exact List.map_congr_left (fun v _ => lrv_cat b B v)
theorem lrv_ints (b B : Nat) (ys : List Int32) : (ys.map Value.int).map (lrv b B) = ys.map Value.int := by
  rw [List.map_map]
  exact List.map_congr_left (fun v _ => rfl)
theorem rv_ints (B : Nat) (ys : List Int32) : (ys.map Value.int).map (rv B) = ys.map Value.int := by
  rw [List.map_map]
  exact List.map_congr_left (fun v _ => rfl)
theorem lw_k {p : Program} {s : State} {m : MethodId} {meth : Method} {c : Code} {b L : Nat} {xs : Nat → Int32} (C : lw_At p s m meth c b L xs) : ∀ w ∈ ktbl, w.before #[Value.ref b] s = true := fun w hw => C.2.2.2.2.2.1 w (List.mem_filter.mp hw).1
theorem law_call {p : Program} {l : Launch} {e : Env} {s : State} {m : MethodId} {below : List Frame} {meth : Method} {c : Code} {b L : Nat} {xs : Nat → Int32} {D : va_G} {κ : Nat → ClassId} {H : Heap} {locs : List Loc} {ls : Array Slot} {k n : Nat} {Z : State → Prop}
    {B ix nP d' pc : Nat} {M' : MI} {ys : List Int32} {hw : List AC} {Q' : QT} {rest st0 : List Value} {ci : Nat} {fs : List Value} {q : vw_C} (C : lw_At p s m meth c b L xs) (hK : va_K D kclasses (tyk κ) s) (hB : s.heap.size ≤ B) (g : CGk 1 "EarChartLaw" ix M' nP) (hM : AM M' d' (.ref 0 :: ys.map Value.int) hw Q') (hd : decode code pc = .ok (.invokevirtual ix, 3)) (hlen : ys.length = nP) (he : hw[0]? = some (.inr (ci, fs))) (hcq : kclasses[ci]? = some q) (hqc : q.1 = M'.1.cls) (hdd : d' ≤ 100)
    (hP : va_P D kclasses (wso B κ hw) H) (hS : va_S (fun q => s.heap.size ≤ q) s.heap H locs) (hl : ls.size = 4) (hst : st0 = (ys.map Value.int).reverse ++ .ref B :: rest) (hW : (rest.map fun v => v.category).sum ≤ 8) (hk : k ≤ 600000) (hn : n ≤ 7302250)
    (kk : ∀ (r : Option Value) (hw' : List AC) (H1 : Heap) (locs1 : List Loc), Q' r hw' → hw'.length = hw.length → va_P D kclasses (wso B κ hw') H1 → (∀ q : Nat, q < H.size → ¬ (B ≤ q ∧ q < B + hw.length) → H1[q]? = H[q]?) → va_S (fun q => s.heap.size ≤ q) s.heap H1 locs1 → W p l e room_1 s m #[Value.ref b] below meth c H1 locs1 k n Z (F0 m (pc + 3) ls ((r.map (rv B)).toList ++ rest))) :
    W p l e room_1 s m #[Value.ref b] below meth c H locs k n Z (F0 m pc ls st0) := by
  obtain ⟨g0, gl, gk⟩ := g
  have hts := lw_k C
  have hx := C.1
  have hb := C.2.1
  have hml := C.2.2.2.1
  have hown := C.2.2.2.2.1
  have hlo : 8 + (M'.2.2.1 + 11) + (rmD d' 0 0).locals ≤ room_1.locals := by
    show 8 + (M'.2.2.1 + 11) + 64 * d' ≤ 84000
    have := g0.2.2.2.2
    omega
  have hfr : (rmD d' 0 0).frames + 1 ≤ room_1.frames := by
    show d' + 1 ≤ 2048
    omega
  have hws := cb_code hts g0
  have hRL : ∀ U : State, U.heap = H → s.WarmedH U.vm → va_Pc ((Value.ref 0 :: ys.map Value.int).map (rv B)) (RL false B D κ hw) ((Value.ref 0 :: ys.map Value.int).map (rv B)).toArray U := fun U hU hWm => ⟨rfl, tb_warm hWm hts, va_K.moved hWm.alike hK, by rw [hU]; exact hP, fun ha => by cases ha⟩
  have hM' := hM l B D κ
  have hrm : 2 * (F0 m pc ls st0).monitorRoom + (rest.map fun v => v.category).sum ≤ 8 := lv_room hW
  have hln : ((ys.map Value.int).map (rv B)).length = nP := by rw [List.length_map, List.length_map]; exact hlen
  have hstk : st0 = ((ys.map Value.int).map (rv B)).reverse ++ .ref (B + 0) :: rest := by rw [hst, rv_ints]; rfl
  have hrecv := va_recv hK hP hcq (wso_at (b := B) (κ := κ) he)
  rw [hqc] at hrecv
  have hr : va_Run p l e room_1 s m #[Value.ref b] below meth c H locs k n 0 0 (F0 m pc ls st0) rest (QC false B D κ hw.length Q' ((Value.ref 0 :: ys.map Value.int).map (rv B)).toArray) (AX false B hw.length) := by
    rcases gl with gl | ⟨host, gl⟩
    · exact va_runV (nL := 4) (Ts := ktbl) ⟨hx, hb, hml, hown, hts⟩ hM' ⟨⟨rfl, rfl, hfr, hlo, hws, List.mem_singleton.mpr rfl, hts _ g0.1, hts _ g0.2.1, g0.2.2.1, cb_len g0, hts _ gl⟩, hts _ gk.1, hts _ gk.2⟩ ⟨RL.blind, hrecv, hRL⟩ rfl hln hl hstk hrm hd ⟨hk, hn⟩
    · exact va_runVN (nL := 4) (Ts := ktbl) ⟨hx, hb, hml, hown, hts⟩ hM' ⟨⟨⟨rfl, rfl, hfr, hlo, hws, List.mem_singleton.mpr rfl⟩, hts _ g0.1, hts _ g0.2.1, g0.2.2.1, cb_len g0, hts _ gl⟩, hts _ gk.1, hts _ gk.2⟩ ⟨RL.blind, hrecv, hRL⟩ rfl hln hl hstk hrm hd ⟨hk, hn⟩
  intro T hT S
  obtain ⟨v, st₀, t, T', Lo, h0, S', hL, e1, e2, ⟨⟨r, hw', hv, hq, hlen2, hRL2⟩, hF⟩, go⟩ := hr T hT S
  have hv : v = r.map (rv B) := by
    have := hv
    cases this; rfl
  subst hv
  have hF : H.size ≤ t.heap.size ∧ ∀ q : Nat, q < H.size → ¬ AX false B hw.length q → t.heap[q]? = H[q]? := by rw [← h0]; exact hF
  have hAX : ∀ q : Nat, AX false B hw.length q → s.heap.size ≤ q := fun q hq => Nat.le_trans hB hq.1
  obtain ⟨t2, a1, b1⟩ := kk r hw' T'.heap (locs ++ Lo) hq (hlen2 rfl) (by rw [e1]; exact hRL2.2.2.1) (fun q h1 h2 => by rw [e1]; exact hF.2 q h1 (fun z => h2 ⟨z.1, z.2 rfl⟩)) ⟨Nat.le_trans hS.1 (by rw [e1]; exact hF.1), fun q h1 h2 => by rw [e1, hF.2 q (Nat.lt_of_lt_of_le h1 hS.1) (fun z => h2 (hAX q z))]; exact hS.2.1 q h1 h2, fun q hq => by
    rcases List.mem_append.mp hq with h | h
    · exact hS.2.2 q h
    · exact hAX _ (hL q h)⟩ T' rfl S'
  exact ⟨t2, go t2 a1, b1⟩
theorem wso_kept {D : va_G} {κ : Nat → ClassId} {B : Nat} {h : List AC} {H H1 : Heap} (hP : va_P D kclasses (wso B κ h) H) (hk : ∀ q : Nat, q < H.size → B ≤ q → q < B + h.length → H1[q]? = H[q]?) : va_P D kclasses (wso B κ h) H1 := by
  refine hP.kept (fun k x hx => ?_)
  have h2 := (hP k x hx).lt
  obtain ⟨c9, hc9, rfl⟩ := wso_of hx
  have := (List.getElem?_eq_some_iff.mp hc9).1
  exact hk _ h2 (Nat.le_add_right _ _) (by show B + k < B + h.length; omega)
def LA (L : Nat) (xs : Nat → Int32) (i : Nat) (pc : Nat) (st : List Value) (hc ht : List AC) : Prop :=
  ∀ (p : Program) (l : Launch) (e : Env) (s : State) (m : MethodId) (below : List Frame) (meth : Method) (c : Code) (b : Nat) (D : va_G) (κ : Nat → ClassId) (H : Heap) (locs : List Loc) (ls : Array Slot), lw_At p s m meth c b L xs → va_K D kclasses (tyk κ) s → hc.length = 28 → ht.length = 17 → va_P D kclasses (wso s.heap.size κ hc) H → va_P D kclasses (wso (s.heap.size + 28) κ ht) H → va_S (fun q => s.heap.size ≤ q) s.heap H locs → lv_has ls 4 [(0, .ref b), (1, .ref s.heap.size), (2, .ref (s.heap.size + 28)), (3, .int (nI i))] →
    W p l e room_1 s m #[Value.ref b] below meth c H locs 45 1324 (lw_Z below #[Value.ref b] s) (F0 m pc ls (st.map (lrv b s.heap.size)))
section LAR
variable {L : Nat} {xs : Nat → Int32} {i pc : Nat} {st : List Value} {hc ht : List AC}
theorem la_x (hd : decode code pc = .ok (.aload_n 1, 1)) (kk : LA L xs i (pc + 1) (.ref 1 :: st) hc ht) : LA L xs i pc st hc ht :=
  fun p l e s m below meth c b D κ H locs ls C K n1 n2 P1 P2 S hl => lv_aload_n C.1 C.2.1 hd rfl (lv_at hl 1 rfl) (kk p l e s m below meth c b D κ H locs ls C K n1 n2 P1 P2 S hl)
theorem la_m (hd : decode code pc = .ok (.aload_n 2, 1)) (kk : LA L xs i (pc + 1) (.ref 29 :: st) hc ht) : LA L xs i pc st hc ht :=
  fun p l e s m below meth c b D κ H locs ls C K n1 n2 P1 P2 S hl => lv_aload_n C.1 C.2.1 hd rfl (lv_at hl 2 rfl) (kk p l e s m below meth c b D κ H locs ls C K n1 n2 P1 P2 S hl)
theorem la_arg {z : Int} (j : Nat) (h1 : decode code pc = .ok (.aload_n 0, 1)) (h2 : decode code (pc + 1) = .ok (.iload_n 3, 1)) (h3 : decode code (pc + 1 + 1) = .ok (.iconst z, 1)) (h4 : decode code (pc + 1 + 1 + 1) = .ok (.iadd, 1)) (h5 : decode code (pc + 1 + 1 + 1 + 1) = .ok (.iaload, 1)) (hz : Int32.ofInt z = nI j) (hi : i + j < L) (hL : L ≤ 2048) (kk : LA L xs i (pc + 5) (.int (xs (i + j)) :: st) hc ht) : LA L xs i pc st hc ht :=
  fun p l e s m below meth c b D κ H locs ls C K n1 n2 P1 P2 S hl => by
    refine lv_aload_n C.1 C.2.1 h1 rfl (lv_at hl 0 rfl) ?_
    refine lv_iload_n C.1 C.2.1 h2 rfl (lv_at hl 3 rfl) ?_
    refine lv_iconst (v := nI j) C.1 C.2.1 h3 hz ?_
    refine lv_iadd C.1 C.2.1 h4 ?_
    rw [nI_add]
    refine va_sld C.1 C.2.1 C.2.2.2.2.2.2.1 C.2.2.2.2.2.2.2.1 (Nat.not_le.mpr C.2.2.2.2.2.2.2.1) S (vp_in_nI hi (by omega)) h5 ?_
    rw [nI_clamp (by omega)]
    exact kk p l e s m below meth c b D κ H locs ls C K n1 n2 P1 P2 S hl
theorem la_ifeq {x : Int32} {off : Int} {tgt : Nat} (hd : decode code pc = .ok (.ifCond .eq off, 3)) (ht2 : (pc : Int) + off = (tgt : Int)) (kt : x = 0 → LA L xs i tgt st hc ht) (kf : ¬ x = 0 → LA L xs i (pc + 3) st hc ht) : LA L xs i pc (.int x :: st) hc ht :=
  fun p l e s m below meth c b D κ H locs ls C K n1 n2 P1 P2 S hl => lv_if_eq C.1 C.2.1 hd ht2 (fun q => kt q p l e s m below meth c b D κ H locs ls C K n1 n2 P1 P2 S hl) (fun q => kf q p l e s m below meth c b D κ H locs ls C K n1 n2 P1 P2 S hl)
theorem la_icmpeq {x : Int32} {off : Int} {tgt : Nat} (hd : decode code pc = .ok (.if_icmp .eq off, 3)) (ht2 : (pc : Int) + off = (tgt : Int)) (kt : LA L xs i tgt st hc ht) : LA L xs i pc (.int x :: .int x :: st) hc ht :=
  fun p l e s m below meth c b D κ H locs ls C K n1 n2 P1 P2 S hl => lv_icmp_eq C.1 C.2.1 hd ht2 (fun _ => kt p l e s m below meth c b D κ H locs ls C K n1 n2 P1 P2 S hl) (fun q => absurd rfl q)
theorem la_iconst {z : Int} {v : Int32} (hd : decode code pc = .ok (.iconst z, 1)) (hv : Int32.ofInt z = v) (kk : LA L xs i (pc + 1) (.int v :: st) hc ht) : LA L xs i pc st hc ht :=
  fun p l e s m below meth c b D κ H locs ls C K n1 n2 P1 P2 S hl => lv_iconst C.1 C.2.1 hd hv (kk p l e s m below meth c b D κ H locs ls C K n1 n2 P1 P2 S hl)
theorem la_goto {off : Int} {tgt : Nat} (hd : decode code pc = .ok (.goto off, 3)) (ht2 : (pc : Int) + off = (tgt : Int)) (kk : LA L xs i tgt st hc ht) : LA L xs i pc st hc ht :=
  fun p l e s m below meth c b D κ H locs ls C K n1 n2 P1 P2 S hl => lv_goto C.1 C.2.1 hd ht2 (kk p l e s m below meth c b D κ H locs ls C K n1 n2 P1 P2 S hl)
theorem la_callC {ix nP d' : Nat} {M' : MI} (ys : List Int32) {I : Nat → Int32} {A : Nat → Nat → Int32} {sp : RS} {st0 : List Value} (g : CGk 1 "EarChartLaw" ix M' nP) (hM : AM M' d' (.ref 0 :: ys.map Value.int) (hC I A) (CR sp)) (hd : decode code pc = .ok (.invokevirtual ix, 3)) (hlen : ys.length = nP) (hq : "EarChart" = M'.1.cls) (hdd : d' ≤ 100) (hst : st0 = (ys.map Value.int).reverse ++ .ref 1 :: st) (hW : (st.map fun v => v.category).sum ≤ 8)
    (kk : ∀ I' A', CInv sp.2.1 sp.2.2.1 sp.2.2.2 I' A' → LA L xs i (pc + 3) (.int sp.1 :: st) (hC I' A') ht) : LA L xs i pc st0 (hC I A) ht :=
  fun p l e s m below meth c b D κ H locs ls C K n1 n2 P1 P2 S hl => by
    refine law_call (ci := 0) C K (Nat.le_refl _) g hM hd hlen rfl rfl hq hdd P1 S hl.1 (rest := st.map (lrv b s.heap.size)) (by rw [hst, List.map_append, List.map_reverse, lrv_ints]; rfl) (by rw [lrv_sum]; exact hW) (by decide) (by decide) ?_
    rintro r hw' H1 locs1 ⟨rfl, I', A', rfl, hI'⟩ hl2 hP1 hk hS1
    exact kk I' A' hI' p l e s m below meth c b D κ H1 locs1 ls C K rfl n2 hP1 (wso_kept P2 (fun q h1 h2 h3 => hk q h1 (fun z => by have := z.2; rw [n1] at this; omega))) hS1 hl
theorem la_callT {ix nP d' : Nat} {M' : MI} (ys : List Int32) {J : Nat → Int32} {B : Nat → Nat → Int32} {sp : RS} {st0 : List Value} (g : CGk 1 "EarChartLaw" ix M' nP) (hM : AM M' d' (.ref 0 :: ys.map Value.int) (hT J B) (TR sp)) (hd : decode code pc = .ok (.invokevirtual ix, 3)) (hlen : ys.length = nP) (hq : "EarChartModel" = M'.1.cls) (hdd : d' ≤ 100) (hst : st0 = (ys.map Value.int).reverse ++ .ref 29 :: st) (hW : (st.map fun v => v.category).sum ≤ 8)
    (kk : ∀ J' B', TInv sp.2.1 sp.2.2.1 sp.2.2.2 J' B' → LA L xs i (pc + 3) (.int sp.1 :: st) hc (hT J' B')) : LA L xs i pc st0 hc (hT J B) :=
  fun p l e s m below meth c b D κ H locs ls C K n1 n2 P1 P2 S hl => by
    refine law_call (ci := 5) C K (Nat.le_add_right _ 28) g hM hd hlen rfl rfl hq hdd P2 S hl.1 (rest := st.map (lrv b s.heap.size)) (by rw [hst, List.map_append, List.map_reverse, lrv_ints]; rfl) (by rw [lrv_sum]; exact hW) (by decide) (by decide) ?_
    rintro r hw' H1 locs1 ⟨rfl, J', B', rfl, hI'⟩ hl2 hP1 hk hS1
    exact kk J' B' hI' p l e s m below meth c b D κ H1 locs1 ls C K n1 rfl (wso_kept P1 (fun q h1 h2 h3 => hk q h1 (fun z => by have := z.1; rw [n1] at h3; omega))) hP1 hS1 hl
theorem la_next {i2 : Nat} (e2 : i2 = i + 4) (hd : decode code pc = .ok (.iinc 3 4, 3)) (hd2 : decode code (pc + 3) = .ok (.goto (-1071), 3)) (hp : pc = 1086) (kk : LA L xs i2 18 [] hc ht) : LA L xs i pc [] hc ht :=
  fun p l e s m below meth c b D κ H locs ls C K n1 n2 P1 P2 S hl => by
    refine lv_iinc (v := nI i2) (lv' := [(3, .int (nI i2)), (0, .ref b), (1, .ref s.heap.size), (2, .ref (s.heap.size + 28))]) C.1 C.2.1 hd hl (k := 3) rfl (by rw [e2]; exact nI_add i 4) (by decide) rfl (fun ls hl => ?_)
    refine lv_goto (tgt := 18) C.1 C.2.1 hd2 (by rw [hp]; decide) ?_
    exact kk p l e s m below meth c b D κ H locs ls C K n1 n2 P1 P2 S (lv_sub hl [1, 2, 3, 0] rfl)
end LAR
