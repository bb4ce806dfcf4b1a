theorem law_new {p : Program} {l : Launch} {e : Env} {s : State} {m : MethodId} {below : List Frame} {meth : Method} {c : Code} {b L : Nat} {xs : Nat → Int32} {D : va_G} {κ : Nat → ClassId} {H : Heap} {locs : List Loc} {ls : Array Slot} {k n : Nat} {Z : State → Prop} {pc ix ci N : Nat} {C0 : String} {T : u_T} {ty : Nat → FieldType} {fs rest : List Value} (C : lw_At p s m meth c b L xs) (hK : va_K D kclasses (tyk κ) s) (hc : kclasses[ci]? = some (C0, T, N)) (hin : ∀ w ∈ u_ws C0 T N, w ∈ ktbl) (hty : ∀ k, k < N → parseFieldDescriptor (T k).2.2.1 = some (ty k)) (w1 : Cond.classLink "EarChartLaw" ix C0 ∈ ktbl) (w2 : Cond.instantiable C0 N ∈ ktbl) (w3 : Cond.initialized C0 ∈ ktbl) (hd : decode code pc = .ok (.new ix, 3)) (hfs : ∀ b j, j < N → defaultValue (ty j) = vp_V (fs.map (rv b)) j) (hk : k + 1 ≤ 600000) (hn : n + N ≤ 7302250)
    (kk : ∀ H1 : Heap, va_P D kclasses (wso H.size κ [.inr (ci, fs)]) H1 → H1.size = H.size + 1 → (∀ q : Nat, q < H.size → H1[q]? = H[q]?) → W p l e room_1 s m #[Value.ref b] below meth c H1 locs (k + 1) (n + N) Z (F0 m (pc + 3) ls (.ref H.size :: rest))) : W p l e room_1 s m #[Value.ref b] below meth c H locs k n Z (F0 m pc ls rest) := by
  have hts := lw_k C
  have hKn := hK.1 ci _ hc
  refine W.newcK C.1 C.2.1 C.2.2.2.2.1 (hts _ w1) (hts _ w2) (hts _ w3) rfl hd hk hn hKn.2.1 (h := H.size) rfl fun H1 kC hkC e1 z1 o1 => ?_
  refine kk H1 (fun i x hx => ?_) z1 o1
  obtain ⟨c9, hc9, rfl⟩ := wso_of hx
  have hz : i < 1 := (List.getElem?_eq_some_iff.mp hc9).1
  rw [show i = 0 by omega] at hc9 ⊢
  cases hc9
  exact ⟨_, hc, (u_born ty hts hin hKn hkC e1 hty).to (hfs H.size)⟩
theorem law_init {p : Program} {l : Launch} {e : Env} {s : State} {m : MethodId} {below : List Frame} {meth : Method} {c : Code} {b L : Nat} {xs : Nat → Int32} {D : va_G} {κ : Nat → ClassId} {H : Heap} {locs : List Loc} {ls : Array Slot} {k n : Nat} {Z : State → Prop} {B ix d' mc' ms' pc : Nat} {M' : MI} {c0 : AC} {Q' : QT} {rest : List Value} (C : lw_At p s m meth c b L xs) (hK : va_K D kclasses (tyk κ) s) (hB : s.heap.size ≤ B) (hsz : H.size = B + 1) (g : CGk 2 "EarChartLaw" ix M' 0) (hM : AMet M' true d' mc' ms' [.ref 0] [c0] Q') (hd : decode code pc = .ok (.invokespecial ix, 3)) (hdd : d' ≤ 100)
    (hP : va_P D kclasses (wso B κ [c0]) H) (hS : va_S (fun q => s.heap.size ≤ q) s.heap H locs) (hl : ls.size = 4) (hW : (rest.map fun v => v.category).sum ≤ 8) (hk : k + mc' ≤ 600000) (hn : n + ms' ≤ 7302250)
    (kk : ∀ (r : Option Value) (hw' : List AC) (H1 : Heap) (locs1 : List Loc), Q' r hw' → va_P D kclasses (wso B κ hw') H1 → H1.size = B + hw'.length → (∀ q : Nat, q < B → H1[q]? = H[q]?) → va_S (fun q => s.heap.size ≤ q) s.heap H1 locs1 → W p l e room_1 s m #[Value.ref b] below meth c H1 locs1 (k + mc') (n + ms') Z (F0 m (pc + 3) ls ((r.map (rv B)).toList ++ rest))) :
    W p l e room_1 s m #[Value.ref b] below meth c H locs k n Z (F0 m pc ls (.ref B :: rest)) := by
  obtain ⟨g0, gl, gi, gn, gr⟩ := g
  have hts := lw_k C
  have hx := C.1
  have hb := C.2.1
  have hml := C.2.2.2.1
  have hown := C.2.2.2.2.1
  have hlo : 8 + (M'.2.2.1 + 11) + (rmD d' mc' ms').locals ≤ room_1.locals := by
    show 8 + (M'.2.2.1 + 11) + 64 * d' ≤ 84000
    have := g0.2.2.2.2
    omega
  have hfr : (rmD d' mc' ms').frames + 1 ≤ room_1.frames := by
    show d' + 1 ≤ 2048
    omega
  have hws := cb_code hts g0
  have hws2 : ∀ w ∈ [Cond.code M'.1 M'.2.1 M'.2.2.1 none], ∀ (a' : Array Value) (U : State), s.WarmedH U.vm → w.before a' U = true := by rw [← gr]; exact hws
  have hc2 : (Cond.code M'.1 M'.2.1 M'.2.2.1 none).before #[Value.ref b] s = true := by rw [← gr]; exact hts _ g0.1
  have hRL : ∀ U : State, U.heap = H → s.WarmedH U.vm → va_Pc (([Value.ref 0] : List Value).map (rv B)) (RL true B D κ [c0]) (([Value.ref 0] : List Value).map (rv B)).toArray U := fun U hU hWm => ⟨rfl, tb_warm hWm hts, va_K.moved hWm.alike hK, by rw [hU]; exact hP, fun _ => by rw [hU]; exact hsz⟩
  have hM' := hM l B D κ
  rw [gr] at hM'
  have hrm : 2 * (F0 m pc ls (.ref B :: rest)).monitorRoom + (rest.map fun v => v.category).sum ≤ 8 := lv_room hW
  have hr : va_Run p l e room_1 s m #[Value.ref b] below meth c H locs k n mc' ms' (F0 m pc ls (.ref B :: rest)) rest (QC true B D κ ([c0] : List AC).length Q' (([Value.ref 0] : List Value).map (rv B)).toArray) (AX true B ([c0] : List AC).length) := by
    rcases gl with gl | ⟨host, gl⟩
    · exact va_runI (nL := 4) (Ts := ktbl) (As := []) ⟨hx, hb, hml, hown, hts⟩ hM' ⟨⟨rfl, rfl, hfr, hlo, hws2, List.mem_singleton.mpr rfl, hc2, hts _ g0.2.1, g0.2.2.1, cb_len g0, hts _ gl⟩, gn, hts _ gi⟩ ⟨RL.blind, hRL⟩ rfl rfl hl rfl hrm hd ⟨hk, hn⟩
    · exact va_runIN (nL := 4) (Ts := ktbl) (As := []) ⟨hx, hb, hml, hown, hts⟩ hM' ⟨⟨⟨rfl, rfl, hfr, hlo, hws2, List.mem_singleton.mpr rfl⟩, hc2, hts _ g0.2.1, g0.2.2.1, cb_len g0, hts _ gl⟩, gn, hts _ gi⟩ ⟨RL.blind, hRL⟩ rfl rfl hl rfl hrm hd ⟨hk, hn⟩
  intro T hT S
  obtain ⟨v, st₀, t, T', Lo, h0, S', hL, e1, e2, ⟨⟨r, hw', hv, hq, hlen2, hRL2⟩, hF⟩, go⟩ := hr T hT S
  have hv : v = r.map (rv B) := by
    have := hv
    cases this; rfl
  subst hv
  have hF : H.size ≤ t.heap.size ∧ ∀ q : Nat, q < H.size → ¬ AX true B ([c0] : List AC).length q → t.heap[q]? = H[q]? := by rw [← h0]; exact hF
  have hAX : ∀ q : Nat, AX true B ([c0] : List AC).length q → s.heap.size ≤ q := fun q hq => Nat.le_trans hB hq.1
  obtain ⟨t2, a1, b1⟩ := kk r hw' T'.heap (locs ++ Lo) hq (by rw [e1]; exact hRL2.2.2.1) (by rw [e1]; exact hRL2.2.2.2 rfl) (fun q h1 => by rw [e1]; exact hF.2 q (by omega) (fun z => by have := z.1; omega)) ⟨Nat.le_trans hS.1 (by rw [e1]; exact hF.1), fun q h1 h2 => by rw [e1, hF.2 q (Nat.lt_of_lt_of_le h1 hS.1) (fun z => h2 (hAX q z))]; exact hS.2.1 q h1 h2, fun q hq => by
    rcases List.mem_append.mp hq with h | h
    · exact hS.2.2 q h
    · exact hAX _ (hL q h)⟩ T' rfl S'
  exact ⟨t2, go t2 a1, b1⟩

set_option maxHeartbeats 4000000 in
set_option maxRecDepth 100000 in
theorem law_head {L : Nat} {xs : Nat → Int32} {i : Nat} (hL : L ≤ 2048) (hi : i ≤ 4096) (N : Nat → Nat) (V : Nat → Nat → Int32) (K : Nat → Int32) (I : Nat → Int32) (A : Nat → Nat → Int32) (J : Nat → Int32) (B : Nat → Nat → Int32) (hI : CInv N V K I A) (hM : TInv N V K J B) (hP : PInv N V K) (kk : i + 4 ≤ L → ∀ (N : Nat → Nat) (V : Nat → Nat → Int32) (K : Nat → Int32) (I : Nat → Int32) (A : Nat → Nat → Int32) (J : Nat → Int32) (B : Nat → Nat → Int32), CInv N V K I A → TInv N V K J B → PInv N V K → LA L xs i 1086 [] (hC I A) (hT J B)) : LA L xs i 18 [] (hC I A) (hT J B) := by
  intro p l e s m below meth c b D κ H locs ls C hK n1 n2 P1 P2 S hl
  have hbl := C.2.2.2.2.2.2.2.1
  have e4 : (nI L - 4).toInt = (L : Int) - 4 := by
    rw [i_sub (by rw [nI_toInt (by omega), z_4]; omega) (by rw [nI_toInt (by omega), z_4]; omega), nI_toInt (by omega), z_4]
  refine lv_iload_n C.1 C.2.1 dLaw_law_18 rfl (lv_at hl 3 rfl) ?_
  refine lv_aload_n C.1 C.2.1 dLaw_law_19 rfl (lv_at hl 0 rfl) ?_
  refine va_slen C.1 C.2.1 C.2.2.2.2.2.2.1 hbl (Nat.not_le.mpr hbl) S dLaw_law_20 ?_
  refine lv_iconst (v := 4) C.1 C.2.1 dLaw_law_21 (by decide) ?_
  refine lv_isub C.1 C.2.1 dLaw_law_22 ?_
  refine lv_icmp_gt (tgt := 1092) C.1 C.2.1 dLaw_law_23 (by decide) (fun c1 => ?_) (fun c1 => ?_)
  · refine lv_iconst (v := 1) C.1 C.2.1 dLaw_law_1092 (by decide) ?_
    refine va_forget (fun q hq => S.2.2 q hq) ?_
    refine W.widen (show 45 ≤ 600000 by decide) (show 1324 ≤ 7302250 by decide) ?_
    exact lw_ret C.1 C.2.1 C.2.2.1 C.2.2.2.2.2.2.2.2.1 dLaw_law_1093
  · have h4 : i + 4 ≤ L := by
      have c1 : ¬ nI L - 4 < nI i := c1
      rw [lt_T, e4, nI_toInt (by omega)] at c1
      omega
    refine lv_aload_n C.1 C.2.1 dLaw_law_26 rfl (lv_at hl 0 rfl) ?_
    refine lv_iload_n C.1 C.2.1 dLaw_law_27 rfl (lv_at hl 3 rfl) ?_
    refine va_sld C.1 C.2.1 C.2.2.2.2.2.2.1 hbl (Nat.not_le.mpr hbl) S (vp_in_nI (show i < L by omega) (by omega)) dLaw_law_28 ?_
    refine lv_bipush (v := 31) C.1 C.2.1 dLaw_law_29 (by decide) ?_
    refine lv_iand C.1 C.2.1 dLaw_law_31 ?_
    obtain ⟨j, hj, ej⟩ := pk_andE (xs (nI i).toNatClampNeg) (m := 31) 5 (by decide)
    rw [ej]
    rcases (show j = 0 ∨ j = 1 ∨ j = 2 ∨ j = 3 ∨ j = 4 ∨ j = 5 ∨ j = 6 ∨ j = 7 ∨ j = 8 ∨ j = 9 ∨ j = 10 ∨ j = 11 ∨ j = 12 ∨ j = 13 ∨ j = 14 ∨ j = 15 ∨ j = 16 ∨ j = 17 ∨ j = 18 ∨ j = 19 ∨ j = 20 ∨ j = 21 ∨ j = 22 ∨ j = 23 ∨ j = 24 ∨ j = 25 ∨ j = 26 ∨ j = 27 ∨ 28 ≤ j by omega) with rfl | rfl | rfl | rfl | rfl | rfl | rfl | rfl | rfl | rfl | rfl | rfl | rfl | rfl | rfl | rfl | rfl | rfl | rfl | rfl | rfl | rfl | rfl | rfl | rfl | rfl | rfl | rfl | hj2
    · refine lv_tableIn (off := 128) (tgt := 160) C.1 C.2.1 dLaw_law_32 (by decide) (by decide) (by decide) (by decide) ?_
      exact law_c0 hL h4 N V K I A J B hI hM hP (kk h4) p l e s m below meth c b D κ H locs ls C hK rfl rfl P1 P2 S hl
    · refine lv_tableIn (off := 161) (tgt := 193) C.1 C.2.1 dLaw_law_32 (by decide) (by decide) (by decide) (by decide) ?_
      exact law_c1 hL h4 N V K I A J B hI hM hP (kk h4) p l e s m below meth c b D κ H locs ls C hK rfl rfl P1 P2 S hl
    · refine lv_tableIn (off := 184) (tgt := 216) C.1 C.2.1 dLaw_law_32 (by decide) (by decide) (by decide) (by decide) ?_
      exact law_c2 hL h4 N V K I A J B hI hM hP (kk h4) p l e s m below meth c b D κ H locs ls C hK rfl rfl P1 P2 S hl
    · refine lv_tableIn (off := 227) (tgt := 259) C.1 C.2.1 dLaw_law_32 (by decide) (by decide) (by decide) (by decide) ?_
      exact law_c3 hL h4 N V K I A J B hI hM hP (kk h4) p l e s m below meth c b D κ H locs ls C hK rfl rfl P1 P2 S hl
    · refine lv_tableIn (off := 250) (tgt := 282) C.1 C.2.1 dLaw_law_32 (by decide) (by decide) (by decide) (by decide) ?_
      exact law_c4 hL h4 N V K I A J B hI hM hP (kk h4) p l e s m below meth c b D κ H locs ls C hK rfl rfl P1 P2 S hl
    · refine lv_tableIn (off := 283) (tgt := 315) C.1 C.2.1 dLaw_law_32 (by decide) (by decide) (by decide) (by decide) ?_
      exact law_c5 hL h4 N V K I A J B hI hM hP (kk h4) p l e s m below meth c b D κ H locs ls C hK rfl rfl P1 P2 S hl
    · refine lv_tableIn (off := 306) (tgt := 338) C.1 C.2.1 dLaw_law_32 (by decide) (by decide) (by decide) (by decide) ?_
      exact law_c6 hL h4 N V K I A J B hI hM hP (kk h4) p l e s m below meth c b D κ H locs ls C hK rfl rfl P1 P2 S hl
    · refine lv_tableIn (off := 339) (tgt := 371) C.1 C.2.1 dLaw_law_32 (by decide) (by decide) (by decide) (by decide) ?_
      exact law_c7 hL h4 N V K I A J B hI hM hP (kk h4) p l e s m below meth c b D κ H locs ls C hK rfl rfl P1 P2 S hl
    · refine lv_tableIn (off := 362) (tgt := 394) C.1 C.2.1 dLaw_law_32 (by decide) (by decide) (by decide) (by decide) ?_
      exact law_c8 hL h4 N V K I A J B hI hM hP (kk h4) p l e s m below meth c b D κ H locs ls C hK rfl rfl P1 P2 S hl
    · refine lv_tableIn (off := 385) (tgt := 417) C.1 C.2.1 dLaw_law_32 (by decide) (by decide) (by decide) (by decide) ?_
      exact law_c9 hL h4 N V K I A J B hI hM hP (kk h4) p l e s m below meth c b D κ H locs ls C hK rfl rfl P1 P2 S hl
    · refine lv_tableIn (off := 428) (tgt := 460) C.1 C.2.1 dLaw_law_32 (by decide) (by decide) (by decide) (by decide) ?_
      exact law_c10 hL h4 N V K I A J B hI hM hP (kk h4) p l e s m below meth c b D κ H locs ls C hK rfl rfl P1 P2 S hl
    · refine lv_tableIn (off := 461) (tgt := 493) C.1 C.2.1 dLaw_law_32 (by decide) (by decide) (by decide) (by decide) ?_
      exact law_c11 hL h4 N V K I A J B hI hM hP (kk h4) p l e s m below meth c b D κ H locs ls C hK rfl rfl P1 P2 S hl
    · refine lv_tableIn (off := 484) (tgt := 516) C.1 C.2.1 dLaw_law_32 (by decide) (by decide) (by decide) (by decide) ?_
      exact law_c12 hL h4 N V K I A J B hI hM hP (kk h4) p l e s m below meth c b D κ H locs ls C hK rfl rfl P1 P2 S hl
    · refine lv_tableIn (off := 517) (tgt := 549) C.1 C.2.1 dLaw_law_32 (by decide) (by decide) (by decide) (by decide) ?_
      exact law_c13 hL h4 N V K I A J B hI hM hP (kk h4) p l e s m below meth c b D κ H locs ls C hK rfl rfl P1 P2 S hl
    · refine lv_tableIn (off := 560) (tgt := 592) C.1 C.2.1 dLaw_law_32 (by decide) (by decide) (by decide) (by decide) ?_
      exact law_c14 hL h4 N V K I A J B hI hM hP (kk h4) p l e s m below meth c b D κ H locs ls C hK rfl rfl P1 P2 S hl
    · refine lv_tableIn (off := 593) (tgt := 625) C.1 C.2.1 dLaw_law_32 (by decide) (by decide) (by decide) (by decide) ?_
      exact law_c15 hL h4 N V K I A J B hI hM hP (kk h4) p l e s m below meth c b D κ H locs ls C hK rfl rfl P1 P2 S hl
    · refine lv_tableIn (off := 636) (tgt := 668) C.1 C.2.1 dLaw_law_32 (by decide) (by decide) (by decide) (by decide) ?_
      exact law_c16 hL h4 N V K I A J B hI hM hP (kk h4) p l e s m below meth c b D κ H locs ls C hK rfl rfl P1 P2 S hl
    · refine lv_tableIn (off := 669) (tgt := 701) C.1 C.2.1 dLaw_law_32 (by decide) (by decide) (by decide) (by decide) ?_
      exact law_c17 hL h4 N V K I A J B hI hM hP (kk h4) p l e s m below meth c b D κ H locs ls C hK rfl rfl P1 P2 S hl
    · refine lv_tableIn (off := 702) (tgt := 734) C.1 C.2.1 dLaw_law_32 (by decide) (by decide) (by decide) (by decide) ?_
      exact law_c18 hL h4 N V K I A J B hI hM hP (kk h4) p l e s m below meth c b D κ H locs ls C hK rfl rfl P1 P2 S hl
    · refine lv_tableIn (off := 735) (tgt := 767) C.1 C.2.1 dLaw_law_32 (by decide) (by decide) (by decide) (by decide) ?_
      exact law_c19 hL h4 N V K I A J B hI hM hP (kk h4) p l e s m below meth c b D κ H locs ls C hK rfl rfl P1 P2 S hl
    · refine lv_tableIn (off := 768) (tgt := 800) C.1 C.2.1 dLaw_law_32 (by decide) (by decide) (by decide) (by decide) ?_
      exact law_c20 hL h4 N V K I A J B hI hM hP (kk h4) p l e s m below meth c b D κ H locs ls C hK rfl rfl P1 P2 S hl
    · refine lv_tableIn (off := 791) (tgt := 823) C.1 C.2.1 dLaw_law_32 (by decide) (by decide) (by decide) (by decide) ?_
      exact law_c21 hL h4 N V K I A J B hI hM hP (kk h4) p l e s m below meth c b D κ H locs ls C hK rfl rfl P1 P2 S hl
    · refine lv_tableIn (off := 824) (tgt := 856) C.1 C.2.1 dLaw_law_32 (by decide) (by decide) (by decide) (by decide) ?_
      exact law_c22 hL h4 N V K I A J B hI hM hP (kk h4) p l e s m below meth c b D κ H locs ls C hK rfl rfl P1 P2 S hl
    · refine lv_tableIn (off := 867) (tgt := 899) C.1 C.2.1 dLaw_law_32 (by decide) (by decide) (by decide) (by decide) ?_
      exact law_c23 hL h4 N V K I A J B hI hM hP (kk h4) p l e s m below meth c b D κ H locs ls C hK rfl rfl P1 P2 S hl
    · refine lv_tableIn (off := 910) (tgt := 942) C.1 C.2.1 dLaw_law_32 (by decide) (by decide) (by decide) (by decide) ?_
      exact law_c24 hL h4 N V K I A J B hI hM hP (kk h4) p l e s m below meth c b D κ H locs ls C hK rfl rfl P1 P2 S hl
    · refine lv_tableIn (off := 943) (tgt := 975) C.1 C.2.1 dLaw_law_32 (by decide) (by decide) (by decide) (by decide) ?_
      exact law_c25 hL h4 N V K I A J B hI hM hP (kk h4) p l e s m below meth c b D κ H locs ls C hK rfl rfl P1 P2 S hl
    · refine lv_tableIn (off := 966) (tgt := 998) C.1 C.2.1 dLaw_law_32 (by decide) (by decide) (by decide) (by decide) ?_
      exact law_c26 hL h4 N V K I A J B hI hM hP (kk h4) p l e s m below meth c b D κ H locs ls C hK rfl rfl P1 P2 S hl
    · refine lv_tableIn (off := 1005) (tgt := 1037) C.1 C.2.1 dLaw_law_32 (by decide) (by decide) (by decide) (by decide) ?_
      exact law_c27 hL h4 N V K I A J B hI hM hP (kk h4) p l e s m below meth c b D κ H locs ls C hK rfl rfl P1 P2 S hl
    · refine lv_tableOut (tgt := 1086) C.1 C.2.1 dLaw_law_32 (Or.inr (by rw [nI_toInt (by omega)]; omega)) (by decide) ?_
      exact kk h4 N V K I A J B hI hM hP p l e s m below meth c b D κ H locs ls C hK rfl rfl P1 P2 S hl

theorem law_loop {L : Nat} {xs : Nat → Int32} (hL : L ≤ 2048) : ∀ (n i : Nat) (N : Nat → Nat) (V : Nat → Nat → Int32) (K : Nat → Int32) (I : Nat → Int32) (A : Nat → Nat → Int32) (J : Nat → Int32) (B : Nat → Nat → Int32), L < i + n → i ≤ 4096 → CInv N V K I A → TInv N V K J B → PInv N V K → LA L xs i 18 [] (hC I A) (hT J B) := by
  intro n
  induction n with
  | zero =>
    intro i N V K I A J B hin hi hI hM hP
    exact law_head hL hi N V K I A J B hI hM hP (fun h4 => by omega)
  | succ n ih =>
    intro i N V K I A J B hin hi hI hM hP
    exact law_head hL hi N V K I A J B hI hM hP (fun h4 N V K I A J B hI hM hP => la_next rfl dLaw_law_1086 dLaw_law_1089 rfl (ih (i + 4) N V K I A J B (by omega) (by omega) hI hM hP))
