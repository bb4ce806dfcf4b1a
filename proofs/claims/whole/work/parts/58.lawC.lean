set_option maxHeartbeats 4000000 in
set_option maxRecDepth 100000 in
theorem law_c0 {L : Nat} {xs : Nat → Int32} {i : Nat} (hL : L ≤ 2048) (hi : i + 4 ≤ L) (N : Nat → Nat) (V : Nat → Nat → Int32) (K : Nat → Int32) (I : Nat → Int32) (A : Nat → Nat → Int32) (J : Nat → Int32) (B : Nat → Nat → Int32) (hI : CInv N V K I A) (hM : TInv N V K J B) (hP : PInv N V K) (kk : ∀ (N : Nat → Nat) (V : Nat → Nat → Int32) (K : Nat → Int32) (I : Nat → Int32) (A : Nat → Nat → Int32) (J : Nat → Int32) (B : Nat → Nat → Int32), CInv N V K I A → TInv N V K J B → PInv N V K → LA L xs i 1086 [] (hC I A) (hT J B)) : LA L xs i 160 [] (hC I A) (hT J B) := by
  refine la_x dLaw_law_160 ?_
  refine la_arg 1 dLaw_law_161 dLaw_law_162 dLaw_law_163 dLaw_law_164 dLaw_law_165 (by decide) (by omega) hL ?_
  refine la_arg 2 dLaw_law_166 dLaw_law_167 dLaw_law_168 dLaw_law_169 dLaw_law_170 (by decide) (by omega) hL ?_
  refine la_callC [(xs (i + 1)), (xs (i + 2))] cg_Law_13 (c_E_value N V K I A hI (xs (i + 1)) (xs (i + 2))) dLaw_law_171 rfl rfl (by decide) rfl (Nat.le_of_ble_eq_true rfl) (fun I1 A1 hI1 => ?_)
  refine la_m dLaw_law_174 ?_
  refine la_arg 1 dLaw_law_175 dLaw_law_176 dLaw_law_177 dLaw_law_178 dLaw_law_179 (by decide) (by omega) hL ?_
  refine la_arg 2 dLaw_law_180 dLaw_law_181 dLaw_law_182 dLaw_law_183 dLaw_law_184 (by decide) (by omega) hL ?_
  refine la_callT [(xs (i + 1)), (xs (i + 2))] cg_Law_17 (c_T_value N V K J B hM (xs (i + 1)) (xs (i + 2))) dLaw_law_185 rfl rfl (by decide) rfl (Nat.le_of_ble_eq_true rfl) (fun J1 B1 hM1 => ?_)
  refine la_icmpeq (tgt := 1086) dLaw_law_188 (by decide) ?_
  exact kk _ _ _ I1 A1 J1 B1 hI1 hM1 (ps_value hP)

set_option maxHeartbeats 4000000 in
set_option maxRecDepth 100000 in
theorem law_c1 {L : Nat} {xs : Nat → Int32} {i : Nat} (hL : L ≤ 2048) (hi : i + 4 ≤ L) (N : Nat → Nat) (V : Nat → Nat → Int32) (K : Nat → Int32) (I : Nat → Int32) (A : Nat → Nat → Int32) (J : Nat → Int32) (B : Nat → Nat → Int32) (hI : CInv N V K I A) (hM : TInv N V K J B) (hP : PInv N V K) (kk : ∀ (N : Nat → Nat) (V : Nat → Nat → Int32) (K : Nat → Int32) (I : Nat → Int32) (A : Nat → Nat → Int32) (J : Nat → Int32) (B : Nat → Nat → Int32), CInv N V K I A → TInv N V K J B → PInv N V K → LA L xs i 1086 [] (hC I A) (hT J B)) : LA L xs i 193 [] (hC I A) (hT J B) := by
  refine la_x dLaw_law_193 ?_
  refine la_arg 1 dLaw_law_194 dLaw_law_195 dLaw_law_196 dLaw_law_197 dLaw_law_198 (by decide) (by omega) hL ?_
  refine la_callC [(xs (i + 1))] cg_Law_18 (c_E_gap N V K I A hI (xs (i + 1))) dLaw_law_199 rfl rfl (by decide) rfl (Nat.le_of_ble_eq_true rfl) (fun I1 A1 hI1 => ?_)
  refine la_m dLaw_law_202 ?_
  refine la_arg 1 dLaw_law_203 dLaw_law_204 dLaw_law_205 dLaw_law_206 dLaw_law_207 (by decide) (by omega) hL ?_
  refine la_callT [(xs (i + 1))] cg_Law_22 (c_T_gap N V K J B hM (xs (i + 1))) dLaw_law_208 rfl rfl (by decide) rfl (Nat.le_of_ble_eq_true rfl) (fun J1 B1 hM1 => ?_)
  refine la_icmpeq (tgt := 1086) dLaw_law_211 (by decide) ?_
  exact kk _ _ _ I1 A1 J1 B1 hI1 hM1 (ps_gap hP)

set_option maxHeartbeats 4000000 in
set_option maxRecDepth 100000 in
theorem law_c2 {L : Nat} {xs : Nat → Int32} {i : Nat} (hL : L ≤ 2048) (hi : i + 4 ≤ L) (N : Nat → Nat) (V : Nat → Nat → Int32) (K : Nat → Int32) (I : Nat → Int32) (A : Nat → Nat → Int32) (J : Nat → Int32) (B : Nat → Nat → Int32) (hI : CInv N V K I A) (hM : TInv N V K J B) (hP : PInv N V K) (kk : ∀ (N : Nat → Nat) (V : Nat → Nat → Int32) (K : Nat → Int32) (I : Nat → Int32) (A : Nat → Nat → Int32) (J : Nat → Int32) (B : Nat → Nat → Int32), CInv N V K I A → TInv N V K J B → PInv N V K → LA L xs i 1086 [] (hC I A) (hT J B)) : LA L xs i 216 [] (hC I A) (hT J B) := by
  refine la_x dLaw_law_216 ?_
  refine la_arg 1 dLaw_law_217 dLaw_law_218 dLaw_law_219 dLaw_law_220 dLaw_law_221 (by decide) (by omega) hL ?_
  refine la_arg 2 dLaw_law_222 dLaw_law_223 dLaw_law_224 dLaw_law_225 dLaw_law_226 (by decide) (by omega) hL ?_
  refine la_arg 3 dLaw_law_227 dLaw_law_228 dLaw_law_229 dLaw_law_230 dLaw_law_231 (by decide) (by omega) hL ?_
  refine la_callC [(xs (i + 1)), (xs (i + 2)), (xs (i + 3))] cg_Law_23 (c_E_put N V K I A hI (xs (i + 1)) (xs (i + 2)) (xs (i + 3))) dLaw_law_232 rfl rfl (by decide) rfl (Nat.le_of_ble_eq_true rfl) (fun I1 A1 hI1 => ?_)
  refine la_m dLaw_law_235 ?_
  refine la_arg 1 dLaw_law_236 dLaw_law_237 dLaw_law_238 dLaw_law_239 dLaw_law_240 (by decide) (by omega) hL ?_
  refine la_arg 2 dLaw_law_241 dLaw_law_242 dLaw_law_243 dLaw_law_244 dLaw_law_245 (by decide) (by omega) hL ?_
  refine la_arg 3 dLaw_law_246 dLaw_law_247 dLaw_law_248 dLaw_law_249 dLaw_law_250 (by decide) (by omega) hL ?_
  refine la_callT [(xs (i + 1)), (xs (i + 2)), (xs (i + 3))] cg_Law_27 (c_T_put N V K J B hM (xs (i + 1)) (xs (i + 2)) (xs (i + 3))) dLaw_law_251 rfl rfl (by decide) rfl (Nat.le_of_ble_eq_true rfl) (fun J1 B1 hM1 => ?_)
  refine la_icmpeq (tgt := 1086) dLaw_law_254 (by decide) ?_
  exact kk _ _ _ I1 A1 J1 B1 hI1 hM1 (ps_put hP)

set_option maxHeartbeats 4000000 in
set_option maxRecDepth 100000 in
theorem law_c3 {L : Nat} {xs : Nat → Int32} {i : Nat} (hL : L ≤ 2048) (hi : i + 4 ≤ L) (N : Nat → Nat) (V : Nat → Nat → Int32) (K : Nat → Int32) (I : Nat → Int32) (A : Nat → Nat → Int32) (J : Nat → Int32) (B : Nat → Nat → Int32) (hI : CInv N V K I A) (hM : TInv N V K J B) (hP : PInv N V K) (kk : ∀ (N : Nat → Nat) (V : Nat → Nat → Int32) (K : Nat → Int32) (I : Nat → Int32) (A : Nat → Nat → Int32) (J : Nat → Int32) (B : Nat → Nat → Int32), CInv N V K I A → TInv N V K J B → PInv N V K → LA L xs i 1086 [] (hC I A) (hT J B)) : LA L xs i 259 [] (hC I A) (hT J B) := by
  refine la_x dLaw_law_259 ?_
  refine la_arg 1 dLaw_law_260 dLaw_law_261 dLaw_law_262 dLaw_law_263 dLaw_law_264 (by decide) (by omega) hL ?_
  refine la_callC [(xs (i + 1))] cg_Law_28 (c_E_clear N V K I A hI (xs (i + 1))) dLaw_law_265 rfl rfl (by decide) rfl (Nat.le_of_ble_eq_true rfl) (fun I1 A1 hI1 => ?_)
  refine la_m dLaw_law_268 ?_
  refine la_arg 1 dLaw_law_269 dLaw_law_270 dLaw_law_271 dLaw_law_272 dLaw_law_273 (by decide) (by omega) hL ?_
  refine la_callT [(xs (i + 1))] cg_Law_31 (c_T_clear N V K J B hM (xs (i + 1))) dLaw_law_274 rfl rfl (by decide) rfl (Nat.le_of_ble_eq_true rfl) (fun J1 B1 hM1 => ?_)
  refine la_icmpeq (tgt := 1086) dLaw_law_277 (by decide) ?_
  exact kk _ _ _ I1 A1 J1 B1 hI1 hM1 (ps_clear hP)

set_option maxHeartbeats 4000000 in
set_option maxRecDepth 100000 in
theorem law_c4 {L : Nat} {xs : Nat → Int32} {i : Nat} (hL : L ≤ 2048) (hi : i + 4 ≤ L) (N : Nat → Nat) (V : Nat → Nat → Int32) (K : Nat → Int32) (I : Nat → Int32) (A : Nat → Nat → Int32) (J : Nat → Int32) (B : Nat → Nat → Int32) (hI : CInv N V K I A) (hM : TInv N V K J B) (hP : PInv N V K) (kk : ∀ (N : Nat → Nat) (V : Nat → Nat → Int32) (K : Nat → Int32) (I : Nat → Int32) (A : Nat → Nat → Int32) (J : Nat → Int32) (B : Nat → Nat → Int32), CInv N V K I A → TInv N V K J B → PInv N V K → LA L xs i 1086 [] (hC I A) (hT J B)) : LA L xs i 282 [] (hC I A) (hT J B) := by
  refine la_x dLaw_law_282 ?_
  refine la_arg 1 dLaw_law_283 dLaw_law_284 dLaw_law_285 dLaw_law_286 dLaw_law_287 (by decide) (by omega) hL ?_
  refine la_arg 2 dLaw_law_288 dLaw_law_289 dLaw_law_290 dLaw_law_291 dLaw_law_292 (by decide) (by omega) hL ?_
  refine la_callC [(xs (i + 1)), (xs (i + 2))] cg_Law_32 (c_E_miss N V K I A hI (xs (i + 1)) (xs (i + 2))) dLaw_law_293 rfl rfl (by decide) rfl (Nat.le_of_ble_eq_true rfl) (fun I1 A1 hI1 => ?_)
  refine la_m dLaw_law_296 ?_
  refine la_arg 1 dLaw_law_297 dLaw_law_298 dLaw_law_299 dLaw_law_300 dLaw_law_301 (by decide) (by omega) hL ?_
  refine la_arg 2 dLaw_law_302 dLaw_law_303 dLaw_law_304 dLaw_law_305 dLaw_law_306 (by decide) (by omega) hL ?_
  refine la_callT [(xs (i + 1)), (xs (i + 2))] cg_Law_35 (c_T_miss N V K J B hM (xs (i + 1)) (xs (i + 2))) dLaw_law_307 rfl rfl (by decide) rfl (Nat.le_of_ble_eq_true rfl) (fun J1 B1 hM1 => ?_)
  refine la_icmpeq (tgt := 1086) dLaw_law_310 (by decide) ?_
  exact kk _ _ _ I1 A1 J1 B1 hI1 hM1 (ps_miss hP)

set_option maxHeartbeats 4000000 in
set_option maxRecDepth 100000 in
theorem law_c5 {L : Nat} {xs : Nat → Int32} {i : Nat} (hL : L ≤ 2048) (hi : i + 4 ≤ L) (N : Nat → Nat) (V : Nat → Nat → Int32) (K : Nat → Int32) (I : Nat → Int32) (A : Nat → Nat → Int32) (J : Nat → Int32) (B : Nat → Nat → Int32) (hI : CInv N V K I A) (hM : TInv N V K J B) (hP : PInv N V K) (kk : ∀ (N : Nat → Nat) (V : Nat → Nat → Int32) (K : Nat → Int32) (I : Nat → Int32) (A : Nat → Nat → Int32) (J : Nat → Int32) (B : Nat → Nat → Int32), CInv N V K I A → TInv N V K J B → PInv N V K → LA L xs i 1086 [] (hC I A) (hT J B)) : LA L xs i 315 [] (hC I A) (hT J B) := by
  refine la_x dLaw_law_315 ?_
  refine la_arg 1 dLaw_law_316 dLaw_law_317 dLaw_law_318 dLaw_law_319 dLaw_law_320 (by decide) (by omega) hL ?_
  refine la_callC [(xs (i + 1))] cg_Law_36 (c_E_part N V K I A hI (xs (i + 1))) dLaw_law_321 rfl rfl (by decide) rfl (Nat.le_of_ble_eq_true rfl) (fun I1 A1 hI1 => ?_)
  refine la_m dLaw_law_324 ?_
  refine la_arg 1 dLaw_law_325 dLaw_law_326 dLaw_law_327 dLaw_law_328 dLaw_law_329 (by decide) (by omega) hL ?_
  refine la_callT [(xs (i + 1))] cg_Law_39 (c_T_part N V K J B hM (xs (i + 1))) dLaw_law_330 rfl rfl (by decide) rfl (Nat.le_of_ble_eq_true rfl) (fun J1 B1 hM1 => ?_)
  refine la_icmpeq (tgt := 1086) dLaw_law_333 (by decide) ?_
  exact kk _ _ _ I1 A1 J1 B1 hI1 hM1 (ps_part hP)

set_option maxHeartbeats 4000000 in
set_option maxRecDepth 100000 in
theorem law_c6 {L : Nat} {xs : Nat → Int32} {i : Nat} (hL : L ≤ 2048) (hi : i + 4 ≤ L) (N : Nat → Nat) (V : Nat → Nat → Int32) (K : Nat → Int32) (I : Nat → Int32) (A : Nat → Nat → Int32) (J : Nat → Int32) (B : Nat → Nat → Int32) (hI : CInv N V K I A) (hM : TInv N V K J B) (hP : PInv N V K) (kk : ∀ (N : Nat → Nat) (V : Nat → Nat → Int32) (K : Nat → Int32) (I : Nat → Int32) (A : Nat → Nat → Int32) (J : Nat → Int32) (B : Nat → Nat → Int32), CInv N V K I A → TInv N V K J B → PInv N V K → LA L xs i 1086 [] (hC I A) (hT J B)) : LA L xs i 338 [] (hC I A) (hT J B) := by
  refine la_x dLaw_law_338 ?_
  refine la_arg 1 dLaw_law_339 dLaw_law_340 dLaw_law_341 dLaw_law_342 dLaw_law_343 (by decide) (by omega) hL ?_
  refine la_arg 2 dLaw_law_344 dLaw_law_345 dLaw_law_346 dLaw_law_347 dLaw_law_348 (by decide) (by omega) hL ?_
  refine la_callC [(xs (i + 1)), (xs (i + 2))] cg_Law_40 (c_E_at N V K I A hI (xs (i + 1)) (xs (i + 2))) dLaw_law_349 rfl rfl (by decide) rfl (Nat.le_of_ble_eq_true rfl) (fun I1 A1 hI1 => ?_)
  refine la_m dLaw_law_352 ?_
  refine la_arg 1 dLaw_law_353 dLaw_law_354 dLaw_law_355 dLaw_law_356 dLaw_law_357 (by decide) (by omega) hL ?_
  refine la_arg 2 dLaw_law_358 dLaw_law_359 dLaw_law_360 dLaw_law_361 dLaw_law_362 (by decide) (by omega) hL ?_
  refine la_callT [(xs (i + 1)), (xs (i + 2))] cg_Law_43 (c_T_at N V K J B hM (xs (i + 1)) (xs (i + 2))) dLaw_law_363 rfl rfl (by decide) rfl (Nat.le_of_ble_eq_true rfl) (fun J1 B1 hM1 => ?_)
  refine la_icmpeq (tgt := 1086) dLaw_law_366 (by decide) ?_
  exact kk _ _ _ I1 A1 J1 B1 hI1 hM1 (ps_at hP)

set_option maxHeartbeats 4000000 in
set_option maxRecDepth 100000 in
theorem law_c7 {L : Nat} {xs : Nat → Int32} {i : Nat} (hL : L ≤ 2048) (hi : i + 4 ≤ L) (N : Nat → Nat) (V : Nat → Nat → Int32) (K : Nat → Int32) (I : Nat → Int32) (A : Nat → Nat → Int32) (J : Nat → Int32) (B : Nat → Nat → Int32) (hI : CInv N V K I A) (hM : TInv N V K J B) (hP : PInv N V K) (kk : ∀ (N : Nat → Nat) (V : Nat → Nat → Int32) (K : Nat → Int32) (I : Nat → Int32) (A : Nat → Nat → Int32) (J : Nat → Int32) (B : Nat → Nat → Int32), CInv N V K I A → TInv N V K J B → PInv N V K → LA L xs i 1086 [] (hC I A) (hT J B)) : LA L xs i 371 [] (hC I A) (hT J B) := by
  refine la_x dLaw_law_371 ?_
  refine la_arg 1 dLaw_law_372 dLaw_law_373 dLaw_law_374 dLaw_law_375 dLaw_law_376 (by decide) (by omega) hL ?_
  refine la_callC [(xs (i + 1))] cg_Law_44 (c_E_spans N V K I A hI hP (xs (i + 1))) dLaw_law_377 rfl rfl (by decide) rfl (Nat.le_of_ble_eq_true rfl) (fun I1 A1 hI1 => ?_)
  refine la_m dLaw_law_380 ?_
  refine la_arg 1 dLaw_law_381 dLaw_law_382 dLaw_law_383 dLaw_law_384 dLaw_law_385 (by decide) (by omega) hL ?_
  refine la_callT [(xs (i + 1))] cg_Law_47 (c_T_spans N V K J B hM hP (xs (i + 1))) dLaw_law_386 rfl rfl (by decide) rfl (Nat.le_of_ble_eq_true rfl) (fun J1 B1 hM1 => ?_)
  refine la_icmpeq (tgt := 1086) dLaw_law_389 (by decide) ?_
  exact kk _ _ _ I1 A1 J1 B1 hI1 hM1 (ps_spans hP)

set_option maxHeartbeats 4000000 in
set_option maxRecDepth 100000 in
theorem law_c8 {L : Nat} {xs : Nat → Int32} {i : Nat} (hL : L ≤ 2048) (hi : i + 4 ≤ L) (N : Nat → Nat) (V : Nat → Nat → Int32) (K : Nat → Int32) (I : Nat → Int32) (A : Nat → Nat → Int32) (J : Nat → Int32) (B : Nat → Nat → Int32) (hI : CInv N V K I A) (hM : TInv N V K J B) (hP : PInv N V K) (kk : ∀ (N : Nat → Nat) (V : Nat → Nat → Int32) (K : Nat → Int32) (I : Nat → Int32) (A : Nat → Nat → Int32) (J : Nat → Int32) (B : Nat → Nat → Int32), CInv N V K I A → TInv N V K J B → PInv N V K → LA L xs i 1086 [] (hC I A) (hT J B)) : LA L xs i 394 [] (hC I A) (hT J B) := by
  refine la_x dLaw_law_394 ?_
  refine la_arg 1 dLaw_law_395 dLaw_law_396 dLaw_law_397 dLaw_law_398 dLaw_law_399 (by decide) (by omega) hL ?_
  refine la_callC [(xs (i + 1))] cg_Law_48 (c_E_cost N V K I A hI hP (xs (i + 1))) dLaw_law_400 rfl rfl (by decide) rfl (Nat.le_of_ble_eq_true rfl) (fun I1 A1 hI1 => ?_)
  refine la_m dLaw_law_403 ?_
  refine la_arg 1 dLaw_law_404 dLaw_law_405 dLaw_law_406 dLaw_law_407 dLaw_law_408 (by decide) (by omega) hL ?_
  refine la_callT [(xs (i + 1))] cg_Law_51 (c_T_cost N V K J B hM hP (xs (i + 1))) dLaw_law_409 rfl rfl (by decide) rfl (Nat.le_of_ble_eq_true rfl) (fun J1 B1 hM1 => ?_)
  refine la_icmpeq (tgt := 1086) dLaw_law_412 (by decide) ?_
  exact kk _ _ _ I1 A1 J1 B1 hI1 hM1 (ps_cost hP)

set_option maxHeartbeats 4000000 in
set_option maxRecDepth 100000 in
theorem law_c9 {L : Nat} {xs : Nat → Int32} {i : Nat} (hL : L ≤ 2048) (hi : i + 4 ≤ L) (N : Nat → Nat) (V : Nat → Nat → Int32) (K : Nat → Int32) (I : Nat → Int32) (A : Nat → Nat → Int32) (J : Nat → Int32) (B : Nat → Nat → Int32) (hI : CInv N V K I A) (hM : TInv N V K J B) (hP : PInv N V K) (kk : ∀ (N : Nat → Nat) (V : Nat → Nat → Int32) (K : Nat → Int32) (I : Nat → Int32) (A : Nat → Nat → Int32) (J : Nat → Int32) (B : Nat → Nat → Int32), CInv N V K I A → TInv N V K J B → PInv N V K → LA L xs i 1086 [] (hC I A) (hT J B)) : LA L xs i 417 [] (hC I A) (hT J B) := by
  refine la_x dLaw_law_417 ?_
  refine la_arg 1 dLaw_law_418 dLaw_law_419 dLaw_law_420 dLaw_law_421 dLaw_law_422 (by decide) (by omega) hL ?_
  refine la_arg 2 dLaw_law_423 dLaw_law_424 dLaw_law_425 dLaw_law_426 dLaw_law_427 (by decide) (by omega) hL ?_
  refine la_arg 3 dLaw_law_428 dLaw_law_429 dLaw_law_430 dLaw_law_431 dLaw_law_432 (by decide) (by omega) hL ?_
  refine la_callC [(xs (i + 1)), (xs (i + 2)), (xs (i + 3))] cg_Law_52 (c_E_span N V K I A hI hP (xs (i + 1)) (xs (i + 2)) (xs (i + 3))) dLaw_law_433 rfl rfl (by decide) rfl (Nat.le_of_ble_eq_true rfl) (fun I1 A1 hI1 => ?_)
  refine la_m dLaw_law_436 ?_
  refine la_arg 1 dLaw_law_437 dLaw_law_438 dLaw_law_439 dLaw_law_440 dLaw_law_441 (by decide) (by omega) hL ?_
  refine la_arg 2 dLaw_law_442 dLaw_law_443 dLaw_law_444 dLaw_law_445 dLaw_law_446 (by decide) (by omega) hL ?_
  refine la_arg 3 dLaw_law_447 dLaw_law_448 dLaw_law_449 dLaw_law_450 dLaw_law_451 (by decide) (by omega) hL ?_
  refine la_callT [(xs (i + 1)), (xs (i + 2)), (xs (i + 3))] cg_Law_56 (c_T_span N V K J B hM hP (xs (i + 1)) (xs (i + 2)) (xs (i + 3))) dLaw_law_452 rfl rfl (by decide) rfl (Nat.le_of_ble_eq_true rfl) (fun J1 B1 hM1 => ?_)
  refine la_icmpeq (tgt := 1086) dLaw_law_455 (by decide) ?_
  exact kk _ _ _ I1 A1 J1 B1 hI1 hM1 (ps_span hP)

set_option maxHeartbeats 4000000 in
set_option maxRecDepth 100000 in
theorem law_c10 {L : Nat} {xs : Nat → Int32} {i : Nat} (hL : L ≤ 2048) (hi : i + 4 ≤ L) (N : Nat → Nat) (V : Nat → Nat → Int32) (K : Nat → Int32) (I : Nat → Int32) (A : Nat → Nat → Int32) (J : Nat → Int32) (B : Nat → Nat → Int32) (hI : CInv N V K I A) (hM : TInv N V K J B) (hP : PInv N V K) (kk : ∀ (N : Nat → Nat) (V : Nat → Nat → Int32) (K : Nat → Int32) (I : Nat → Int32) (A : Nat → Nat → Int32) (J : Nat → Int32) (B : Nat → Nat → Int32), CInv N V K I A → TInv N V K J B → PInv N V K → LA L xs i 1086 [] (hC I A) (hT J B)) : LA L xs i 460 [] (hC I A) (hT J B) := by
  refine la_x dLaw_law_460 ?_
  refine la_arg 1 dLaw_law_461 dLaw_law_462 dLaw_law_463 dLaw_law_464 dLaw_law_465 (by decide) (by omega) hL ?_
  refine la_arg 2 dLaw_law_466 dLaw_law_467 dLaw_law_468 dLaw_law_469 dLaw_law_470 (by decide) (by omega) hL ?_
  refine la_callC [(xs (i + 1)), (xs (i + 2))] cg_Law_57 (c_E_kind N V K I A hI hP (xs (i + 1)) (xs (i + 2))) dLaw_law_471 rfl rfl (by decide) rfl (Nat.le_of_ble_eq_true rfl) (fun I1 A1 hI1 => ?_)
  refine la_m dLaw_law_474 ?_
  refine la_arg 1 dLaw_law_475 dLaw_law_476 dLaw_law_477 dLaw_law_478 dLaw_law_479 (by decide) (by omega) hL ?_
  refine la_arg 2 dLaw_law_480 dLaw_law_481 dLaw_law_482 dLaw_law_483 dLaw_law_484 (by decide) (by omega) hL ?_
  refine la_callT [(xs (i + 1)), (xs (i + 2))] cg_Law_60 (c_T_kind N V K J B hM hP (xs (i + 1)) (xs (i + 2))) dLaw_law_485 rfl rfl (by decide) rfl (Nat.le_of_ble_eq_true rfl) (fun J1 B1 hM1 => ?_)
  refine la_icmpeq (tgt := 1086) dLaw_law_488 (by decide) ?_
  exact kk _ _ _ I1 A1 J1 B1 hI1 hM1 (ps_kind hP)

set_option maxHeartbeats 4000000 in
set_option maxRecDepth 100000 in
theorem law_c11 {L : Nat} {xs : Nat → Int32} {i : Nat} (hL : L ≤ 2048) (hi : i + 4 ≤ L) (N : Nat → Nat) (V : Nat → Nat → Int32) (K : Nat → Int32) (I : Nat → Int32) (A : Nat → Nat → Int32) (J : Nat → Int32) (B : Nat → Nat → Int32) (hI : CInv N V K I A) (hM : TInv N V K J B) (hP : PInv N V K) (kk : ∀ (N : Nat → Nat) (V : Nat → Nat → Int32) (K : Nat → Int32) (I : Nat → Int32) (A : Nat → Nat → Int32) (J : Nat → Int32) (B : Nat → Nat → Int32), CInv N V K I A → TInv N V K J B → PInv N V K → LA L xs i 1086 [] (hC I A) (hT J B)) : LA L xs i 493 [] (hC I A) (hT J B) := by
  refine la_x dLaw_law_493 ?_
  refine la_arg 1 dLaw_law_494 dLaw_law_495 dLaw_law_496 dLaw_law_497 dLaw_law_498 (by decide) (by omega) hL ?_
  refine la_callC [(xs (i + 1))] cg_Law_61 (c_E_turnsOf N V K I A hI hP (xs (i + 1))) dLaw_law_499 rfl rfl (by decide) rfl (Nat.le_of_ble_eq_true rfl) (fun I1 A1 hI1 => ?_)
  refine la_m dLaw_law_502 ?_
  refine la_arg 1 dLaw_law_503 dLaw_law_504 dLaw_law_505 dLaw_law_506 dLaw_law_507 (by decide) (by omega) hL ?_
  refine la_callT [(xs (i + 1))] cg_Law_64 (c_T_turnsOf N V K J B hM hP (xs (i + 1))) dLaw_law_508 rfl rfl (by decide) rfl (Nat.le_of_ble_eq_true rfl) (fun J1 B1 hM1 => ?_)
  refine la_icmpeq (tgt := 1086) dLaw_law_511 (by decide) ?_
  exact kk _ _ _ I1 A1 J1 B1 hI1 hM1 (ps_turnsOf hP)

set_option maxHeartbeats 4000000 in
set_option maxRecDepth 100000 in
theorem law_c12 {L : Nat} {xs : Nat → Int32} {i : Nat} (hL : L ≤ 2048) (hi : i + 4 ≤ L) (N : Nat → Nat) (V : Nat → Nat → Int32) (K : Nat → Int32) (I : Nat → Int32) (A : Nat → Nat → Int32) (J : Nat → Int32) (B : Nat → Nat → Int32) (hI : CInv N V K I A) (hM : TInv N V K J B) (hP : PInv N V K) (kk : ∀ (N : Nat → Nat) (V : Nat → Nat → Int32) (K : Nat → Int32) (I : Nat → Int32) (A : Nat → Nat → Int32) (J : Nat → Int32) (B : Nat → Nat → Int32), CInv N V K I A → TInv N V K J B → PInv N V K → LA L xs i 1086 [] (hC I A) (hT J B)) : LA L xs i 516 [] (hC I A) (hT J B) := by
  refine la_x dLaw_law_516 ?_
  refine la_arg 1 dLaw_law_517 dLaw_law_518 dLaw_law_519 dLaw_law_520 dLaw_law_521 (by decide) (by omega) hL ?_
  refine la_arg 2 dLaw_law_522 dLaw_law_523 dLaw_law_524 dLaw_law_525 dLaw_law_526 (by decide) (by omega) hL ?_
  refine la_callC [(xs (i + 1)), (xs (i + 2))] cg_Law_65 (c_E_turn N V K I A hI hP (xs (i + 1)) (xs (i + 2))) dLaw_law_527 rfl rfl (by decide) rfl (Nat.le_of_ble_eq_true rfl) (fun I1 A1 hI1 => ?_)
  refine la_m dLaw_law_530 ?_
  refine la_arg 1 dLaw_law_531 dLaw_law_532 dLaw_law_533 dLaw_law_534 dLaw_law_535 (by decide) (by omega) hL ?_
  refine la_arg 2 dLaw_law_536 dLaw_law_537 dLaw_law_538 dLaw_law_539 dLaw_law_540 (by decide) (by omega) hL ?_
  refine la_callT [(xs (i + 1)), (xs (i + 2))] cg_Law_68 (c_T_turn N V K J B hM hP (xs (i + 1)) (xs (i + 2))) dLaw_law_541 rfl rfl (by decide) rfl (Nat.le_of_ble_eq_true rfl) (fun J1 B1 hM1 => ?_)
  refine la_icmpeq (tgt := 1086) dLaw_law_544 (by decide) ?_
  exact kk _ _ _ I1 A1 J1 B1 hI1 hM1 (ps_turn hP)

set_option maxHeartbeats 4000000 in
set_option maxRecDepth 100000 in
theorem law_c13 {L : Nat} {xs : Nat → Int32} {i : Nat} (hL : L ≤ 2048) (hi : i + 4 ≤ L) (N : Nat → Nat) (V : Nat → Nat → Int32) (K : Nat → Int32) (I : Nat → Int32) (A : Nat → Nat → Int32) (J : Nat → Int32) (B : Nat → Nat → Int32) (hI : CInv N V K I A) (hM : TInv N V K J B) (hP : PInv N V K) (kk : ∀ (N : Nat → Nat) (V : Nat → Nat → Int32) (K : Nat → Int32) (I : Nat → Int32) (A : Nat → Nat → Int32) (J : Nat → Int32) (B : Nat → Nat → Int32), CInv N V K I A → TInv N V K J B → PInv N V K → LA L xs i 1086 [] (hC I A) (hT J B)) : LA L xs i 549 [] (hC I A) (hT J B) := by
  refine la_x dLaw_law_549 ?_
  refine la_arg 1 dLaw_law_550 dLaw_law_551 dLaw_law_552 dLaw_law_553 dLaw_law_554 (by decide) (by omega) hL ?_
  refine la_arg 2 dLaw_law_555 dLaw_law_556 dLaw_law_557 dLaw_law_558 dLaw_law_559 (by decide) (by omega) hL ?_
  refine la_arg 3 dLaw_law_560 dLaw_law_561 dLaw_law_562 dLaw_law_563 dLaw_law_564 (by decide) (by omega) hL ?_
  refine la_callC [(xs (i + 1)), (xs (i + 2)), (xs (i + 3))] cg_Law_69 (c_E_sure N V K I A hI hP (xs (i + 1)) (xs (i + 2)) (xs (i + 3))) dLaw_law_565 rfl rfl (by decide) rfl (Nat.le_of_ble_eq_true rfl) (fun I1 A1 hI1 => ?_)
  refine la_m dLaw_law_568 ?_
  refine la_arg 1 dLaw_law_569 dLaw_law_570 dLaw_law_571 dLaw_law_572 dLaw_law_573 (by decide) (by omega) hL ?_
  refine la_arg 2 dLaw_law_574 dLaw_law_575 dLaw_law_576 dLaw_law_577 dLaw_law_578 (by decide) (by omega) hL ?_
  refine la_arg 3 dLaw_law_579 dLaw_law_580 dLaw_law_581 dLaw_law_582 dLaw_law_583 (by decide) (by omega) hL ?_
  refine la_callT [(xs (i + 1)), (xs (i + 2)), (xs (i + 3))] cg_Law_72 (c_T_sureP N V K J B hM hP (xs (i + 1)) (xs (i + 2)) (xs (i + 3))) dLaw_law_584 rfl rfl (by decide) rfl (Nat.le_of_ble_eq_true rfl) (fun J1 B1 hM1 => ?_)
  refine la_icmpeq (tgt := 1086) dLaw_law_587 (by decide) ?_
  exact kk _ _ _ I1 A1 J1 B1 hI1 hM1 (ps_sure hP)

set_option maxHeartbeats 4000000 in
set_option maxRecDepth 100000 in
theorem law_c14 {L : Nat} {xs : Nat → Int32} {i : Nat} (hL : L ≤ 2048) (hi : i + 4 ≤ L) (N : Nat → Nat) (V : Nat → Nat → Int32) (K : Nat → Int32) (I : Nat → Int32) (A : Nat → Nat → Int32) (J : Nat → Int32) (B : Nat → Nat → Int32) (hI : CInv N V K I A) (hM : TInv N V K J B) (hP : PInv N V K) (kk : ∀ (N : Nat → Nat) (V : Nat → Nat → Int32) (K : Nat → Int32) (I : Nat → Int32) (A : Nat → Nat → Int32) (J : Nat → Int32) (B : Nat → Nat → Int32), CInv N V K I A → TInv N V K J B → PInv N V K → LA L xs i 1086 [] (hC I A) (hT J B)) : LA L xs i 592 [] (hC I A) (hT J B) := by
  refine la_x dLaw_law_592 ?_
  refine la_arg 1 dLaw_law_593 dLaw_law_594 dLaw_law_595 dLaw_law_596 dLaw_law_597 (by decide) (by omega) hL ?_
  refine la_arg 2 dLaw_law_598 dLaw_law_599 dLaw_law_600 dLaw_law_601 dLaw_law_602 (by decide) (by omega) hL ?_
  refine la_callC [(xs (i + 1)), (xs (i + 2))] cg_Law_73 (c_E_crossings N V K I A hI hP (xs (i + 1)) (xs (i + 2))) dLaw_law_603 rfl rfl (by decide) rfl (Nat.le_of_ble_eq_true rfl) (fun I1 A1 hI1 => ?_)
  refine la_m dLaw_law_606 ?_
  refine la_arg 1 dLaw_law_607 dLaw_law_608 dLaw_law_609 dLaw_law_610 dLaw_law_611 (by decide) (by omega) hL ?_
  refine la_arg 2 dLaw_law_612 dLaw_law_613 dLaw_law_614 dLaw_law_615 dLaw_law_616 (by decide) (by omega) hL ?_
  refine la_callT [(xs (i + 1)), (xs (i + 2))] cg_Law_76 (c_T_crossings N V K J B hM hP (xs (i + 1)) (xs (i + 2))) dLaw_law_617 rfl rfl (by decide) rfl (Nat.le_of_ble_eq_true rfl) (fun J1 B1 hM1 => ?_)
  refine la_icmpeq (tgt := 1086) dLaw_law_620 (by decide) ?_
  exact kk _ _ _ I1 A1 J1 B1 hI1 hM1 (ps_crossings hP)

set_option maxHeartbeats 4000000 in
set_option maxRecDepth 100000 in
theorem law_c15 {L : Nat} {xs : Nat → Int32} {i : Nat} (hL : L ≤ 2048) (hi : i + 4 ≤ L) (N : Nat → Nat) (V : Nat → Nat → Int32) (K : Nat → Int32) (I : Nat → Int32) (A : Nat → Nat → Int32) (J : Nat → Int32) (B : Nat → Nat → Int32) (hI : CInv N V K I A) (hM : TInv N V K J B) (hP : PInv N V K) (kk : ∀ (N : Nat → Nat) (V : Nat → Nat → Int32) (K : Nat → Int32) (I : Nat → Int32) (A : Nat → Nat → Int32) (J : Nat → Int32) (B : Nat → Nat → Int32), CInv N V K I A → TInv N V K J B → PInv N V K → LA L xs i 1086 [] (hC I A) (hT J B)) : LA L xs i 625 [] (hC I A) (hT J B) := by
  refine la_x dLaw_law_625 ?_
  refine la_arg 1 dLaw_law_626 dLaw_law_627 dLaw_law_628 dLaw_law_629 dLaw_law_630 (by decide) (by omega) hL ?_
  refine la_arg 2 dLaw_law_631 dLaw_law_632 dLaw_law_633 dLaw_law_634 dLaw_law_635 (by decide) (by omega) hL ?_
  refine la_arg 3 dLaw_law_636 dLaw_law_637 dLaw_law_638 dLaw_law_639 dLaw_law_640 (by decide) (by omega) hL ?_
  refine la_callC [(xs (i + 1)), (xs (i + 2)), (xs (i + 3))] cg_Law_77 (c_E_crossing N V K I A hI hP (xs (i + 1)) (xs (i + 2)) (xs (i + 3))) dLaw_law_641 rfl rfl (by decide) rfl (Nat.le_of_ble_eq_true rfl) (fun I1 A1 hI1 => ?_)
  refine la_m dLaw_law_644 ?_
  refine la_arg 1 dLaw_law_645 dLaw_law_646 dLaw_law_647 dLaw_law_648 dLaw_law_649 (by decide) (by omega) hL ?_
  refine la_arg 2 dLaw_law_650 dLaw_law_651 dLaw_law_652 dLaw_law_653 dLaw_law_654 (by decide) (by omega) hL ?_
  refine la_arg 3 dLaw_law_655 dLaw_law_656 dLaw_law_657 dLaw_law_658 dLaw_law_659 (by decide) (by omega) hL ?_
  refine la_callT [(xs (i + 1)), (xs (i + 2)), (xs (i + 3))] cg_Law_80 (c_T_crossing N V K J B hM hP (xs (i + 1)) (xs (i + 2)) (xs (i + 3))) dLaw_law_660 rfl rfl (by decide) rfl (Nat.le_of_ble_eq_true rfl) (fun J1 B1 hM1 => ?_)
  refine la_icmpeq (tgt := 1086) dLaw_law_663 (by decide) ?_
  exact kk _ _ _ I1 A1 J1 B1 hI1 hM1 (ps_crossing hP)

set_option maxHeartbeats 4000000 in
set_option maxRecDepth 100000 in
theorem law_c16 {L : Nat} {xs : Nat → Int32} {i : Nat} (hL : L ≤ 2048) (hi : i + 4 ≤ L) (N : Nat → Nat) (V : Nat → Nat → Int32) (K : Nat → Int32) (I : Nat → Int32) (A : Nat → Nat → Int32) (J : Nat → Int32) (B : Nat → Nat → Int32) (hI : CInv N V K I A) (hM : TInv N V K J B) (hP : PInv N V K) (kk : ∀ (N : Nat → Nat) (V : Nat → Nat → Int32) (K : Nat → Int32) (I : Nat → Int32) (A : Nat → Nat → Int32) (J : Nat → Int32) (B : Nat → Nat → Int32), CInv N V K I A → TInv N V K J B → PInv N V K → LA L xs i 1086 [] (hC I A) (hT J B)) : LA L xs i 668 [] (hC I A) (hT J B) := by
  refine la_x dLaw_law_668 ?_
  refine la_arg 1 dLaw_law_669 dLaw_law_670 dLaw_law_671 dLaw_law_672 dLaw_law_673 (by decide) (by omega) hL ?_
  refine la_arg 2 dLaw_law_674 dLaw_law_675 dLaw_law_676 dLaw_law_677 dLaw_law_678 (by decide) (by omega) hL ?_
  refine la_callC [(xs (i + 1)), (xs (i + 2))] cg_Law_81 (c_E_scale N V K I A hI hP (xs (i + 1)) (xs (i + 2))) dLaw_law_679 rfl rfl (by decide) rfl (Nat.le_of_ble_eq_true rfl) (fun I1 A1 hI1 => ?_)
  refine la_m dLaw_law_682 ?_
  refine la_arg 1 dLaw_law_683 dLaw_law_684 dLaw_law_685 dLaw_law_686 dLaw_law_687 (by decide) (by omega) hL ?_
  refine la_arg 2 dLaw_law_688 dLaw_law_689 dLaw_law_690 dLaw_law_691 dLaw_law_692 (by decide) (by omega) hL ?_
  refine la_callT [(xs (i + 1)), (xs (i + 2))] cg_Law_84 (c_T_scale N V K J B hM hP (xs (i + 1)) (xs (i + 2))) dLaw_law_693 rfl rfl (by decide) rfl (Nat.le_of_ble_eq_true rfl) (fun J1 B1 hM1 => ?_)
  refine la_icmpeq (tgt := 1086) dLaw_law_696 (by decide) ?_
  exact kk _ _ _ I1 A1 J1 B1 hI1 hM1 (ps_scale hP)

set_option maxHeartbeats 4000000 in
set_option maxRecDepth 100000 in
theorem law_c17 {L : Nat} {xs : Nat → Int32} {i : Nat} (hL : L ≤ 2048) (hi : i + 4 ≤ L) (N : Nat → Nat) (V : Nat → Nat → Int32) (K : Nat → Int32) (I : Nat → Int32) (A : Nat → Nat → Int32) (J : Nat → Int32) (B : Nat → Nat → Int32) (hI : CInv N V K I A) (hM : TInv N V K J B) (hP : PInv N V K) (kk : ∀ (N : Nat → Nat) (V : Nat → Nat → Int32) (K : Nat → Int32) (I : Nat → Int32) (A : Nat → Nat → Int32) (J : Nat → Int32) (B : Nat → Nat → Int32), CInv N V K I A → TInv N V K J B → PInv N V K → LA L xs i 1086 [] (hC I A) (hT J B)) : LA L xs i 701 [] (hC I A) (hT J B) := by
  refine la_x dLaw_law_701 ?_
  refine la_arg 1 dLaw_law_702 dLaw_law_703 dLaw_law_704 dLaw_law_705 dLaw_law_706 (by decide) (by omega) hL ?_
  refine la_arg 2 dLaw_law_707 dLaw_law_708 dLaw_law_709 dLaw_law_710 dLaw_law_711 (by decide) (by omega) hL ?_
  refine la_callC [(xs (i + 1)), (xs (i + 2))] cg_Law_85 (c_E_height N V K I A hI hP (xs (i + 1)) (xs (i + 2))) dLaw_law_712 rfl rfl (by decide) rfl (Nat.le_of_ble_eq_true rfl) (fun I1 A1 hI1 => ?_)
  refine la_m dLaw_law_715 ?_
  refine la_arg 1 dLaw_law_716 dLaw_law_717 dLaw_law_718 dLaw_law_719 dLaw_law_720 (by decide) (by omega) hL ?_
  refine la_arg 2 dLaw_law_721 dLaw_law_722 dLaw_law_723 dLaw_law_724 dLaw_law_725 (by decide) (by omega) hL ?_
  refine la_callT [(xs (i + 1)), (xs (i + 2))] cg_Law_88 (c_T_heightR N V K J B hM hP (xs (i + 1)) (xs (i + 2))) dLaw_law_726 rfl rfl (by decide) rfl (Nat.le_of_ble_eq_true rfl) (fun J1 B1 hM1 => ?_)
  refine la_icmpeq (tgt := 1086) dLaw_law_729 (by decide) ?_
  exact kk _ _ _ I1 A1 J1 B1 hI1 hM1 (ps_height hP)

set_option maxHeartbeats 4000000 in
set_option maxRecDepth 100000 in
theorem law_c18 {L : Nat} {xs : Nat → Int32} {i : Nat} (hL : L ≤ 2048) (hi : i + 4 ≤ L) (N : Nat → Nat) (V : Nat → Nat → Int32) (K : Nat → Int32) (I : Nat → Int32) (A : Nat → Nat → Int32) (J : Nat → Int32) (B : Nat → Nat → Int32) (hI : CInv N V K I A) (hM : TInv N V K J B) (hP : PInv N V K) (kk : ∀ (N : Nat → Nat) (V : Nat → Nat → Int32) (K : Nat → Int32) (I : Nat → Int32) (A : Nat → Nat → Int32) (J : Nat → Int32) (B : Nat → Nat → Int32), CInv N V K I A → TInv N V K J B → PInv N V K → LA L xs i 1086 [] (hC I A) (hT J B)) : LA L xs i 734 [] (hC I A) (hT J B) := by
  refine la_x dLaw_law_734 ?_
  refine la_arg 1 dLaw_law_735 dLaw_law_736 dLaw_law_737 dLaw_law_738 dLaw_law_739 (by decide) (by omega) hL ?_
  refine la_arg 2 dLaw_law_740 dLaw_law_741 dLaw_law_742 dLaw_law_743 dLaw_law_744 (by decide) (by omega) hL ?_
  refine la_callC [(xs (i + 1)), (xs (i + 2))] cg_Law_89 (c_E_ear N V K I A hI (xs (i + 1)) (xs (i + 2))) dLaw_law_745 rfl rfl (by decide) rfl (Nat.le_of_ble_eq_true rfl) (fun I1 A1 hI1 => ?_)
  refine la_m dLaw_law_748 ?_
  refine la_arg 1 dLaw_law_749 dLaw_law_750 dLaw_law_751 dLaw_law_752 dLaw_law_753 (by decide) (by omega) hL ?_
  refine la_arg 2 dLaw_law_754 dLaw_law_755 dLaw_law_756 dLaw_law_757 dLaw_law_758 (by decide) (by omega) hL ?_
  refine la_callT [(xs (i + 1)), (xs (i + 2))] cg_Law_93 (c_T_ear N V K J B hM (xs (i + 1)) (xs (i + 2))) dLaw_law_759 rfl rfl (by decide) rfl (Nat.le_of_ble_eq_true rfl) (fun J1 B1 hM1 => ?_)
  refine la_icmpeq (tgt := 1086) dLaw_law_762 (by decide) ?_
  exact kk _ _ _ I1 A1 J1 B1 hI1 hM1 (ps_ear hP)

set_option maxHeartbeats 4000000 in
set_option maxRecDepth 100000 in
theorem law_c19 {L : Nat} {xs : Nat → Int32} {i : Nat} (hL : L ≤ 2048) (hi : i + 4 ≤ L) (N : Nat → Nat) (V : Nat → Nat → Int32) (K : Nat → Int32) (I : Nat → Int32) (A : Nat → Nat → Int32) (J : Nat → Int32) (B : Nat → Nat → Int32) (hI : CInv N V K I A) (hM : TInv N V K J B) (hP : PInv N V K) (kk : ∀ (N : Nat → Nat) (V : Nat → Nat → Int32) (K : Nat → Int32) (I : Nat → Int32) (A : Nat → Nat → Int32) (J : Nat → Int32) (B : Nat → Nat → Int32), CInv N V K I A → TInv N V K J B → PInv N V K → LA L xs i 1086 [] (hC I A) (hT J B)) : LA L xs i 767 [] (hC I A) (hT J B) := by
  refine la_x dLaw_law_767 ?_
  refine la_arg 1 dLaw_law_768 dLaw_law_769 dLaw_law_770 dLaw_law_771 dLaw_law_772 (by decide) (by omega) hL ?_
  refine la_arg 2 dLaw_law_773 dLaw_law_774 dLaw_law_775 dLaw_law_776 dLaw_law_777 (by decide) (by omega) hL ?_
  refine la_callC [(xs (i + 1)), (xs (i + 2))] cg_Law_94 (c_E_worth N V K I A hI (xs (i + 1)) (xs (i + 2))) dLaw_law_778 rfl rfl (by decide) rfl (Nat.le_of_ble_eq_true rfl) (fun I1 A1 hI1 => ?_)
  refine la_m dLaw_law_781 ?_
  refine la_arg 1 dLaw_law_782 dLaw_law_783 dLaw_law_784 dLaw_law_785 dLaw_law_786 (by decide) (by omega) hL ?_
  refine la_arg 2 dLaw_law_787 dLaw_law_788 dLaw_law_789 dLaw_law_790 dLaw_law_791 (by decide) (by omega) hL ?_
  refine la_callT [(xs (i + 1)), (xs (i + 2))] cg_Law_97 (c_T_worth N V K J B hM (xs (i + 1)) (xs (i + 2))) dLaw_law_792 rfl rfl (by decide) rfl (Nat.le_of_ble_eq_true rfl) (fun J1 B1 hM1 => ?_)
  refine la_icmpeq (tgt := 1086) dLaw_law_795 (by decide) ?_
  exact kk _ _ _ I1 A1 J1 B1 hI1 hM1 (ps_worth hP)

set_option maxHeartbeats 4000000 in
set_option maxRecDepth 100000 in
theorem law_c20 {L : Nat} {xs : Nat → Int32} {i : Nat} (hL : L ≤ 2048) (hi : i + 4 ≤ L) (N : Nat → Nat) (V : Nat → Nat → Int32) (K : Nat → Int32) (I : Nat → Int32) (A : Nat → Nat → Int32) (J : Nat → Int32) (B : Nat → Nat → Int32) (hI : CInv N V K I A) (hM : TInv N V K J B) (hP : PInv N V K) (kk : ∀ (N : Nat → Nat) (V : Nat → Nat → Int32) (K : Nat → Int32) (I : Nat → Int32) (A : Nat → Nat → Int32) (J : Nat → Int32) (B : Nat → Nat → Int32), CInv N V K I A → TInv N V K J B → PInv N V K → LA L xs i 1086 [] (hC I A) (hT J B)) : LA L xs i 800 [] (hC I A) (hT J B) := by
  refine la_x dLaw_law_800 ?_
  refine la_arg 1 dLaw_law_801 dLaw_law_802 dLaw_law_803 dLaw_law_804 dLaw_law_805 (by decide) (by omega) hL ?_
  refine la_callC [(xs (i + 1))] cg_Law_98 (c_E_lay N V K I A hI hP (xs (i + 1))) dLaw_law_806 rfl rfl (by decide) rfl (Nat.le_of_ble_eq_true rfl) (fun I1 A1 hI1 => ?_)
  refine la_m dLaw_law_809 ?_
  refine la_arg 1 dLaw_law_810 dLaw_law_811 dLaw_law_812 dLaw_law_813 dLaw_law_814 (by decide) (by omega) hL ?_
  refine la_callT [(xs (i + 1))] cg_Law_101 (c_T_lay N V K J B hM hP (xs (i + 1))) dLaw_law_815 rfl rfl (by decide) rfl (Nat.le_of_ble_eq_true rfl) (fun J1 B1 hM1 => ?_)
  refine la_icmpeq (tgt := 1086) dLaw_law_818 (by decide) ?_
  exact kk _ _ _ I1 A1 J1 B1 hI1 hM1 (ps_lay hP)

set_option maxHeartbeats 4000000 in
set_option maxRecDepth 100000 in
theorem law_c21 {L : Nat} {xs : Nat → Int32} {i : Nat} (hL : L ≤ 2048) (hi : i + 4 ≤ L) (N : Nat → Nat) (V : Nat → Nat → Int32) (K : Nat → Int32) (I : Nat → Int32) (A : Nat → Nat → Int32) (J : Nat → Int32) (B : Nat → Nat → Int32) (hI : CInv N V K I A) (hM : TInv N V K J B) (hP : PInv N V K) (kk : ∀ (N : Nat → Nat) (V : Nat → Nat → Int32) (K : Nat → Int32) (I : Nat → Int32) (A : Nat → Nat → Int32) (J : Nat → Int32) (B : Nat → Nat → Int32), CInv N V K I A → TInv N V K J B → PInv N V K → LA L xs i 1086 [] (hC I A) (hT J B)) : LA L xs i 823 [] (hC I A) (hT J B) := by
  refine la_x dLaw_law_823 ?_
  refine la_arg 1 dLaw_law_824 dLaw_law_825 dLaw_law_826 dLaw_law_827 dLaw_law_828 (by decide) (by omega) hL ?_
  refine la_arg 2 dLaw_law_829 dLaw_law_830 dLaw_law_831 dLaw_law_832 dLaw_law_833 (by decide) (by omega) hL ?_
  refine la_callC [(xs (i + 1)), (xs (i + 2))] cg_Law_102 (c_E_slot N V K I A hI hP (xs (i + 1)) (xs (i + 2))) dLaw_law_834 rfl rfl (by decide) rfl (Nat.le_of_ble_eq_true rfl) (fun I1 A1 hI1 => ?_)
  refine la_m dLaw_law_837 ?_
  refine la_arg 1 dLaw_law_838 dLaw_law_839 dLaw_law_840 dLaw_law_841 dLaw_law_842 (by decide) (by omega) hL ?_
  refine la_arg 2 dLaw_law_843 dLaw_law_844 dLaw_law_845 dLaw_law_846 dLaw_law_847 (by decide) (by omega) hL ?_
  refine la_callT [(xs (i + 1)), (xs (i + 2))] cg_Law_105 (c_T_slot N V K J B hM hP (xs (i + 1)) (xs (i + 2))) dLaw_law_848 rfl rfl (by decide) rfl (Nat.le_of_ble_eq_true rfl) (fun J1 B1 hM1 => ?_)
  refine la_icmpeq (tgt := 1086) dLaw_law_851 (by decide) ?_
  exact kk _ _ _ I1 A1 J1 B1 hI1 hM1 (ps_slot hP)

set_option maxHeartbeats 4000000 in
set_option maxRecDepth 100000 in
theorem law_c22 {L : Nat} {xs : Nat → Int32} {i : Nat} (hL : L ≤ 2048) (hi : i + 4 ≤ L) (N : Nat → Nat) (V : Nat → Nat → Int32) (K : Nat → Int32) (I : Nat → Int32) (A : Nat → Nat → Int32) (J : Nat → Int32) (B : Nat → Nat → Int32) (hI : CInv N V K I A) (hM : TInv N V K J B) (hP : PInv N V K) (kk : ∀ (N : Nat → Nat) (V : Nat → Nat → Int32) (K : Nat → Int32) (I : Nat → Int32) (A : Nat → Nat → Int32) (J : Nat → Int32) (B : Nat → Nat → Int32), CInv N V K I A → TInv N V K J B → PInv N V K → LA L xs i 1086 [] (hC I A) (hT J B)) : LA L xs i 856 [] (hC I A) (hT J B) := by
  refine la_x dLaw_law_856 ?_
  refine la_arg 1 dLaw_law_857 dLaw_law_858 dLaw_law_859 dLaw_law_860 dLaw_law_861 (by decide) (by omega) hL ?_
  refine la_arg 2 dLaw_law_862 dLaw_law_863 dLaw_law_864 dLaw_law_865 dLaw_law_866 (by decide) (by omega) hL ?_
  refine la_arg 3 dLaw_law_867 dLaw_law_868 dLaw_law_869 dLaw_law_870 dLaw_law_871 (by decide) (by omega) hL ?_
  refine la_callC [(xs (i + 1)), (xs (i + 2)), (xs (i + 3))] cg_Law_106 (c_E_hears N V K I A hI hP (xs (i + 1)) (xs (i + 2)) (xs (i + 3))) dLaw_law_872 rfl rfl (by decide) rfl (Nat.le_of_ble_eq_true rfl) (fun I1 A1 hI1 => ?_)
  refine la_m dLaw_law_875 ?_
  refine la_arg 1 dLaw_law_876 dLaw_law_877 dLaw_law_878 dLaw_law_879 dLaw_law_880 (by decide) (by omega) hL ?_
  refine la_arg 2 dLaw_law_881 dLaw_law_882 dLaw_law_883 dLaw_law_884 dLaw_law_885 (by decide) (by omega) hL ?_
  refine la_arg 3 dLaw_law_886 dLaw_law_887 dLaw_law_888 dLaw_law_889 dLaw_law_890 (by decide) (by omega) hL ?_
  refine la_callT [(xs (i + 1)), (xs (i + 2)), (xs (i + 3))] cg_Law_109 (c_T_hears N V K J B hM hP (xs (i + 1)) (xs (i + 2)) (xs (i + 3))) dLaw_law_891 rfl rfl (by decide) rfl (Nat.le_of_ble_eq_true rfl) (fun J1 B1 hM1 => ?_)
  refine la_icmpeq (tgt := 1086) dLaw_law_894 (by decide) ?_
  exact kk _ _ _ I1 A1 J1 B1 hI1 hM1 (ps_hears hP)

set_option maxHeartbeats 4000000 in
set_option maxRecDepth 100000 in
theorem law_c23 {L : Nat} {xs : Nat → Int32} {i : Nat} (hL : L ≤ 2048) (hi : i + 4 ≤ L) (N : Nat → Nat) (V : Nat → Nat → Int32) (K : Nat → Int32) (I : Nat → Int32) (A : Nat → Nat → Int32) (J : Nat → Int32) (B : Nat → Nat → Int32) (hI : CInv N V K I A) (hM : TInv N V K J B) (hP : PInv N V K) (kk : ∀ (N : Nat → Nat) (V : Nat → Nat → Int32) (K : Nat → Int32) (I : Nat → Int32) (A : Nat → Nat → Int32) (J : Nat → Int32) (B : Nat → Nat → Int32), CInv N V K I A → TInv N V K J B → PInv N V K → LA L xs i 1086 [] (hC I A) (hT J B)) : LA L xs i 899 [] (hC I A) (hT J B) := by
  refine la_x dLaw_law_899 ?_
  refine la_arg 1 dLaw_law_900 dLaw_law_901 dLaw_law_902 dLaw_law_903 dLaw_law_904 (by decide) (by omega) hL ?_
  refine la_arg 2 dLaw_law_905 dLaw_law_906 dLaw_law_907 dLaw_law_908 dLaw_law_909 (by decide) (by omega) hL ?_
  refine la_arg 3 dLaw_law_910 dLaw_law_911 dLaw_law_912 dLaw_law_913 dLaw_law_914 (by decide) (by omega) hL ?_
  refine la_callC [(xs (i + 1)), (xs (i + 2)), (xs (i + 3))] cg_Law_110 (c_E_whole N V K I A hI hP (xs (i + 1)) (xs (i + 2)) (xs (i + 3))) dLaw_law_915 rfl rfl (by decide) rfl (Nat.le_of_ble_eq_true rfl) (fun I1 A1 hI1 => ?_)
  refine la_m dLaw_law_918 ?_
  refine la_arg 1 dLaw_law_919 dLaw_law_920 dLaw_law_921 dLaw_law_922 dLaw_law_923 (by decide) (by omega) hL ?_
  refine la_arg 2 dLaw_law_924 dLaw_law_925 dLaw_law_926 dLaw_law_927 dLaw_law_928 (by decide) (by omega) hL ?_
  refine la_arg 3 dLaw_law_929 dLaw_law_930 dLaw_law_931 dLaw_law_932 dLaw_law_933 (by decide) (by omega) hL ?_
  refine la_callT [(xs (i + 1)), (xs (i + 2)), (xs (i + 3))] cg_Law_113 (c_T_whole N V K J B hM hP (xs (i + 1)) (xs (i + 2)) (xs (i + 3))) dLaw_law_934 rfl rfl (by decide) rfl (Nat.le_of_ble_eq_true rfl) (fun J1 B1 hM1 => ?_)
  refine la_icmpeq (tgt := 1086) dLaw_law_937 (by decide) ?_
  exact kk _ _ _ I1 A1 J1 B1 hI1 hM1 (ps_whole hP)

set_option maxHeartbeats 4000000 in
set_option maxRecDepth 100000 in
theorem law_c24 {L : Nat} {xs : Nat → Int32} {i : Nat} (hL : L ≤ 2048) (hi : i + 4 ≤ L) (N : Nat → Nat) (V : Nat → Nat → Int32) (K : Nat → Int32) (I : Nat → Int32) (A : Nat → Nat → Int32) (J : Nat → Int32) (B : Nat → Nat → Int32) (hI : CInv N V K I A) (hM : TInv N V K J B) (hP : PInv N V K) (kk : ∀ (N : Nat → Nat) (V : Nat → Nat → Int32) (K : Nat → Int32) (I : Nat → Int32) (A : Nat → Nat → Int32) (J : Nat → Int32) (B : Nat → Nat → Int32), CInv N V K I A → TInv N V K J B → PInv N V K → LA L xs i 1086 [] (hC I A) (hT J B)) : LA L xs i 942 [] (hC I A) (hT J B) := by
  refine la_x dLaw_law_942 ?_
  refine la_arg 1 dLaw_law_943 dLaw_law_944 dLaw_law_945 dLaw_law_946 dLaw_law_947 (by decide) (by omega) hL ?_
  refine la_arg 2 dLaw_law_948 dLaw_law_949 dLaw_law_950 dLaw_law_951 dLaw_law_952 (by decide) (by omega) hL ?_
  refine la_callC [(xs (i + 1)), (xs (i + 2))] cg_Law_114 (c_E_walk N V K I A hI (xs (i + 1)) (xs (i + 2))) dLaw_law_953 rfl rfl (by decide) rfl (Nat.le_of_ble_eq_true rfl) (fun I1 A1 hI1 => ?_)
  refine la_m dLaw_law_956 ?_
  refine la_arg 1 dLaw_law_957 dLaw_law_958 dLaw_law_959 dLaw_law_960 dLaw_law_961 (by decide) (by omega) hL ?_
  refine la_arg 2 dLaw_law_962 dLaw_law_963 dLaw_law_964 dLaw_law_965 dLaw_law_966 (by decide) (by omega) hL ?_
  refine la_callT [(xs (i + 1)), (xs (i + 2))] cg_Law_117 (c_T_walk N V K J B hM (xs (i + 1)) (xs (i + 2))) dLaw_law_967 rfl rfl (by decide) rfl (Nat.le_of_ble_eq_true rfl) (fun J1 B1 hM1 => ?_)
  refine la_icmpeq (tgt := 1086) dLaw_law_970 (by decide) ?_
  exact kk _ _ _ I1 A1 J1 B1 hI1 hM1 (ps_walk hP)

set_option maxHeartbeats 4000000 in
set_option maxRecDepth 100000 in
theorem law_c25 {L : Nat} {xs : Nat → Int32} {i : Nat} (hL : L ≤ 2048) (hi : i + 4 ≤ L) (N : Nat → Nat) (V : Nat → Nat → Int32) (K : Nat → Int32) (I : Nat → Int32) (A : Nat → Nat → Int32) (J : Nat → Int32) (B : Nat → Nat → Int32) (hI : CInv N V K I A) (hM : TInv N V K J B) (hP : PInv N V K) (kk : ∀ (N : Nat → Nat) (V : Nat → Nat → Int32) (K : Nat → Int32) (I : Nat → Int32) (A : Nat → Nat → Int32) (J : Nat → Int32) (B : Nat → Nat → Int32), CInv N V K I A → TInv N V K J B → PInv N V K → LA L xs i 1086 [] (hC I A) (hT J B)) : LA L xs i 975 [] (hC I A) (hT J B) := by
  refine la_x dLaw_law_975 ?_
  refine la_arg 1 dLaw_law_976 dLaw_law_977 dLaw_law_978 dLaw_law_979 dLaw_law_980 (by decide) (by omega) hL ?_
  refine la_callC [(xs (i + 1))] cg_Law_118 (c_E_where N V K I A hI (xs (i + 1))) dLaw_law_981 rfl rfl (by decide) rfl (Nat.le_of_ble_eq_true rfl) (fun I1 A1 hI1 => ?_)
  refine la_m dLaw_law_984 ?_
  refine la_arg 1 dLaw_law_985 dLaw_law_986 dLaw_law_987 dLaw_law_988 dLaw_law_989 (by decide) (by omega) hL ?_
  refine la_callT [(xs (i + 1))] cg_Law_121 (c_T_where N V K J B hM (xs (i + 1))) dLaw_law_990 rfl rfl (by decide) rfl (Nat.le_of_ble_eq_true rfl) (fun J1 B1 hM1 => ?_)
  refine la_icmpeq (tgt := 1086) dLaw_law_993 (by decide) ?_
  exact kk _ _ _ I1 A1 J1 B1 hI1 hM1 (ps_where hP)

set_option maxHeartbeats 4000000 in
set_option maxRecDepth 100000 in
theorem law_c26 {L : Nat} {xs : Nat → Int32} {i : Nat} (hL : L ≤ 2048) (hi : i + 4 ≤ L) (N : Nat → Nat) (V : Nat → Nat → Int32) (K : Nat → Int32) (I : Nat → Int32) (A : Nat → Nat → Int32) (J : Nat → Int32) (B : Nat → Nat → Int32) (hI : CInv N V K I A) (hM : TInv N V K J B) (hP : PInv N V K) (kk : ∀ (N : Nat → Nat) (V : Nat → Nat → Int32) (K : Nat → Int32) (I : Nat → Int32) (A : Nat → Nat → Int32) (J : Nat → Int32) (B : Nat → Nat → Int32), CInv N V K I A → TInv N V K J B → PInv N V K → LA L xs i 1086 [] (hC I A) (hT J B)) : LA L xs i 998 [] (hC I A) (hT J B) := by
  refine la_x dLaw_law_998 ?_
  refine la_arg 1 dLaw_law_999 dLaw_law_1000 dLaw_law_1001 dLaw_law_1002 dLaw_law_1003 (by decide) (by omega) hL ?_
  refine la_ifeq (tgt := 1011) dLaw_law_1004 (by decide) (fun c0 => ?_) (fun c0 => ?_)
  · refine la_iconst (v := 0) dLaw_law_1011 (by decide) ?_
    refine la_callC [0] cg_Law_122 (c_E_go N V K I A hI hP 0) dLaw_law_1012 rfl rfl (by decide) rfl (Nat.le_of_ble_eq_true rfl) (fun I1 A1 hI1 => ?_)
    refine la_m dLaw_law_1015 ?_
    refine la_arg 1 dLaw_law_1016 dLaw_law_1017 dLaw_law_1018 dLaw_law_1019 dLaw_law_1020 (by decide) (by omega) hL ?_
    refine la_ifeq (tgt := 1028) dLaw_law_1021 (by decide) (fun _ => ?_) (fun q => absurd c0 q)
    refine la_iconst (v := 0) dLaw_law_1028 (by decide) ?_
    refine la_callT [0] cg_Law_126 (c_T_go N V K J B hM 0) dLaw_law_1029 rfl rfl (by decide) rfl (Nat.le_of_ble_eq_true rfl) (fun J1 B1 hM1 => ?_)
    refine la_icmpeq (tgt := 1086) dLaw_law_1032 (by decide) ?_
    exact kk _ _ _ I1 A1 J1 B1 hI1 hM1 (ps_go hP)
  · refine la_iconst (v := 1) dLaw_law_1007 (by decide) ?_
    refine la_goto (tgt := 1012) dLaw_law_1008 (by decide) ?_
    refine la_callC [1] cg_Law_122 (c_E_go N V K I A hI hP 1) dLaw_law_1012 rfl rfl (by decide) rfl (Nat.le_of_ble_eq_true rfl) (fun I1 A1 hI1 => ?_)
    refine la_m dLaw_law_1015 ?_
    refine la_arg 1 dLaw_law_1016 dLaw_law_1017 dLaw_law_1018 dLaw_law_1019 dLaw_law_1020 (by decide) (by omega) hL ?_
    refine la_ifeq (tgt := 1028) dLaw_law_1021 (by decide) (fun q => absurd q c0) (fun _ => ?_)
    refine la_iconst (v := 1) dLaw_law_1024 (by decide) ?_
    refine la_goto (tgt := 1029) dLaw_law_1025 (by decide) ?_
    refine la_callT [1] cg_Law_126 (c_T_go N V K J B hM 1) dLaw_law_1029 rfl rfl (by decide) rfl (Nat.le_of_ble_eq_true rfl) (fun J1 B1 hM1 => ?_)
    refine la_icmpeq (tgt := 1086) dLaw_law_1032 (by decide) ?_
    exact kk _ _ _ I1 A1 J1 B1 hI1 hM1 (ps_go hP)

set_option maxHeartbeats 4000000 in
set_option maxRecDepth 100000 in
theorem law_c27 {L : Nat} {xs : Nat → Int32} {i : Nat} (hL : L ≤ 2048) (hi : i + 4 ≤ L) (N : Nat → Nat) (V : Nat → Nat → Int32) (K : Nat → Int32) (I : Nat → Int32) (A : Nat → Nat → Int32) (J : Nat → Int32) (B : Nat → Nat → Int32) (hI : CInv N V K I A) (hM : TInv N V K J B) (hP : PInv N V K) (kk : ∀ (N : Nat → Nat) (V : Nat → Nat → Int32) (K : Nat → Int32) (I : Nat → Int32) (A : Nat → Nat → Int32) (J : Nat → Int32) (B : Nat → Nat → Int32), CInv N V K I A → TInv N V K J B → PInv N V K → LA L xs i 1086 [] (hC I A) (hT J B)) : LA L xs i 1037 [] (hC I A) (hT J B) := by
  refine la_x dLaw_law_1037 ?_
  refine la_arg 1 dLaw_law_1038 dLaw_law_1039 dLaw_law_1040 dLaw_law_1041 dLaw_law_1042 (by decide) (by omega) hL ?_
  refine la_ifeq (tgt := 1050) dLaw_law_1043 (by decide) (fun c0 => ?_) (fun c0 => ?_)
  · refine la_iconst (v := 0) dLaw_law_1050 (by decide) ?_
    refine la_arg 2 dLaw_law_1051 dLaw_law_1052 dLaw_law_1053 dLaw_law_1054 dLaw_law_1055 (by decide) (by omega) hL ?_
    refine la_callC [0, (xs (i + 2))] cg_Law_127 (c_E_seek N V K I A hI hP 0 (xs (i + 2))) dLaw_law_1056 rfl rfl (by decide) rfl (Nat.le_of_ble_eq_true rfl) (fun I1 A1 hI1 => ?_)
    refine la_m dLaw_law_1059 ?_
    refine la_arg 1 dLaw_law_1060 dLaw_law_1061 dLaw_law_1062 dLaw_law_1063 dLaw_law_1064 (by decide) (by omega) hL ?_
    refine la_ifeq (tgt := 1072) dLaw_law_1065 (by decide) (fun _ => ?_) (fun q => absurd c0 q)
    refine la_iconst (v := 0) dLaw_law_1072 (by decide) ?_
    refine la_arg 2 dLaw_law_1073 dLaw_law_1074 dLaw_law_1075 dLaw_law_1076 dLaw_law_1077 (by decide) (by omega) hL ?_
    refine la_callT [0, (xs (i + 2))] cg_Law_131 (c_T_seek N V K J B hM hP 0 (xs (i + 2))) dLaw_law_1078 rfl rfl (by decide) rfl (Nat.le_of_ble_eq_true rfl) (fun J1 B1 hM1 => ?_)
    refine la_icmpeq (tgt := 1086) dLaw_law_1081 (by decide) ?_
    exact kk _ _ _ I1 A1 J1 B1 hI1 hM1 (ps_seek hP)
  · refine la_iconst (v := 1) dLaw_law_1046 (by decide) ?_
    refine la_goto (tgt := 1051) dLaw_law_1047 (by decide) ?_
    refine la_arg 2 dLaw_law_1051 dLaw_law_1052 dLaw_law_1053 dLaw_law_1054 dLaw_law_1055 (by decide) (by omega) hL ?_
    refine la_callC [1, (xs (i + 2))] cg_Law_127 (c_E_seek N V K I A hI hP 1 (xs (i + 2))) dLaw_law_1056 rfl rfl (by decide) rfl (Nat.le_of_ble_eq_true rfl) (fun I1 A1 hI1 => ?_)
    refine la_m dLaw_law_1059 ?_
    refine la_arg 1 dLaw_law_1060 dLaw_law_1061 dLaw_law_1062 dLaw_law_1063 dLaw_law_1064 (by decide) (by omega) hL ?_
    refine la_ifeq (tgt := 1072) dLaw_law_1065 (by decide) (fun q => absurd q c0) (fun _ => ?_)
    refine la_iconst (v := 1) dLaw_law_1068 (by decide) ?_
    refine la_goto (tgt := 1073) dLaw_law_1069 (by decide) ?_
    refine la_arg 2 dLaw_law_1073 dLaw_law_1074 dLaw_law_1075 dLaw_law_1076 dLaw_law_1077 (by decide) (by omega) hL ?_
    refine la_callT [1, (xs (i + 2))] cg_Law_131 (c_T_seek N V K J B hM hP 1 (xs (i + 2))) dLaw_law_1078 rfl rfl (by decide) rfl (Nat.le_of_ble_eq_true rfl) (fun J1 B1 hM1 => ?_)
    refine la_icmpeq (tgt := 1086) dLaw_law_1081 (by decide) ?_
    exact kk _ _ _ I1 A1 J1 B1 hI1 hM1 (ps_seek hP)
