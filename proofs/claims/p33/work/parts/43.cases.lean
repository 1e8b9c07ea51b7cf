theorem lw_le {L k : Nat} (hL : L ≤ 320) (hk : k ≤ L) (h : ¬ nI L - 5 < nI k) : k + 5 ≤ L := by
  rw [Int32.lt_iff_toInt_lt, show (5 : Int32) = nI 5 from rfl, pk_sub_toInt (by omega) (by omega), nI_toInt (by omega)] at h
  omega
set_option maxHeartbeats 4000000 in
set_option maxRecDepth 100000 in
theorem law_case_0 {p : Program} {l : Launch} {e : Env} {s : State} {m : MethodId} {args : Array Value} {below : List Frame} {meth : Method} {c : Code} {Q : State → Prop} {D : va_G} {g : Nat → ClassId} {A : Nat → Prop} {bo : Nat} {an : Nat → Nat} {ak : Nat → Nat} {bT : Nat} {aa : Nat → Nat} {hT : Nat} {hB : Nat} {ae : Nat → Nat} {ar : Nat → Nat} {bS : Nat} {bV : Nat} {th : Nat → Nat} {as : Nat → Nat} {av : Nat → Nat} {b : Nat → Nat} {sb L k : Nat} {xs : Nat → Int32} (B : Bs p s m args meth c D vwCl (TY g) A 4 cL_law RL) (hsc : sc D A s s.heap) (hX : va_X sb L xs s s.heap) (hbl : sb < s.heap.size) (hbA : ¬ A sb) (hL : L ≤ 320) (hk : k + 5 ≤ L) {t : Nat} {S : MS} {ws : va_W} (h : LW g bo an ak bT aa hT hB ae ar bS bV th as av b t t S S ws) (kk : ∀ (t : Nat) (S : MS) (ws' : va_W), LW g bo an ak bT aa hT hB ae ar bS bV th as av b t t S S ws' → Nx p l e room_1 s m args below meth c D vwCl A 4 99 2467 Q 1454 [(0, .ref sb), (1, .ref bo), (2, .ref (b 0)), (3, .int (nI k))] [] ws') : Nx p l e room_1 s m args below meth c D vwCl A 4 99 2467 Q 208 [(0, .ref sb), (1, .ref bo), (2, .ref (b 0)), (3, .int (nI k))] [] ws := by
  refine n_aload_n B dL_law_208 rfl 1 rfl ?_
  refine n_aload_n B dL_law_209 rfl 0 rfl ?_
  refine n_iload_n B dL_law_210 rfl 3 rfl ?_
  refine n_iconst B dL_law_211 ic_1 ?_
  refine n_iaddE B dL_law_212 (nI_add k 1) ?_
  refine n_sldN B hX hbl hbA (by omega) hL dL_law_213 ?_
  refine n_i2l B dL_law_214 rfl ?_
  refine n_bipush B dL_law_215 bp_32 ?_
  refine n_lshl B dL_law_217 rfl ?_
  refine n_aload_n B dL_law_218 rfl 0 rfl ?_
  refine n_iload_n B dL_law_219 rfl 3 rfl ?_
  refine n_iconst B dL_law_220 ic_2 ?_
  refine n_iaddE B dL_law_221 (nI_add k 2) ?_
  refine n_sldN B hX hbl hbA (by omega) hL dL_law_222 ?_
  refine n_i2l B dL_law_223 rfl ?_
  refine n_ldc2 B cn_L_13 dL_law_224 ?_
  refine n_land B dL_law_227 ?_
  refine n_lor B dL_law_228 ?_
  refine n_aload_n B dL_law_229 rfl 0 rfl ?_
  refine n_iload_n B dL_law_230 rfl 3 rfl ?_
  refine n_iconst B dL_law_231 ic_3 ?_
  refine n_iaddE B dL_law_232 (nI_add k 3) ?_
  refine n_sldN B hX hbl hbA (by omega) hL dL_law_233 ?_
  refine st_X8_feed B hsc h _ _ (Nat.le_of_ble_eq_true rfl) (fun r1 x4 ws2 f5 f6 h3 => ?_)
  refine n_pop B dL_law_237 rfl ?_
  refine n_aload_n B dL_law_238 rfl 2 rfl ?_
  refine n_aload_n B dL_law_239 rfl 0 rfl ?_
  refine n_iload_n B dL_law_240 rfl 3 rfl ?_
  refine n_iconst B dL_law_241 ic_1 ?_
  refine n_iaddE B dL_law_242 (nI_add k 1) ?_
  refine n_sldN B hX hbl hbA (by omega) hL dL_law_243 ?_
  refine n_i2l B dL_law_244 rfl ?_
  refine n_bipush B dL_law_245 bp_32 ?_
  refine n_lshl B dL_law_247 rfl ?_
  refine n_aload_n B dL_law_248 rfl 0 rfl ?_
  refine n_iload_n B dL_law_249 rfl 3 rfl ?_
  refine n_iconst B dL_law_250 ic_2 ?_
  refine n_iaddE B dL_law_251 (nI_add k 2) ?_
  refine n_sldN B hX hbl hbA (by omega) hL dL_law_252 ?_
  refine n_i2l B dL_law_253 rfl ?_
  refine n_ldc2 B cn_L_13 dL_law_254 ?_
  refine n_land B dL_law_257 ?_
  refine n_lor B dL_law_258 ?_
  refine n_aload_n B dL_law_259 rfl 0 rfl ?_
  refine n_iload_n B dL_law_260 rfl 3 rfl ?_
  refine n_iconst B dL_law_261 ic_3 ?_
  refine n_iaddE B dL_law_262 (nI_add k 3) ?_
  refine n_sldN B hX hbl hbA (by omega) hL dL_law_263 ?_
  refine st_X9_feed B hsc h3 _ _ (Nat.le_of_ble_eq_true rfl) (fun r7 x10 ws8 f11 f12 h9 => ?_)
  refine n_pop B dL_law_267 rfl ?_
  refine n_goto (tgt := 1454) B dL_law_268 rfl ?_
  subst f6
  subst f12
  exact kk _ _ _ h9
set_option maxHeartbeats 4000000 in
set_option maxRecDepth 100000 in
theorem law_case_1 {p : Program} {l : Launch} {e : Env} {s : State} {m : MethodId} {args : Array Value} {below : List Frame} {meth : Method} {c : Code} {Q : State → Prop} {D : va_G} {g : Nat → ClassId} {A : Nat → Prop} {bo : Nat} {an : Nat → Nat} {ak : Nat → Nat} {bT : Nat} {aa : Nat → Nat} {hT : Nat} {hB : Nat} {ae : Nat → Nat} {ar : Nat → Nat} {bS : Nat} {bV : Nat} {th : Nat → Nat} {as : Nat → Nat} {av : Nat → Nat} {b : Nat → Nat} {sb L k : Nat} {xs : Nat → Int32} (B : Bs p s m args meth c D vwCl (TY g) A 4 cL_law RL) (hsc : sc D A s s.heap) (hX : va_X sb L xs s s.heap) (hbl : sb < s.heap.size) (hbA : ¬ A sb) (hL : L ≤ 320) (hk : k + 5 ≤ L) {t : Nat} {S : MS} {ws : va_W} (h : LW g bo an ak bT aa hT hB ae ar bS bV th as av b t t S S ws) (kk : ∀ (t : Nat) (S : MS) (ws' : va_W), LW g bo an ak bT aa hT hB ae ar bS bV th as av b t t S S ws' → Nx p l e room_1 s m args below meth c D vwCl A 4 99 2467 Q 1454 [(0, .ref sb), (1, .ref bo), (2, .ref (b 0)), (3, .int (nI k))] [] ws') : Nx p l e room_1 s m args below meth c D vwCl A 4 99 2467 Q 271 [(0, .ref sb), (1, .ref bo), (2, .ref (b 0)), (3, .int (nI k))] [] ws := by
  refine n_aload_n B dL_law_271 rfl 1 rfl ?_
  refine st_X8_school B hsc h (Nat.le_of_ble_eq_true rfl) (fun r1 x4 G8 ws2 f5 f6 f7 h3 => ?_)
  refine n_pop B dL_law_275 rfl ?_
  refine n_aload_n B dL_law_276 rfl 2 rfl ?_
  refine st_X9_school B hsc h3 G8 f7 (Nat.le_of_ble_eq_true rfl) (fun r9 ws10 f12 h11 => ?_)
  refine n_pop B dL_law_280 rfl ?_
  refine n_goto (tgt := 1454) B dL_law_281 rfl ?_
  subst f6
  exact kk _ _ _ h11
set_option maxHeartbeats 4000000 in
set_option maxRecDepth 100000 in
theorem law_case_2 {p : Program} {l : Launch} {e : Env} {s : State} {m : MethodId} {args : Array Value} {below : List Frame} {meth : Method} {c : Code} {Q : State → Prop} {D : va_G} {g : Nat → ClassId} {A : Nat → Prop} {bo : Nat} {an : Nat → Nat} {ak : Nat → Nat} {bT : Nat} {aa : Nat → Nat} {hT : Nat} {hB : Nat} {ae : Nat → Nat} {ar : Nat → Nat} {bS : Nat} {bV : Nat} {th : Nat → Nat} {as : Nat → Nat} {av : Nat → Nat} {b : Nat → Nat} {sb L k : Nat} {xs : Nat → Int32} (B : Bs p s m args meth c D vwCl (TY g) A 4 cL_law RL) (hsc : sc D A s s.heap) (hX : va_X sb L xs s s.heap) (hbl : sb < s.heap.size) (hbA : ¬ A sb) (hL : L ≤ 320) (hk : k + 5 ≤ L) {t : Nat} {S : MS} {ws : va_W} (h : LW g bo an ak bT aa hT hB ae ar bS bV th as av b t t S S ws) (kk : ∀ (t : Nat) (S : MS) (ws' : va_W), LW g bo an ak bT aa hT hB ae ar bS bV th as av b t t S S ws' → Nx p l e room_1 s m args below meth c D vwCl A 4 99 2467 Q 1454 [(0, .ref sb), (1, .ref bo), (2, .ref (b 0)), (3, .int (nI k))] [] ws') : Nx p l e room_1 s m args below meth c D vwCl A 4 99 2467 Q 284 [(0, .ref sb), (1, .ref bo), (2, .ref (b 0)), (3, .int (nI k))] [] ws := by
  refine n_aload_n B dL_law_284 rfl 1 rfl ?_
  refine n_aload_n B dL_law_285 rfl 0 rfl ?_
  refine n_iload_n B dL_law_286 rfl 3 rfl ?_
  refine n_iconst B dL_law_287 ic_1 ?_
  refine n_iaddE B dL_law_288 (nI_add k 1) ?_
  refine n_sldN B hX hbl hbA (by omega) hL dL_law_289 ?_
  refine n_aload_n B dL_law_290 rfl 0 rfl ?_
  refine n_iload_n B dL_law_291 rfl 3 rfl ?_
  refine n_iconst B dL_law_292 ic_2 ?_
  refine n_iaddE B dL_law_293 (nI_add k 2) ?_
  refine n_sldN B hX hbl hbA (by omega) hL dL_law_294 ?_
  refine n_aload_n B dL_law_295 rfl 0 rfl ?_
  refine n_iload_n B dL_law_296 rfl 3 rfl ?_
  refine n_iconst B dL_law_297 ic_3 ?_
  refine n_iaddE B dL_law_298 (nI_add k 3) ?_
  refine n_sldN B hX hbl hbA (by omega) hL dL_law_299 ?_
  refine n_aload_n B dL_law_300 rfl 0 rfl ?_
  refine n_iload_n B dL_law_301 rfl 3 rfl ?_
  refine n_iconst B dL_law_302 ic_4 ?_
  refine n_iaddE B dL_law_303 (nI_add k 4) ?_
  refine n_sldN B hX hbl hbA (by omega) hL dL_law_304 ?_
  refine st_X8_child B hsc h _ _ _ _ (Nat.le_of_ble_eq_true rfl) (fun r1 ws2 f4 h3 => ?_)
  refine n_pop B dL_law_308 rfl ?_
  refine n_aload_n B dL_law_309 rfl 2 rfl ?_
  refine n_aload_n B dL_law_310 rfl 0 rfl ?_
  refine n_iload_n B dL_law_311 rfl 3 rfl ?_
  refine n_iconst B dL_law_312 ic_1 ?_
  refine n_iaddE B dL_law_313 (nI_add k 1) ?_
  refine n_sldN B hX hbl hbA (by omega) hL dL_law_314 ?_
  refine n_aload_n B dL_law_315 rfl 0 rfl ?_
  refine n_iload_n B dL_law_316 rfl 3 rfl ?_
  refine n_iconst B dL_law_317 ic_2 ?_
  refine n_iaddE B dL_law_318 (nI_add k 2) ?_
  refine n_sldN B hX hbl hbA (by omega) hL dL_law_319 ?_
  refine n_aload_n B dL_law_320 rfl 0 rfl ?_
  refine n_iload_n B dL_law_321 rfl 3 rfl ?_
  refine n_iconst B dL_law_322 ic_3 ?_
  refine n_iaddE B dL_law_323 (nI_add k 3) ?_
  refine n_sldN B hX hbl hbA (by omega) hL dL_law_324 ?_
  refine n_aload_n B dL_law_325 rfl 0 rfl ?_
  refine n_iload_n B dL_law_326 rfl 3 rfl ?_
  refine n_iconst B dL_law_327 ic_4 ?_
  refine n_iaddE B dL_law_328 (nI_add k 4) ?_
  refine n_sldN B hX hbl hbA (by omega) hL dL_law_329 ?_
  refine st_X9_child B hsc h3 _ _ _ _ (Nat.le_of_ble_eq_true rfl) (fun r5 ws6 f8 h7 => ?_)
  refine n_pop B dL_law_333 rfl ?_
  refine n_goto (tgt := 1454) B dL_law_334 rfl ?_
  exact kk _ _ _ h7
set_option maxHeartbeats 4000000 in
set_option maxRecDepth 100000 in
theorem law_case_3 {p : Program} {l : Launch} {e : Env} {s : State} {m : MethodId} {args : Array Value} {below : List Frame} {meth : Method} {c : Code} {Q : State → Prop} {D : va_G} {g : Nat → ClassId} {A : Nat → Prop} {bo : Nat} {an : Nat → Nat} {ak : Nat → Nat} {bT : Nat} {aa : Nat → Nat} {hT : Nat} {hB : Nat} {ae : Nat → Nat} {ar : Nat → Nat} {bS : Nat} {bV : Nat} {th : Nat → Nat} {as : Nat → Nat} {av : Nat → Nat} {b : Nat → Nat} {sb L k : Nat} {xs : Nat → Int32} (B : Bs p s m args meth c D vwCl (TY g) A 4 cL_law RL) (hsc : sc D A s s.heap) (hX : va_X sb L xs s s.heap) (hbl : sb < s.heap.size) (hbA : ¬ A sb) (hL : L ≤ 320) (hk : k + 5 ≤ L) {t : Nat} {S : MS} {ws : va_W} (h : LW g bo an ak bT aa hT hB ae ar bS bV th as av b t t S S ws) (kk : ∀ (t : Nat) (S : MS) (ws' : va_W), LW g bo an ak bT aa hT hB ae ar bS bV th as av b t t S S ws' → Nx p l e room_1 s m args below meth c D vwCl A 4 99 2467 Q 1454 [(0, .ref sb), (1, .ref bo), (2, .ref (b 0)), (3, .int (nI k))] [] ws') : Nx p l e room_1 s m args below meth c D vwCl A 4 99 2467 Q 337 [(0, .ref sb), (1, .ref bo), (2, .ref (b 0)), (3, .int (nI k))] [] ws := by
  refine n_aload_n B dL_law_337 rfl 1 rfl ?_
  refine n_aload_n B dL_law_338 rfl 0 rfl ?_
  refine n_iload_n B dL_law_339 rfl 3 rfl ?_
  refine n_iconst B dL_law_340 ic_1 ?_
  refine n_iaddE B dL_law_341 (nI_add k 1) ?_
  refine n_sldN B hX hbl hbA (by omega) hL dL_law_342 ?_
  refine n_aload_n B dL_law_343 rfl 0 rfl ?_
  refine n_iload_n B dL_law_344 rfl 3 rfl ?_
  refine n_iconst B dL_law_345 ic_2 ?_
  refine n_iaddE B dL_law_346 (nI_add k 2) ?_
  refine n_sldN B hX hbl hbA (by omega) hL dL_law_347 ?_
  refine st_X8_childOf B hsc h _ _ (Nat.le_of_ble_eq_true rfl) (fun r1 ws2 f4 h3 => ?_)
  refine n_pop B dL_law_351 rfl ?_
  refine n_aload_n B dL_law_352 rfl 2 rfl ?_
  refine n_aload_n B dL_law_353 rfl 0 rfl ?_
  refine n_iload_n B dL_law_354 rfl 3 rfl ?_
  refine n_iconst B dL_law_355 ic_1 ?_
  refine n_iaddE B dL_law_356 (nI_add k 1) ?_
  refine n_sldN B hX hbl hbA (by omega) hL dL_law_357 ?_
  refine n_aload_n B dL_law_358 rfl 0 rfl ?_
  refine n_iload_n B dL_law_359 rfl 3 rfl ?_
  refine n_iconst B dL_law_360 ic_2 ?_
  refine n_iaddE B dL_law_361 (nI_add k 2) ?_
  refine n_sldN B hX hbl hbA (by omega) hL dL_law_362 ?_
  refine st_X9_childOf B hsc h3 _ _ (Nat.le_of_ble_eq_true rfl) (fun r5 ws6 f8 h7 => ?_)
  refine n_pop B dL_law_366 rfl ?_
  refine n_goto (tgt := 1454) B dL_law_367 rfl ?_
  exact kk _ _ _ h7
set_option maxHeartbeats 4000000 in
set_option maxRecDepth 100000 in
theorem law_case_4 {p : Program} {l : Launch} {e : Env} {s : State} {m : MethodId} {args : Array Value} {below : List Frame} {meth : Method} {c : Code} {Q : State → Prop} {D : va_G} {g : Nat → ClassId} {A : Nat → Prop} {bo : Nat} {an : Nat → Nat} {ak : Nat → Nat} {bT : Nat} {aa : Nat → Nat} {hT : Nat} {hB : Nat} {ae : Nat → Nat} {ar : Nat → Nat} {bS : Nat} {bV : Nat} {th : Nat → Nat} {as : Nat → Nat} {av : Nat → Nat} {b : Nat → Nat} {sb L k : Nat} {xs : Nat → Int32} (B : Bs p s m args meth c D vwCl (TY g) A 4 cL_law RL) (hsc : sc D A s s.heap) (hX : va_X sb L xs s s.heap) (hbl : sb < s.heap.size) (hbA : ¬ A sb) (hL : L ≤ 320) (hk : k + 5 ≤ L) {t : Nat} {S : MS} {ws : va_W} (h : LW g bo an ak bT aa hT hB ae ar bS bV th as av b t t S S ws) (kk : ∀ (t : Nat) (S : MS) (ws' : va_W), LW g bo an ak bT aa hT hB ae ar bS bV th as av b t t S S ws' → Nx p l e room_1 s m args below meth c D vwCl A 4 99 2467 Q 1454 [(0, .ref sb), (1, .ref bo), (2, .ref (b 0)), (3, .int (nI k))] [] ws') : Nx p l e room_1 s m args below meth c D vwCl A 4 99 2467 Q 370 [(0, .ref sb), (1, .ref bo), (2, .ref (b 0)), (3, .int (nI k))] [] ws := by
  refine n_aload_n B dL_law_370 rfl 1 rfl ?_
  refine n_aload_n B dL_law_371 rfl 0 rfl ?_
  refine n_iload_n B dL_law_372 rfl 3 rfl ?_
  refine n_iconst B dL_law_373 ic_1 ?_
  refine n_iaddE B dL_law_374 (nI_add k 1) ?_
  refine n_sldN B hX hbl hbA (by omega) hL dL_law_375 ?_
  refine n_aload_n B dL_law_376 rfl 0 rfl ?_
  refine n_iload_n B dL_law_377 rfl 3 rfl ?_
  refine n_iconst B dL_law_378 ic_2 ?_
  refine n_iaddE B dL_law_379 (nI_add k 2) ?_
  refine n_sldN B hX hbl hbA (by omega) hL dL_law_380 ?_
  refine n_aload_n B dL_law_381 rfl 0 rfl ?_
  refine n_iload_n B dL_law_382 rfl 3 rfl ?_
  refine n_iconst B dL_law_383 ic_3 ?_
  refine n_iaddE B dL_law_384 (nI_add k 3) ?_
  refine n_sldN B hX hbl hbA (by omega) hL dL_law_385 ?_
  refine st_X8_mind B hsc h _ _ _ (Nat.le_of_ble_eq_true rfl) (fun r1 ws2 f4 h3 => ?_)
  refine n_pop B dL_law_389 rfl ?_
  refine n_aload_n B dL_law_390 rfl 2 rfl ?_
  refine n_aload_n B dL_law_391 rfl 0 rfl ?_
  refine n_iload_n B dL_law_392 rfl 3 rfl ?_
  refine n_iconst B dL_law_393 ic_1 ?_
  refine n_iaddE B dL_law_394 (nI_add k 1) ?_
  refine n_sldN B hX hbl hbA (by omega) hL dL_law_395 ?_
  refine n_aload_n B dL_law_396 rfl 0 rfl ?_
  refine n_iload_n B dL_law_397 rfl 3 rfl ?_
  refine n_iconst B dL_law_398 ic_2 ?_
  refine n_iaddE B dL_law_399 (nI_add k 2) ?_
  refine n_sldN B hX hbl hbA (by omega) hL dL_law_400 ?_
  refine n_aload_n B dL_law_401 rfl 0 rfl ?_
  refine n_iload_n B dL_law_402 rfl 3 rfl ?_
  refine n_iconst B dL_law_403 ic_3 ?_
  refine n_iaddE B dL_law_404 (nI_add k 3) ?_
  refine n_sldN B hX hbl hbA (by omega) hL dL_law_405 ?_
  refine st_X9_mind B hsc h3 _ _ _ (Nat.le_of_ble_eq_true rfl) (fun r5 ws6 f8 h7 => ?_)
  refine n_pop B dL_law_409 rfl ?_
  refine n_goto (tgt := 1454) B dL_law_410 rfl ?_
  exact kk _ _ _ h7
set_option maxHeartbeats 4000000 in
set_option maxRecDepth 100000 in
theorem law_case_5 {p : Program} {l : Launch} {e : Env} {s : State} {m : MethodId} {args : Array Value} {below : List Frame} {meth : Method} {c : Code} {Q : State → Prop} {D : va_G} {g : Nat → ClassId} {A : Nat → Prop} {bo : Nat} {an : Nat → Nat} {ak : Nat → Nat} {bT : Nat} {aa : Nat → Nat} {hT : Nat} {hB : Nat} {ae : Nat → Nat} {ar : Nat → Nat} {bS : Nat} {bV : Nat} {th : Nat → Nat} {as : Nat → Nat} {av : Nat → Nat} {b : Nat → Nat} {sb L k : Nat} {xs : Nat → Int32} (B : Bs p s m args meth c D vwCl (TY g) A 4 cL_law RL) (hsc : sc D A s s.heap) (hX : va_X sb L xs s s.heap) (hbl : sb < s.heap.size) (hbA : ¬ A sb) (hL : L ≤ 320) (hk : k + 5 ≤ L) {t : Nat} {S : MS} {ws : va_W} (h : LW g bo an ak bT aa hT hB ae ar bS bV th as av b t t S S ws) (kk : ∀ (t : Nat) (S : MS) (ws' : va_W), LW g bo an ak bT aa hT hB ae ar bS bV th as av b t t S S ws' → Nx p l e room_1 s m args below meth c D vwCl A 4 99 2467 Q 1454 [(0, .ref sb), (1, .ref bo), (2, .ref (b 0)), (3, .int (nI k))] [] ws') : Nx p l e room_1 s m args below meth c D vwCl A 4 99 2467 Q 413 [(0, .ref sb), (1, .ref bo), (2, .ref (b 0)), (3, .int (nI k))] [] ws := by
  refine n_aload_n B dL_law_413 rfl 1 rfl ?_
  refine n_aload_n B dL_law_414 rfl 0 rfl ?_
  refine n_iload_n B dL_law_415 rfl 3 rfl ?_
  refine n_iconst B dL_law_416 ic_1 ?_
  refine n_iaddE B dL_law_417 (nI_add k 1) ?_
  refine n_sldN B hX hbl hbA (by omega) hL dL_law_418 ?_
  refine n_aload_n B dL_law_419 rfl 0 rfl ?_
  refine n_iload_n B dL_law_420 rfl 3 rfl ?_
  refine n_iconst B dL_law_421 ic_2 ?_
  refine n_iaddE B dL_law_422 (nI_add k 2) ?_
  refine n_sldN B hX hbl hbA (by omega) hL dL_law_423 ?_
  refine st_X8_sick B hsc h _ _ (Nat.le_of_ble_eq_true rfl) (fun r1 ws2 f4 h3 => ?_)
  refine n_pop B dL_law_427 rfl ?_
  refine n_aload_n B dL_law_428 rfl 2 rfl ?_
  refine n_aload_n B dL_law_429 rfl 0 rfl ?_
  refine n_iload_n B dL_law_430 rfl 3 rfl ?_
  refine n_iconst B dL_law_431 ic_1 ?_
  refine n_iaddE B dL_law_432 (nI_add k 1) ?_
  refine n_sldN B hX hbl hbA (by omega) hL dL_law_433 ?_
  refine n_aload_n B dL_law_434 rfl 0 rfl ?_
  refine n_iload_n B dL_law_435 rfl 3 rfl ?_
  refine n_iconst B dL_law_436 ic_2 ?_
  refine n_iaddE B dL_law_437 (nI_add k 2) ?_
  refine n_sldN B hX hbl hbA (by omega) hL dL_law_438 ?_
  refine st_X9_sick B hsc h3 _ _ (Nat.le_of_ble_eq_true rfl) (fun r5 ws6 f8 h7 => ?_)
  refine n_pop B dL_law_442 rfl ?_
  refine n_goto (tgt := 1454) B dL_law_443 rfl ?_
  exact kk _ _ _ h7
set_option maxHeartbeats 4000000 in
set_option maxRecDepth 100000 in
theorem law_case_6 {p : Program} {l : Launch} {e : Env} {s : State} {m : MethodId} {args : Array Value} {below : List Frame} {meth : Method} {c : Code} {Q : State → Prop} {D : va_G} {g : Nat → ClassId} {A : Nat → Prop} {bo : Nat} {an : Nat → Nat} {ak : Nat → Nat} {bT : Nat} {aa : Nat → Nat} {hT : Nat} {hB : Nat} {ae : Nat → Nat} {ar : Nat → Nat} {bS : Nat} {bV : Nat} {th : Nat → Nat} {as : Nat → Nat} {av : Nat → Nat} {b : Nat → Nat} {sb L k : Nat} {xs : Nat → Int32} (B : Bs p s m args meth c D vwCl (TY g) A 4 cL_law RL) (hsc : sc D A s s.heap) (hX : va_X sb L xs s s.heap) (hbl : sb < s.heap.size) (hbA : ¬ A sb) (hL : L ≤ 320) (hk : k + 5 ≤ L) {t : Nat} {S : MS} {ws : va_W} (h : LW g bo an ak bT aa hT hB ae ar bS bV th as av b t t S S ws) (kk : ∀ (t : Nat) (S : MS) (ws' : va_W), LW g bo an ak bT aa hT hB ae ar bS bV th as av b t t S S ws' → Nx p l e room_1 s m args below meth c D vwCl A 4 99 2467 Q 1454 [(0, .ref sb), (1, .ref bo), (2, .ref (b 0)), (3, .int (nI k))] [] ws') : Nx p l e room_1 s m args below meth c D vwCl A 4 99 2467 Q 446 [(0, .ref sb), (1, .ref bo), (2, .ref (b 0)), (3, .int (nI k))] [] ws := by
  refine n_aload_n B dL_law_446 rfl 1 rfl ?_
  refine n_aload_n B dL_law_447 rfl 0 rfl ?_
  refine n_iload_n B dL_law_448 rfl 3 rfl ?_
  refine n_iconst B dL_law_449 ic_1 ?_
  refine n_iaddE B dL_law_450 (nI_add k 1) ?_
  refine n_sldN B hX hbl hbA (by omega) hL dL_law_451 ?_
  refine n_aload_n B dL_law_452 rfl 0 rfl ?_
  refine n_iload_n B dL_law_453 rfl 3 rfl ?_
  refine n_iconst B dL_law_454 ic_2 ?_
  refine n_iaddE B dL_law_455 (nI_add k 2) ?_
  refine n_sldN B hX hbl hbA (by omega) hL dL_law_456 ?_
  refine st_X8_event B hsc h _ _ (Nat.le_of_ble_eq_true rfl) (fun r1 ws2 f4 h3 => ?_)
  refine n_pop B dL_law_460 rfl ?_
  refine n_aload_n B dL_law_461 rfl 2 rfl ?_
  refine n_aload_n B dL_law_462 rfl 0 rfl ?_
  refine n_iload_n B dL_law_463 rfl 3 rfl ?_
  refine n_iconst B dL_law_464 ic_1 ?_
  refine n_iaddE B dL_law_465 (nI_add k 1) ?_
  refine n_sldN B hX hbl hbA (by omega) hL dL_law_466 ?_
  refine n_aload_n B dL_law_467 rfl 0 rfl ?_
  refine n_iload_n B dL_law_468 rfl 3 rfl ?_
  refine n_iconst B dL_law_469 ic_2 ?_
  refine n_iaddE B dL_law_470 (nI_add k 2) ?_
  refine n_sldN B hX hbl hbA (by omega) hL dL_law_471 ?_
  refine st_X9_event B hsc h3 _ _ (Nat.le_of_ble_eq_true rfl) (fun r5 ws6 f8 h7 => ?_)
  refine n_pop B dL_law_475 rfl ?_
  refine n_goto (tgt := 1454) B dL_law_476 rfl ?_
  exact kk _ _ _ h7
set_option maxHeartbeats 4000000 in
set_option maxRecDepth 100000 in
theorem law_case_7 {p : Program} {l : Launch} {e : Env} {s : State} {m : MethodId} {args : Array Value} {below : List Frame} {meth : Method} {c : Code} {Q : State → Prop} {D : va_G} {g : Nat → ClassId} {A : Nat → Prop} {bo : Nat} {an : Nat → Nat} {ak : Nat → Nat} {bT : Nat} {aa : Nat → Nat} {hT : Nat} {hB : Nat} {ae : Nat → Nat} {ar : Nat → Nat} {bS : Nat} {bV : Nat} {th : Nat → Nat} {as : Nat → Nat} {av : Nat → Nat} {b : Nat → Nat} {sb L k : Nat} {xs : Nat → Int32} (B : Bs p s m args meth c D vwCl (TY g) A 4 cL_law RL) (hsc : sc D A s s.heap) (hX : va_X sb L xs s s.heap) (hbl : sb < s.heap.size) (hbA : ¬ A sb) (hL : L ≤ 320) (hk : k + 5 ≤ L) {t : Nat} {S : MS} {ws : va_W} (h : LW g bo an ak bT aa hT hB ae ar bS bV th as av b t t S S ws) (kk : ∀ (t : Nat) (S : MS) (ws' : va_W), LW g bo an ak bT aa hT hB ae ar bS bV th as av b t t S S ws' → Nx p l e room_1 s m args below meth c D vwCl A 4 99 2467 Q 1454 [(0, .ref sb), (1, .ref bo), (2, .ref (b 0)), (3, .int (nI k))] [] ws') : Nx p l e room_1 s m args below meth c D vwCl A 4 99 2467 Q 479 [(0, .ref sb), (1, .ref bo), (2, .ref (b 0)), (3, .int (nI k))] [] ws := by
  refine n_aload_n B dL_law_479 rfl 1 rfl ?_
  refine n_aload_n B dL_law_480 rfl 0 rfl ?_
  refine n_iload_n B dL_law_481 rfl 3 rfl ?_
  refine n_iconst B dL_law_482 ic_1 ?_
  refine n_iaddE B dL_law_483 (nI_add k 1) ?_
  refine n_sldN B hX hbl hbA (by omega) hL dL_law_484 ?_
  refine n_aload_n B dL_law_485 rfl 0 rfl ?_
  refine n_iload_n B dL_law_486 rfl 3 rfl ?_
  refine n_iconst B dL_law_487 ic_2 ?_
  refine n_iaddE B dL_law_488 (nI_add k 2) ?_
  refine n_sldN B hX hbl hbA (by omega) hL dL_law_489 ?_
  refine st_X8_dayOf B hsc h _ _ (Nat.le_of_ble_eq_true rfl) (fun r1 ws2 f4 h3 => ?_)
  refine n_pop B dL_law_493 rfl ?_
  refine n_aload_n B dL_law_494 rfl 2 rfl ?_
  refine n_aload_n B dL_law_495 rfl 0 rfl ?_
  refine n_iload_n B dL_law_496 rfl 3 rfl ?_
  refine n_iconst B dL_law_497 ic_1 ?_
  refine n_iaddE B dL_law_498 (nI_add k 1) ?_
  refine n_sldN B hX hbl hbA (by omega) hL dL_law_499 ?_
  refine n_aload_n B dL_law_500 rfl 0 rfl ?_
  refine n_iload_n B dL_law_501 rfl 3 rfl ?_
  refine n_iconst B dL_law_502 ic_2 ?_
  refine n_iaddE B dL_law_503 (nI_add k 2) ?_
  refine n_sldN B hX hbl hbA (by omega) hL dL_law_504 ?_
  refine st_X9_dayOf B hsc h3 _ _ (Nat.le_of_ble_eq_true rfl) (fun r5 ws6 f8 h7 => ?_)
  refine n_pop B dL_law_508 rfl ?_
  refine n_goto (tgt := 1454) B dL_law_509 rfl ?_
  exact kk _ _ _ h7
set_option maxHeartbeats 4000000 in
set_option maxRecDepth 100000 in
theorem law_case_8 {p : Program} {l : Launch} {e : Env} {s : State} {m : MethodId} {args : Array Value} {below : List Frame} {meth : Method} {c : Code} {Q : State → Prop} {D : va_G} {g : Nat → ClassId} {A : Nat → Prop} {bo : Nat} {an : Nat → Nat} {ak : Nat → Nat} {bT : Nat} {aa : Nat → Nat} {hT : Nat} {hB : Nat} {ae : Nat → Nat} {ar : Nat → Nat} {bS : Nat} {bV : Nat} {th : Nat → Nat} {as : Nat → Nat} {av : Nat → Nat} {b : Nat → Nat} {sb L k : Nat} {xs : Nat → Int32} (B : Bs p s m args meth c D vwCl (TY g) A 4 cL_law RL) (hsc : sc D A s s.heap) (hX : va_X sb L xs s s.heap) (hbl : sb < s.heap.size) (hbA : ¬ A sb) (hL : L ≤ 320) (hk : k + 5 ≤ L) {t : Nat} {S : MS} {ws : va_W} (h : LW g bo an ak bT aa hT hB ae ar bS bV th as av b t t S S ws) (kk : ∀ (t : Nat) (S : MS) (ws' : va_W), LW g bo an ak bT aa hT hB ae ar bS bV th as av b t t S S ws' → Nx p l e room_1 s m args below meth c D vwCl A 4 99 2467 Q 1454 [(0, .ref sb), (1, .ref bo), (2, .ref (b 0)), (3, .int (nI k))] [] ws') : Nx p l e room_1 s m args below meth c D vwCl A 4 99 2467 Q 512 [(0, .ref sb), (1, .ref bo), (2, .ref (b 0)), (3, .int (nI k))] [] ws := by
  refine n_aload_n B dL_law_512 rfl 1 rfl ?_
  refine n_aload_n B dL_law_513 rfl 0 rfl ?_
  refine n_iload_n B dL_law_514 rfl 3 rfl ?_
  refine n_iconst B dL_law_515 ic_1 ?_
  refine n_iaddE B dL_law_516 (nI_add k 1) ?_
  refine n_sldN B hX hbl hbA (by omega) hL dL_law_517 ?_
  refine n_aload_n B dL_law_518 rfl 0 rfl ?_
  refine n_iload_n B dL_law_519 rfl 3 rfl ?_
  refine n_iconst B dL_law_520 ic_2 ?_
  refine n_iaddE B dL_law_521 (nI_add k 2) ?_
  refine n_sldN B hX hbl hbA (by omega) hL dL_law_522 ?_
  refine st_X8_set B hsc h _ _ (Nat.le_of_ble_eq_true rfl) (fun r1 ws2 f4 h3 => ?_)
  refine n_pop B dL_law_526 rfl ?_
  refine n_aload_n B dL_law_527 rfl 2 rfl ?_
  refine n_aload_n B dL_law_528 rfl 0 rfl ?_
  refine n_iload_n B dL_law_529 rfl 3 rfl ?_
  refine n_iconst B dL_law_530 ic_1 ?_
  refine n_iaddE B dL_law_531 (nI_add k 1) ?_
  refine n_sldN B hX hbl hbA (by omega) hL dL_law_532 ?_
  refine n_aload_n B dL_law_533 rfl 0 rfl ?_
  refine n_iload_n B dL_law_534 rfl 3 rfl ?_
  refine n_iconst B dL_law_535 ic_2 ?_
  refine n_iaddE B dL_law_536 (nI_add k 2) ?_
  refine n_sldN B hX hbl hbA (by omega) hL dL_law_537 ?_
  refine st_X9_set B hsc h3 _ _ (Nat.le_of_ble_eq_true rfl) (fun r5 ws6 f8 h7 => ?_)
  refine n_pop B dL_law_541 rfl ?_
  refine n_goto (tgt := 1454) B dL_law_542 rfl ?_
  exact kk _ _ _ h7
set_option maxHeartbeats 4000000 in
set_option maxRecDepth 100000 in
theorem law_case_9 {p : Program} {l : Launch} {e : Env} {s : State} {m : MethodId} {args : Array Value} {below : List Frame} {meth : Method} {c : Code} {Q : State → Prop} {D : va_G} {g : Nat → ClassId} {A : Nat → Prop} {bo : Nat} {an : Nat → Nat} {ak : Nat → Nat} {bT : Nat} {aa : Nat → Nat} {hT : Nat} {hB : Nat} {ae : Nat → Nat} {ar : Nat → Nat} {bS : Nat} {bV : Nat} {th : Nat → Nat} {as : Nat → Nat} {av : Nat → Nat} {b : Nat → Nat} {sb L k : Nat} {xs : Nat → Int32} (B : Bs p s m args meth c D vwCl (TY g) A 4 cL_law RL) (hsc : sc D A s s.heap) (hX : va_X sb L xs s s.heap) (hbl : sb < s.heap.size) (hbA : ¬ A sb) (hL : L ≤ 320) (hk : k + 5 ≤ L) {t : Nat} {S : MS} {ws : va_W} (h : LW g bo an ak bT aa hT hB ae ar bS bV th as av b t t S S ws) (kk : ∀ (t : Nat) (S : MS) (ws' : va_W), LW g bo an ak bT aa hT hB ae ar bS bV th as av b t t S S ws' → Nx p l e room_1 s m args below meth c D vwCl A 4 99 2467 Q 1454 [(0, .ref sb), (1, .ref bo), (2, .ref (b 0)), (3, .int (nI k))] [] ws') : Nx p l e room_1 s m args below meth c D vwCl A 4 99 2467 Q 545 [(0, .ref sb), (1, .ref bo), (2, .ref (b 0)), (3, .int (nI k))] [] ws := by
  refine n_aload_n B dL_law_545 rfl 1 rfl ?_
  refine st_X8_today B hsc h (Nat.le_of_ble_eq_true rfl) (fun r1 ws2 f4 h3 => ?_)
  refine n_pop B dL_law_549 rfl ?_
  refine n_aload_n B dL_law_550 rfl 2 rfl ?_
  refine st_X9_today B hsc h3 (Nat.le_of_ble_eq_true rfl) (fun r5 ws6 f8 h7 => ?_)
  refine n_pop B dL_law_554 rfl ?_
  refine n_goto (tgt := 1454) B dL_law_555 rfl ?_
  exact kk _ _ _ h7
set_option maxHeartbeats 4000000 in
set_option maxRecDepth 100000 in
theorem law_case_10 {p : Program} {l : Launch} {e : Env} {s : State} {m : MethodId} {args : Array Value} {below : List Frame} {meth : Method} {c : Code} {Q : State → Prop} {D : va_G} {g : Nat → ClassId} {A : Nat → Prop} {bo : Nat} {an : Nat → Nat} {ak : Nat → Nat} {bT : Nat} {aa : Nat → Nat} {hT : Nat} {hB : Nat} {ae : Nat → Nat} {ar : Nat → Nat} {bS : Nat} {bV : Nat} {th : Nat → Nat} {as : Nat → Nat} {av : Nat → Nat} {b : Nat → Nat} {sb L k : Nat} {xs : Nat → Int32} (B : Bs p s m args meth c D vwCl (TY g) A 4 cL_law RL) (hsc : sc D A s s.heap) (hX : va_X sb L xs s s.heap) (hbl : sb < s.heap.size) (hbA : ¬ A sb) (hL : L ≤ 320) (hk : k + 5 ≤ L) {t : Nat} {S : MS} {ws : va_W} (h : LW g bo an ak bT aa hT hB ae ar bS bV th as av b t t S S ws) (kk : ∀ (t : Nat) (S : MS) (ws' : va_W), LW g bo an ak bT aa hT hB ae ar bS bV th as av b t t S S ws' → Nx p l e room_1 s m args below meth c D vwCl A 4 99 2467 Q 1454 [(0, .ref sb), (1, .ref bo), (2, .ref (b 0)), (3, .int (nI k))] [] ws') : Nx p l e room_1 s m args below meth c D vwCl A 4 99 2467 Q 558 [(0, .ref sb), (1, .ref bo), (2, .ref (b 0)), (3, .int (nI k))] [] ws := by
  refine n_aload_n B dL_law_558 rfl 1 rfl ?_
  refine n_aload_n B dL_law_559 rfl 0 rfl ?_
  refine n_iload_n B dL_law_560 rfl 3 rfl ?_
  refine n_iconst B dL_law_561 ic_1 ?_
  refine n_iaddE B dL_law_562 (nI_add k 1) ?_
  refine n_sldN B hX hbl hbA (by omega) hL dL_law_563 ?_
  refine st_X8_would B hsc h _ (Nat.le_of_ble_eq_true rfl) (fun r1 ws2 f4 h3 => ?_)
  refine n_pop B dL_law_567 rfl ?_
  refine n_aload_n B dL_law_568 rfl 2 rfl ?_
  refine n_aload_n B dL_law_569 rfl 0 rfl ?_
  refine n_iload_n B dL_law_570 rfl 3 rfl ?_
  refine n_iconst B dL_law_571 ic_1 ?_
  refine n_iaddE B dL_law_572 (nI_add k 1) ?_
  refine n_sldN B hX hbl hbA (by omega) hL dL_law_573 ?_
  refine st_X9_would B hsc h3 _ (Nat.le_of_ble_eq_true rfl) (fun r5 ws6 f8 h7 => ?_)
  refine n_pop B dL_law_577 rfl ?_
  refine n_goto (tgt := 1454) B dL_law_578 rfl ?_
  exact kk _ _ _ h7
set_option maxHeartbeats 4000000 in
set_option maxRecDepth 100000 in
theorem law_case_11 {p : Program} {l : Launch} {e : Env} {s : State} {m : MethodId} {args : Array Value} {below : List Frame} {meth : Method} {c : Code} {Q : State → Prop} {D : va_G} {g : Nat → ClassId} {A : Nat → Prop} {bo : Nat} {an : Nat → Nat} {ak : Nat → Nat} {bT : Nat} {aa : Nat → Nat} {hT : Nat} {hB : Nat} {ae : Nat → Nat} {ar : Nat → Nat} {bS : Nat} {bV : Nat} {th : Nat → Nat} {as : Nat → Nat} {av : Nat → Nat} {b : Nat → Nat} {sb L k : Nat} {xs : Nat → Int32} (B : Bs p s m args meth c D vwCl (TY g) A 4 cL_law RL) (hsc : sc D A s s.heap) (hX : va_X sb L xs s s.heap) (hbl : sb < s.heap.size) (hbA : ¬ A sb) (hL : L ≤ 320) (hk : k + 5 ≤ L) {t : Nat} {S : MS} {ws : va_W} (h : LW g bo an ak bT aa hT hB ae ar bS bV th as av b t t S S ws) (kk : ∀ (t : Nat) (S : MS) (ws' : va_W), LW g bo an ak bT aa hT hB ae ar bS bV th as av b t t S S ws' → Nx p l e room_1 s m args below meth c D vwCl A 4 99 2467 Q 1454 [(0, .ref sb), (1, .ref bo), (2, .ref (b 0)), (3, .int (nI k))] [] ws') : Nx p l e room_1 s m args below meth c D vwCl A 4 99 2467 Q 581 [(0, .ref sb), (1, .ref bo), (2, .ref (b 0)), (3, .int (nI k))] [] ws := by
  refine n_aload_n B dL_law_581 rfl 1 rfl ?_
  refine n_aload_n B dL_law_582 rfl 0 rfl ?_
  refine n_iload_n B dL_law_583 rfl 3 rfl ?_
  refine n_iconst B dL_law_584 ic_1 ?_
  refine n_iaddE B dL_law_585 (nI_add k 1) ?_
  refine n_sldN B hX hbl hbA (by omega) hL dL_law_586 ?_
  refine st_X8_days B hsc h _ (Nat.le_of_ble_eq_true rfl) (fun r1 ws2 f4 h3 => ?_)
  refine n_pop B dL_law_590 rfl ?_
  refine n_aload_n B dL_law_591 rfl 2 rfl ?_
  refine n_aload_n B dL_law_592 rfl 0 rfl ?_
  refine n_iload_n B dL_law_593 rfl 3 rfl ?_
  refine n_iconst B dL_law_594 ic_1 ?_
  refine n_iaddE B dL_law_595 (nI_add k 1) ?_
  refine n_sldN B hX hbl hbA (by omega) hL dL_law_596 ?_
  refine st_X9_days B hsc h3 _ (Nat.le_of_ble_eq_true rfl) (fun r5 ws6 f8 h7 => ?_)
  refine n_pop B dL_law_600 rfl ?_
  refine n_goto (tgt := 1454) B dL_law_601 rfl ?_
  exact kk _ _ _ h7
set_option maxHeartbeats 4000000 in
set_option maxRecDepth 100000 in
theorem law_case_12 {p : Program} {l : Launch} {e : Env} {s : State} {m : MethodId} {args : Array Value} {below : List Frame} {meth : Method} {c : Code} {Q : State → Prop} {D : va_G} {g : Nat → ClassId} {A : Nat → Prop} {bo : Nat} {an : Nat → Nat} {ak : Nat → Nat} {bT : Nat} {aa : Nat → Nat} {hT : Nat} {hB : Nat} {ae : Nat → Nat} {ar : Nat → Nat} {bS : Nat} {bV : Nat} {th : Nat → Nat} {as : Nat → Nat} {av : Nat → Nat} {b : Nat → Nat} {sb L k : Nat} {xs : Nat → Int32} (B : Bs p s m args meth c D vwCl (TY g) A 4 cL_law RL) (hsc : sc D A s s.heap) (hX : va_X sb L xs s s.heap) (hbl : sb < s.heap.size) (hbA : ¬ A sb) (hL : L ≤ 320) (hk : k + 5 ≤ L) {t : Nat} {S : MS} {ws : va_W} (h : LW g bo an ak bT aa hT hB ae ar bS bV th as av b t t S S ws) (kk : ∀ (t : Nat) (S : MS) (ws' : va_W), LW g bo an ak bT aa hT hB ae ar bS bV th as av b t t S S ws' → Nx p l e room_1 s m args below meth c D vwCl A 4 99 2467 Q 1454 [(0, .ref sb), (1, .ref bo), (2, .ref (b 0)), (3, .int (nI k))] [] ws') : Nx p l e room_1 s m args below meth c D vwCl A 4 99 2467 Q 604 [(0, .ref sb), (1, .ref bo), (2, .ref (b 0)), (3, .int (nI k))] [] ws := by
  refine n_aload_n B dL_law_604 rfl 1 rfl ?_
  refine n_aload_n B dL_law_605 rfl 0 rfl ?_
  refine n_iload_n B dL_law_606 rfl 3 rfl ?_
  refine n_iconst B dL_law_607 ic_1 ?_
  refine n_iaddE B dL_law_608 (nI_add k 1) ?_
  refine n_sldN B hX hbl hbA (by omega) hL dL_law_609 ?_
  refine st_X8_knock B hsc h _ (Nat.le_of_ble_eq_true rfl) (fun r1 ws2 f4 h3 => ?_)
  refine n_pop B dL_law_613 rfl ?_
  refine n_aload_n B dL_law_614 rfl 2 rfl ?_
  refine n_aload_n B dL_law_615 rfl 0 rfl ?_
  refine n_iload_n B dL_law_616 rfl 3 rfl ?_
  refine n_iconst B dL_law_617 ic_1 ?_
  refine n_iaddE B dL_law_618 (nI_add k 1) ?_
  refine n_sldN B hX hbl hbA (by omega) hL dL_law_619 ?_
  refine st_X9_knock B hsc h3 _ (Nat.le_of_ble_eq_true rfl) (fun r5 ws6 f8 h7 => ?_)
  refine n_pop B dL_law_623 rfl ?_
  refine n_goto (tgt := 1454) B dL_law_624 rfl ?_
  exact kk _ _ _ h7
set_option maxHeartbeats 4000000 in
set_option maxRecDepth 100000 in
theorem law_case_13 {p : Program} {l : Launch} {e : Env} {s : State} {m : MethodId} {args : Array Value} {below : List Frame} {meth : Method} {c : Code} {Q : State → Prop} {D : va_G} {g : Nat → ClassId} {A : Nat → Prop} {bo : Nat} {an : Nat → Nat} {ak : Nat → Nat} {bT : Nat} {aa : Nat → Nat} {hT : Nat} {hB : Nat} {ae : Nat → Nat} {ar : Nat → Nat} {bS : Nat} {bV : Nat} {th : Nat → Nat} {as : Nat → Nat} {av : Nat → Nat} {b : Nat → Nat} {sb L k : Nat} {xs : Nat → Int32} (B : Bs p s m args meth c D vwCl (TY g) A 4 cL_law RL) (hsc : sc D A s s.heap) (hX : va_X sb L xs s s.heap) (hbl : sb < s.heap.size) (hbA : ¬ A sb) (hL : L ≤ 320) (hk : k + 5 ≤ L) {t : Nat} {S : MS} {ws : va_W} (h : LW g bo an ak bT aa hT hB ae ar bS bV th as av b t t S S ws) (kk : ∀ (t : Nat) (S : MS) (ws' : va_W), LW g bo an ak bT aa hT hB ae ar bS bV th as av b t t S S ws' → Nx p l e room_1 s m args below meth c D vwCl A 4 99 2467 Q 1454 [(0, .ref sb), (1, .ref bo), (2, .ref (b 0)), (3, .int (nI k))] [] ws') : Nx p l e room_1 s m args below meth c D vwCl A 4 99 2467 Q 627 [(0, .ref sb), (1, .ref bo), (2, .ref (b 0)), (3, .int (nI k))] [] ws := by
  refine n_aload_n B dL_law_627 rfl 1 rfl ?_
  refine n_aload_n B dL_law_628 rfl 0 rfl ?_
  refine n_iload_n B dL_law_629 rfl 3 rfl ?_
  refine n_iconst B dL_law_630 ic_1 ?_
  refine n_iaddE B dL_law_631 (nI_add k 1) ?_
  refine n_sldN B hX hbl hbA (by omega) hL dL_law_632 ?_
  refine n_aload_n B dL_law_633 rfl 0 rfl ?_
  refine n_iload_n B dL_law_634 rfl 3 rfl ?_
  refine n_iconst B dL_law_635 ic_2 ?_
  refine n_iaddE B dL_law_636 (nI_add k 2) ?_
  refine n_sldN B hX hbl hbA (by omega) hL dL_law_637 ?_
  refine n_aload_n B dL_law_638 rfl 0 rfl ?_
  refine n_iload_n B dL_law_639 rfl 3 rfl ?_
  refine n_iconst B dL_law_640 ic_3 ?_
  refine n_iaddE B dL_law_641 (nI_add k 3) ?_
  refine n_sldN B hX hbl hbA (by omega) hL dL_law_642 ?_
  refine n_if_eq (tgt := 650) B dL_law_643 rfl (fun hc1 => ?_) (fun hc1 => ?_)
  · refine n_iconst B dL_law_650 ic_0 ?_
    refine st_X8_write B hsc h _ _ _ (Nat.le_of_ble_eq_true rfl) (fun r2 ws3 f5 h4 => ?_)
    refine n_pop B dL_law_654 rfl ?_
    refine n_aload_n B dL_law_655 rfl 2 rfl ?_
    refine n_aload_n B dL_law_656 rfl 0 rfl ?_
    refine n_iload_n B dL_law_657 rfl 3 rfl ?_
    refine n_iconst B dL_law_658 ic_1 ?_
    refine n_iaddE B dL_law_659 (nI_add k 1) ?_
    refine n_sldN B hX hbl hbA (by omega) hL dL_law_660 ?_
    refine n_aload_n B dL_law_661 rfl 0 rfl ?_
    refine n_iload_n B dL_law_662 rfl 3 rfl ?_
    refine n_iconst B dL_law_663 ic_2 ?_
    refine n_iaddE B dL_law_664 (nI_add k 2) ?_
    refine n_sldN B hX hbl hbA (by omega) hL dL_law_665 ?_
    refine n_aload_n B dL_law_666 rfl 0 rfl ?_
    refine n_iload_n B dL_law_667 rfl 3 rfl ?_
    refine n_iconst B dL_law_668 ic_3 ?_
    refine n_iaddE B dL_law_669 (nI_add k 3) ?_
    refine n_sldN B hX hbl hbA (by omega) hL dL_law_670 ?_
    refine n_if_eq (tgt := 678) B dL_law_671 rfl (fun hc6 => ?_) (fun hc6 => ?_)
    · refine n_iconst B dL_law_678 ic_0 ?_
      refine st_X9_write B hsc h4 _ _ _ (by first | exact Or.inl rfl | exact Or.inr rfl) (Nat.le_of_ble_eq_true rfl) (fun r7 ws8 f10 h9 => ?_)
      refine n_pop B dL_law_682 rfl ?_
      refine n_goto (tgt := 1454) B dL_law_683 rfl ?_
      exact kk _ _ _ h9
    · exact absurd hc1 hc6
  · refine n_iconst B dL_law_646 ic_1 ?_
    refine n_goto (tgt := 651) B dL_law_647 rfl ?_
    refine st_X8_write B hsc h _ _ _ (Nat.le_of_ble_eq_true rfl) (fun r11 ws12 f14 h13 => ?_)
    refine n_pop B dL_law_654 rfl ?_
    refine n_aload_n B dL_law_655 rfl 2 rfl ?_
    refine n_aload_n B dL_law_656 rfl 0 rfl ?_
    refine n_iload_n B dL_law_657 rfl 3 rfl ?_
    refine n_iconst B dL_law_658 ic_1 ?_
    refine n_iaddE B dL_law_659 (nI_add k 1) ?_
    refine n_sldN B hX hbl hbA (by omega) hL dL_law_660 ?_
    refine n_aload_n B dL_law_661 rfl 0 rfl ?_
    refine n_iload_n B dL_law_662 rfl 3 rfl ?_
    refine n_iconst B dL_law_663 ic_2 ?_
    refine n_iaddE B dL_law_664 (nI_add k 2) ?_
    refine n_sldN B hX hbl hbA (by omega) hL dL_law_665 ?_
    refine n_aload_n B dL_law_666 rfl 0 rfl ?_
    refine n_iload_n B dL_law_667 rfl 3 rfl ?_
    refine n_iconst B dL_law_668 ic_3 ?_
    refine n_iaddE B dL_law_669 (nI_add k 3) ?_
    refine n_sldN B hX hbl hbA (by omega) hL dL_law_670 ?_
    refine n_if_eq (tgt := 678) B dL_law_671 rfl (fun hc15 => ?_) (fun hc15 => ?_)
    · exact absurd hc15 hc1
    · refine n_iconst B dL_law_674 ic_1 ?_
      refine n_goto (tgt := 679) B dL_law_675 rfl ?_
      refine st_X9_write B hsc h13 _ _ _ (by first | exact Or.inl rfl | exact Or.inr rfl) (Nat.le_of_ble_eq_true rfl) (fun r16 ws17 f19 h18 => ?_)
      refine n_pop B dL_law_682 rfl ?_
      refine n_goto (tgt := 1454) B dL_law_683 rfl ?_
      exact kk _ _ _ h18
set_option maxHeartbeats 4000000 in
set_option maxRecDepth 100000 in
theorem law_case_14 {p : Program} {l : Launch} {e : Env} {s : State} {m : MethodId} {args : Array Value} {below : List Frame} {meth : Method} {c : Code} {Q : State → Prop} {D : va_G} {g : Nat → ClassId} {A : Nat → Prop} {bo : Nat} {an : Nat → Nat} {ak : Nat → Nat} {bT : Nat} {aa : Nat → Nat} {hT : Nat} {hB : Nat} {ae : Nat → Nat} {ar : Nat → Nat} {bS : Nat} {bV : Nat} {th : Nat → Nat} {as : Nat → Nat} {av : Nat → Nat} {b : Nat → Nat} {sb L k : Nat} {xs : Nat → Int32} (B : Bs p s m args meth c D vwCl (TY g) A 4 cL_law RL) (hsc : sc D A s s.heap) (hX : va_X sb L xs s s.heap) (hbl : sb < s.heap.size) (hbA : ¬ A sb) (hL : L ≤ 320) (hk : k + 5 ≤ L) {t : Nat} {S : MS} {ws : va_W} (h : LW g bo an ak bT aa hT hB ae ar bS bV th as av b t t S S ws) (kk : ∀ (t : Nat) (S : MS) (ws' : va_W), LW g bo an ak bT aa hT hB ae ar bS bV th as av b t t S S ws' → Nx p l e room_1 s m args below meth c D vwCl A 4 99 2467 Q 1454 [(0, .ref sb), (1, .ref bo), (2, .ref (b 0)), (3, .int (nI k))] [] ws') : Nx p l e room_1 s m args below meth c D vwCl A 4 99 2467 Q 686 [(0, .ref sb), (1, .ref bo), (2, .ref (b 0)), (3, .int (nI k))] [] ws := by
  refine n_aload_n B dL_law_686 rfl 1 rfl ?_
  refine n_aload_n B dL_law_687 rfl 0 rfl ?_
  refine n_iload_n B dL_law_688 rfl 3 rfl ?_
  refine n_iconst B dL_law_689 ic_1 ?_
  refine n_iaddE B dL_law_690 (nI_add k 1) ?_
  refine n_sldN B hX hbl hbA (by omega) hL dL_law_691 ?_
  refine st_X8_marks B hsc h _ (Nat.le_of_ble_eq_true rfl) (fun r1 ws2 f4 h3 => ?_)
  refine n_pop B dL_law_695 rfl ?_
  refine n_aload_n B dL_law_696 rfl 2 rfl ?_
  refine n_aload_n B dL_law_697 rfl 0 rfl ?_
  refine n_iload_n B dL_law_698 rfl 3 rfl ?_
  refine n_iconst B dL_law_699 ic_1 ?_
  refine n_iaddE B dL_law_700 (nI_add k 1) ?_
  refine n_sldN B hX hbl hbA (by omega) hL dL_law_701 ?_
  refine st_X9_marks B hsc h3 _ (Nat.le_of_ble_eq_true rfl) (fun r5 ws6 f8 h7 => ?_)
  refine n_pop B dL_law_705 rfl ?_
  refine n_goto (tgt := 1454) B dL_law_706 rfl ?_
  exact kk _ _ _ h7
set_option maxHeartbeats 4000000 in
set_option maxRecDepth 100000 in
theorem law_case_15 {p : Program} {l : Launch} {e : Env} {s : State} {m : MethodId} {args : Array Value} {below : List Frame} {meth : Method} {c : Code} {Q : State → Prop} {D : va_G} {g : Nat → ClassId} {A : Nat → Prop} {bo : Nat} {an : Nat → Nat} {ak : Nat → Nat} {bT : Nat} {aa : Nat → Nat} {hT : Nat} {hB : Nat} {ae : Nat → Nat} {ar : Nat → Nat} {bS : Nat} {bV : Nat} {th : Nat → Nat} {as : Nat → Nat} {av : Nat → Nat} {b : Nat → Nat} {sb L k : Nat} {xs : Nat → Int32} (B : Bs p s m args meth c D vwCl (TY g) A 4 cL_law RL) (hsc : sc D A s s.heap) (hX : va_X sb L xs s s.heap) (hbl : sb < s.heap.size) (hbA : ¬ A sb) (hL : L ≤ 320) (hk : k + 5 ≤ L) {t : Nat} {S : MS} {ws : va_W} (h : LW g bo an ak bT aa hT hB ae ar bS bV th as av b t t S S ws) (kk : ∀ (t : Nat) (S : MS) (ws' : va_W), LW g bo an ak bT aa hT hB ae ar bS bV th as av b t t S S ws' → Nx p l e room_1 s m args below meth c D vwCl A 4 99 2467 Q 1454 [(0, .ref sb), (1, .ref bo), (2, .ref (b 0)), (3, .int (nI k))] [] ws') : Nx p l e room_1 s m args below meth c D vwCl A 4 99 2467 Q 709 [(0, .ref sb), (1, .ref bo), (2, .ref (b 0)), (3, .int (nI k))] [] ws := by
  refine n_aload_n B dL_law_709 rfl 1 rfl ?_
  refine n_aload_n B dL_law_710 rfl 0 rfl ?_
  refine n_iload_n B dL_law_711 rfl 3 rfl ?_
  refine n_iconst B dL_law_712 ic_1 ?_
  refine n_iaddE B dL_law_713 (nI_add k 1) ?_
  refine n_sldN B hX hbl hbA (by omega) hL dL_law_714 ?_
  refine st_X8_wrong B hsc h _ (Nat.le_of_ble_eq_true rfl) (fun r1 ws2 f4 h3 => ?_)
  refine n_pop B dL_law_718 rfl ?_
  refine n_aload_n B dL_law_719 rfl 2 rfl ?_
  refine n_aload_n B dL_law_720 rfl 0 rfl ?_
  refine n_iload_n B dL_law_721 rfl 3 rfl ?_
  refine n_iconst B dL_law_722 ic_1 ?_
  refine n_iaddE B dL_law_723 (nI_add k 1) ?_
  refine n_sldN B hX hbl hbA (by omega) hL dL_law_724 ?_
  refine st_X9_wrong B hsc h3 _ (Nat.le_of_ble_eq_true rfl) (fun r5 ws6 f8 h7 => ?_)
  refine n_pop B dL_law_728 rfl ?_
  refine n_goto (tgt := 1454) B dL_law_729 rfl ?_
  exact kk _ _ _ h7
set_option maxHeartbeats 4000000 in
set_option maxRecDepth 100000 in
theorem law_case_16 {p : Program} {l : Launch} {e : Env} {s : State} {m : MethodId} {args : Array Value} {below : List Frame} {meth : Method} {c : Code} {Q : State → Prop} {D : va_G} {g : Nat → ClassId} {A : Nat → Prop} {bo : Nat} {an : Nat → Nat} {ak : Nat → Nat} {bT : Nat} {aa : Nat → Nat} {hT : Nat} {hB : Nat} {ae : Nat → Nat} {ar : Nat → Nat} {bS : Nat} {bV : Nat} {th : Nat → Nat} {as : Nat → Nat} {av : Nat → Nat} {b : Nat → Nat} {sb L k : Nat} {xs : Nat → Int32} (B : Bs p s m args meth c D vwCl (TY g) A 4 cL_law RL) (hsc : sc D A s s.heap) (hX : va_X sb L xs s s.heap) (hbl : sb < s.heap.size) (hbA : ¬ A sb) (hL : L ≤ 320) (hk : k + 5 ≤ L) {t : Nat} {S : MS} {ws : va_W} (h : LW g bo an ak bT aa hT hB ae ar bS bV th as av b t t S S ws) (kk : ∀ (t : Nat) (S : MS) (ws' : va_W), LW g bo an ak bT aa hT hB ae ar bS bV th as av b t t S S ws' → Nx p l e room_1 s m args below meth c D vwCl A 4 99 2467 Q 1454 [(0, .ref sb), (1, .ref bo), (2, .ref (b 0)), (3, .int (nI k))] [] ws') : Nx p l e room_1 s m args below meth c D vwCl A 4 99 2467 Q 732 [(0, .ref sb), (1, .ref bo), (2, .ref (b 0)), (3, .int (nI k))] [] ws := by
  refine n_aload_n B dL_law_732 rfl 1 rfl ?_
  refine n_aload_n B dL_law_733 rfl 0 rfl ?_
  refine n_iload_n B dL_law_734 rfl 3 rfl ?_
  refine n_iconst B dL_law_735 ic_1 ?_
  refine n_iaddE B dL_law_736 (nI_add k 1) ?_
  refine n_sldN B hX hbl hbA (by omega) hL dL_law_737 ?_
  refine st_X8_longest B hsc h _ (Nat.le_of_ble_eq_true rfl) (fun r1 ws2 f4 h3 => ?_)
  refine n_pop B dL_law_741 rfl ?_
  refine n_aload_n B dL_law_742 rfl 2 rfl ?_
  refine n_aload_n B dL_law_743 rfl 0 rfl ?_
  refine n_iload_n B dL_law_744 rfl 3 rfl ?_
  refine n_iconst B dL_law_745 ic_1 ?_
  refine n_iaddE B dL_law_746 (nI_add k 1) ?_
  refine n_sldN B hX hbl hbA (by omega) hL dL_law_747 ?_
  refine st_X9_longest B hsc h3 _ (Nat.le_of_ble_eq_true rfl) (fun r5 ws6 f8 h7 => ?_)
  refine n_pop B dL_law_751 rfl ?_
  refine n_goto (tgt := 1454) B dL_law_752 rfl ?_
  exact kk _ _ _ h7
set_option maxHeartbeats 4000000 in
set_option maxRecDepth 100000 in
theorem law_case_17 {p : Program} {l : Launch} {e : Env} {s : State} {m : MethodId} {args : Array Value} {below : List Frame} {meth : Method} {c : Code} {Q : State → Prop} {D : va_G} {g : Nat → ClassId} {A : Nat → Prop} {bo : Nat} {an : Nat → Nat} {ak : Nat → Nat} {bT : Nat} {aa : Nat → Nat} {hT : Nat} {hB : Nat} {ae : Nat → Nat} {ar : Nat → Nat} {bS : Nat} {bV : Nat} {th : Nat → Nat} {as : Nat → Nat} {av : Nat → Nat} {b : Nat → Nat} {sb L k : Nat} {xs : Nat → Int32} (B : Bs p s m args meth c D vwCl (TY g) A 4 cL_law RL) (hsc : sc D A s s.heap) (hX : va_X sb L xs s s.heap) (hbl : sb < s.heap.size) (hbA : ¬ A sb) (hL : L ≤ 320) (hk : k + 5 ≤ L) {t : Nat} {S : MS} {ws : va_W} (h : LW g bo an ak bT aa hT hB ae ar bS bV th as av b t t S S ws) (kk : ∀ (t : Nat) (S : MS) (ws' : va_W), LW g bo an ak bT aa hT hB ae ar bS bV th as av b t t S S ws' → Nx p l e room_1 s m args below meth c D vwCl A 4 99 2467 Q 1454 [(0, .ref sb), (1, .ref bo), (2, .ref (b 0)), (3, .int (nI k))] [] ws') : Nx p l e room_1 s m args below meth c D vwCl A 4 99 2467 Q 755 [(0, .ref sb), (1, .ref bo), (2, .ref (b 0)), (3, .int (nI k))] [] ws := by
  refine n_aload_n B dL_law_755 rfl 1 rfl ?_
  refine n_aload_n B dL_law_756 rfl 0 rfl ?_
  refine n_iload_n B dL_law_757 rfl 3 rfl ?_
  refine n_iconst B dL_law_758 ic_1 ?_
  refine n_iaddE B dL_law_759 (nI_add k 1) ?_
  refine n_sldN B hX hbl hbA (by omega) hL dL_law_760 ?_
  refine st_X8_there B hsc h _ (Nat.le_of_ble_eq_true rfl) (fun r1 ws2 f4 h3 => ?_)
  refine n_pop B dL_law_764 rfl ?_
  refine n_aload_n B dL_law_765 rfl 2 rfl ?_
  refine n_aload_n B dL_law_766 rfl 0 rfl ?_
  refine n_iload_n B dL_law_767 rfl 3 rfl ?_
  refine n_iconst B dL_law_768 ic_1 ?_
  refine n_iaddE B dL_law_769 (nI_add k 1) ?_
  refine n_sldN B hX hbl hbA (by omega) hL dL_law_770 ?_
  refine st_X9_there B hsc h3 _ (Nat.le_of_ble_eq_true rfl) (fun r5 ws6 f8 h7 => ?_)
  refine n_pop B dL_law_774 rfl ?_
  refine n_goto (tgt := 1454) B dL_law_775 rfl ?_
  exact kk _ _ _ h7
set_option maxHeartbeats 4000000 in
set_option maxRecDepth 100000 in
theorem law_case_18 {p : Program} {l : Launch} {e : Env} {s : State} {m : MethodId} {args : Array Value} {below : List Frame} {meth : Method} {c : Code} {Q : State → Prop} {D : va_G} {g : Nat → ClassId} {A : Nat → Prop} {bo : Nat} {an : Nat → Nat} {ak : Nat → Nat} {bT : Nat} {aa : Nat → Nat} {hT : Nat} {hB : Nat} {ae : Nat → Nat} {ar : Nat → Nat} {bS : Nat} {bV : Nat} {th : Nat → Nat} {as : Nat → Nat} {av : Nat → Nat} {b : Nat → Nat} {sb L k : Nat} {xs : Nat → Int32} (B : Bs p s m args meth c D vwCl (TY g) A 4 cL_law RL) (hsc : sc D A s s.heap) (hX : va_X sb L xs s s.heap) (hbl : sb < s.heap.size) (hbA : ¬ A sb) (hL : L ≤ 320) (hk : k + 5 ≤ L) {t : Nat} {S : MS} {ws : va_W} (h : LW g bo an ak bT aa hT hB ae ar bS bV th as av b t t S S ws) (kk : ∀ (t : Nat) (S : MS) (ws' : va_W), LW g bo an ak bT aa hT hB ae ar bS bV th as av b t t S S ws' → Nx p l e room_1 s m args below meth c D vwCl A 4 99 2467 Q 1454 [(0, .ref sb), (1, .ref bo), (2, .ref (b 0)), (3, .int (nI k))] [] ws') : Nx p l e room_1 s m args below meth c D vwCl A 4 99 2467 Q 778 [(0, .ref sb), (1, .ref bo), (2, .ref (b 0)), (3, .int (nI k))] [] ws := by
  refine n_aload_n B dL_law_778 rfl 1 rfl ?_
  refine n_aload_n B dL_law_779 rfl 0 rfl ?_
  refine n_iload_n B dL_law_780 rfl 3 rfl ?_
  refine n_iconst B dL_law_781 ic_1 ?_
  refine n_iaddE B dL_law_782 (nI_add k 1) ?_
  refine n_sldN B hX hbl hbA (by omega) hL dL_law_783 ?_
  refine n_aload_n B dL_law_784 rfl 0 rfl ?_
  refine n_iload_n B dL_law_785 rfl 3 rfl ?_
  refine n_iconst B dL_law_786 ic_2 ?_
  refine n_iaddE B dL_law_787 (nI_add k 2) ?_
  refine n_sldN B hX hbl hbA (by omega) hL dL_law_788 ?_
  refine n_aload_n B dL_law_789 rfl 0 rfl ?_
  refine n_iload_n B dL_law_790 rfl 3 rfl ?_
  refine n_iconst B dL_law_791 ic_3 ?_
  refine n_iaddE B dL_law_792 (nI_add k 3) ?_
  refine n_sldN B hX hbl hbA (by omega) hL dL_law_793 ?_
  refine st_X8_round B hsc h _ _ _ (Nat.le_of_ble_eq_true rfl) (fun r1 ws2 f4 h3 => ?_)
  refine n_pop B dL_law_797 rfl ?_
  refine n_aload_n B dL_law_798 rfl 2 rfl ?_
  refine n_aload_n B dL_law_799 rfl 0 rfl ?_
  refine n_iload_n B dL_law_800 rfl 3 rfl ?_
  refine n_iconst B dL_law_801 ic_1 ?_
  refine n_iaddE B dL_law_802 (nI_add k 1) ?_
  refine n_sldN B hX hbl hbA (by omega) hL dL_law_803 ?_
  refine n_aload_n B dL_law_804 rfl 0 rfl ?_
  refine n_iload_n B dL_law_805 rfl 3 rfl ?_
  refine n_iconst B dL_law_806 ic_2 ?_
  refine n_iaddE B dL_law_807 (nI_add k 2) ?_
  refine n_sldN B hX hbl hbA (by omega) hL dL_law_808 ?_
  refine n_aload_n B dL_law_809 rfl 0 rfl ?_
  refine n_iload_n B dL_law_810 rfl 3 rfl ?_
  refine n_iconst B dL_law_811 ic_3 ?_
  refine n_iaddE B dL_law_812 (nI_add k 3) ?_
  refine n_sldN B hX hbl hbA (by omega) hL dL_law_813 ?_
  refine st_X9_round B hsc h3 _ _ _ (Nat.le_of_ble_eq_true rfl) (fun r5 ws6 f8 h7 => ?_)
  refine n_pop B dL_law_817 rfl ?_
  refine n_goto (tgt := 1454) B dL_law_818 rfl ?_
  exact kk _ _ _ h7
set_option maxHeartbeats 4000000 in
set_option maxRecDepth 100000 in
theorem law_case_19 {p : Program} {l : Launch} {e : Env} {s : State} {m : MethodId} {args : Array Value} {below : List Frame} {meth : Method} {c : Code} {Q : State → Prop} {D : va_G} {g : Nat → ClassId} {A : Nat → Prop} {bo : Nat} {an : Nat → Nat} {ak : Nat → Nat} {bT : Nat} {aa : Nat → Nat} {hT : Nat} {hB : Nat} {ae : Nat → Nat} {ar : Nat → Nat} {bS : Nat} {bV : Nat} {th : Nat → Nat} {as : Nat → Nat} {av : Nat → Nat} {b : Nat → Nat} {sb L k : Nat} {xs : Nat → Int32} (B : Bs p s m args meth c D vwCl (TY g) A 4 cL_law RL) (hsc : sc D A s s.heap) (hX : va_X sb L xs s s.heap) (hbl : sb < s.heap.size) (hbA : ¬ A sb) (hL : L ≤ 320) (hk : k + 5 ≤ L) {t : Nat} {S : MS} {ws : va_W} (h : LW g bo an ak bT aa hT hB ae ar bS bV th as av b t t S S ws) (kk : ∀ (t : Nat) (S : MS) (ws' : va_W), LW g bo an ak bT aa hT hB ae ar bS bV th as av b t t S S ws' → Nx p l e room_1 s m args below meth c D vwCl A 4 99 2467 Q 1454 [(0, .ref sb), (1, .ref bo), (2, .ref (b 0)), (3, .int (nI k))] [] ws') : Nx p l e room_1 s m args below meth c D vwCl A 4 99 2467 Q 821 [(0, .ref sb), (1, .ref bo), (2, .ref (b 0)), (3, .int (nI k))] [] ws := by
  refine n_aload_n B dL_law_821 rfl 1 rfl ?_
  refine n_aload_n B dL_law_822 rfl 0 rfl ?_
  refine n_iload_n B dL_law_823 rfl 3 rfl ?_
  refine n_iconst B dL_law_824 ic_1 ?_
  refine n_iaddE B dL_law_825 (nI_add k 1) ?_
  refine n_sldN B hX hbl hbA (by omega) hL dL_law_826 ?_
  refine st_X8_good B hsc h _ (Nat.le_of_ble_eq_true rfl) (fun r1 ws2 f4 h3 => ?_)
  refine n_pop B dL_law_830 rfl ?_
  refine n_aload_n B dL_law_831 rfl 2 rfl ?_
  refine n_aload_n B dL_law_832 rfl 0 rfl ?_
  refine n_iload_n B dL_law_833 rfl 3 rfl ?_
  refine n_iconst B dL_law_834 ic_1 ?_
  refine n_iaddE B dL_law_835 (nI_add k 1) ?_
  refine n_sldN B hX hbl hbA (by omega) hL dL_law_836 ?_
  refine st_X9_good B hsc h3 _ (Nat.le_of_ble_eq_true rfl) (fun r5 ws6 f8 h7 => ?_)
  refine n_pop B dL_law_840 rfl ?_
  refine n_goto (tgt := 1454) B dL_law_841 rfl ?_
  exact kk _ _ _ h7
set_option maxHeartbeats 4000000 in
set_option maxRecDepth 100000 in
theorem law_case_20 {p : Program} {l : Launch} {e : Env} {s : State} {m : MethodId} {args : Array Value} {below : List Frame} {meth : Method} {c : Code} {Q : State → Prop} {D : va_G} {g : Nat → ClassId} {A : Nat → Prop} {bo : Nat} {an : Nat → Nat} {ak : Nat → Nat} {bT : Nat} {aa : Nat → Nat} {hT : Nat} {hB : Nat} {ae : Nat → Nat} {ar : Nat → Nat} {bS : Nat} {bV : Nat} {th : Nat → Nat} {as : Nat → Nat} {av : Nat → Nat} {b : Nat → Nat} {sb L k : Nat} {xs : Nat → Int32} (B : Bs p s m args meth c D vwCl (TY g) A 4 cL_law RL) (hsc : sc D A s s.heap) (hX : va_X sb L xs s s.heap) (hbl : sb < s.heap.size) (hbA : ¬ A sb) (hL : L ≤ 320) (hk : k + 5 ≤ L) {t : Nat} {S : MS} {ws : va_W} (h : LW g bo an ak bT aa hT hB ae ar bS bV th as av b t t S S ws) (kk : ∀ (t : Nat) (S : MS) (ws' : va_W), LW g bo an ak bT aa hT hB ae ar bS bV th as av b t t S S ws' → Nx p l e room_1 s m args below meth c D vwCl A 4 99 2467 Q 1454 [(0, .ref sb), (1, .ref bo), (2, .ref (b 0)), (3, .int (nI k))] [] ws') : Nx p l e room_1 s m args below meth c D vwCl A 4 99 2467 Q 844 [(0, .ref sb), (1, .ref bo), (2, .ref (b 0)), (3, .int (nI k))] [] ws := by
  refine n_aload_n B dL_law_844 rfl 1 rfl ?_
  refine n_aload_n B dL_law_845 rfl 0 rfl ?_
  refine n_iload_n B dL_law_846 rfl 3 rfl ?_
  refine n_iconst B dL_law_847 ic_1 ?_
  refine n_iaddE B dL_law_848 (nI_add k 1) ?_
  refine n_sldN B hX hbl hbA (by omega) hL dL_law_849 ?_
  refine n_aload_n B dL_law_850 rfl 0 rfl ?_
  refine n_iload_n B dL_law_851 rfl 3 rfl ?_
  refine n_iconst B dL_law_852 ic_2 ?_
  refine n_iaddE B dL_law_853 (nI_add k 2) ?_
  refine n_sldN B hX hbl hbA (by omega) hL dL_law_854 ?_
  refine n_aload_n B dL_law_855 rfl 0 rfl ?_
  refine n_iload_n B dL_law_856 rfl 3 rfl ?_
  refine n_iconst B dL_law_857 ic_3 ?_
  refine n_iaddE B dL_law_858 (nI_add k 3) ?_
  refine n_sldN B hX hbl hbA (by omega) hL dL_law_859 ?_
  refine st_X8_meet B hsc h _ _ _ (Nat.le_of_ble_eq_true rfl) (fun r1 ws2 f4 h3 => ?_)
  refine n_pop B dL_law_863 rfl ?_
  refine n_aload_n B dL_law_864 rfl 2 rfl ?_
  refine n_aload_n B dL_law_865 rfl 0 rfl ?_
  refine n_iload_n B dL_law_866 rfl 3 rfl ?_
  refine n_iconst B dL_law_867 ic_1 ?_
  refine n_iaddE B dL_law_868 (nI_add k 1) ?_
  refine n_sldN B hX hbl hbA (by omega) hL dL_law_869 ?_
  refine n_aload_n B dL_law_870 rfl 0 rfl ?_
  refine n_iload_n B dL_law_871 rfl 3 rfl ?_
  refine n_iconst B dL_law_872 ic_2 ?_
  refine n_iaddE B dL_law_873 (nI_add k 2) ?_
  refine n_sldN B hX hbl hbA (by omega) hL dL_law_874 ?_
  refine n_aload_n B dL_law_875 rfl 0 rfl ?_
  refine n_iload_n B dL_law_876 rfl 3 rfl ?_
  refine n_iconst B dL_law_877 ic_3 ?_
  refine n_iaddE B dL_law_878 (nI_add k 3) ?_
  refine n_sldN B hX hbl hbA (by omega) hL dL_law_879 ?_
  refine st_X9_meet B hsc h3 _ _ _ (Nat.le_of_ble_eq_true rfl) (fun r5 ws6 f8 h7 => ?_)
  refine n_pop B dL_law_883 rfl ?_
  refine n_goto (tgt := 1454) B dL_law_884 rfl ?_
  exact kk _ _ _ h7
set_option maxHeartbeats 4000000 in
set_option maxRecDepth 100000 in
theorem law_case_21 {p : Program} {l : Launch} {e : Env} {s : State} {m : MethodId} {args : Array Value} {below : List Frame} {meth : Method} {c : Code} {Q : State → Prop} {D : va_G} {g : Nat → ClassId} {A : Nat → Prop} {bo : Nat} {an : Nat → Nat} {ak : Nat → Nat} {bT : Nat} {aa : Nat → Nat} {hT : Nat} {hB : Nat} {ae : Nat → Nat} {ar : Nat → Nat} {bS : Nat} {bV : Nat} {th : Nat → Nat} {as : Nat → Nat} {av : Nat → Nat} {b : Nat → Nat} {sb L k : Nat} {xs : Nat → Int32} (B : Bs p s m args meth c D vwCl (TY g) A 4 cL_law RL) (hsc : sc D A s s.heap) (hX : va_X sb L xs s s.heap) (hbl : sb < s.heap.size) (hbA : ¬ A sb) (hL : L ≤ 320) (hk : k + 5 ≤ L) {t : Nat} {S : MS} {ws : va_W} (h : LW g bo an ak bT aa hT hB ae ar bS bV th as av b t t S S ws) (kk : ∀ (t : Nat) (S : MS) (ws' : va_W), LW g bo an ak bT aa hT hB ae ar bS bV th as av b t t S S ws' → Nx p l e room_1 s m args below meth c D vwCl A 4 99 2467 Q 1454 [(0, .ref sb), (1, .ref bo), (2, .ref (b 0)), (3, .int (nI k))] [] ws') : Nx p l e room_1 s m args below meth c D vwCl A 4 99 2467 Q 887 [(0, .ref sb), (1, .ref bo), (2, .ref (b 0)), (3, .int (nI k))] [] ws := by
  refine n_aload_n B dL_law_887 rfl 1 rfl ?_
  refine n_aload_n B dL_law_888 rfl 0 rfl ?_
  refine n_iload_n B dL_law_889 rfl 3 rfl ?_
  refine n_iconst B dL_law_890 ic_1 ?_
  refine n_iaddE B dL_law_891 (nI_add k 1) ?_
  refine n_sldN B hX hbl hbA (by omega) hL dL_law_892 ?_
  refine st_X8_least B hsc h _ (Nat.le_of_ble_eq_true rfl) (fun r1 ws2 f4 h3 => ?_)
  refine n_pop B dL_law_896 rfl ?_
  refine n_aload_n B dL_law_897 rfl 2 rfl ?_
  refine n_aload_n B dL_law_898 rfl 0 rfl ?_
  refine n_iload_n B dL_law_899 rfl 3 rfl ?_
  refine n_iconst B dL_law_900 ic_1 ?_
  refine n_iaddE B dL_law_901 (nI_add k 1) ?_
  refine n_sldN B hX hbl hbA (by omega) hL dL_law_902 ?_
  refine st_X9_least B hsc h3 _ (Nat.le_of_ble_eq_true rfl) (fun r5 ws6 f8 h7 => ?_)
  refine n_pop B dL_law_906 rfl ?_
  refine n_goto (tgt := 1454) B dL_law_907 rfl ?_
  exact kk _ _ _ h7
set_option maxHeartbeats 4000000 in
set_option maxRecDepth 100000 in
theorem law_case_22 {p : Program} {l : Launch} {e : Env} {s : State} {m : MethodId} {args : Array Value} {below : List Frame} {meth : Method} {c : Code} {Q : State → Prop} {D : va_G} {g : Nat → ClassId} {A : Nat → Prop} {bo : Nat} {an : Nat → Nat} {ak : Nat → Nat} {bT : Nat} {aa : Nat → Nat} {hT : Nat} {hB : Nat} {ae : Nat → Nat} {ar : Nat → Nat} {bS : Nat} {bV : Nat} {th : Nat → Nat} {as : Nat → Nat} {av : Nat → Nat} {b : Nat → Nat} {sb L k : Nat} {xs : Nat → Int32} (B : Bs p s m args meth c D vwCl (TY g) A 4 cL_law RL) (hsc : sc D A s s.heap) (hX : va_X sb L xs s s.heap) (hbl : sb < s.heap.size) (hbA : ¬ A sb) (hL : L ≤ 320) (hk : k + 5 ≤ L) {t : Nat} {S : MS} {ws : va_W} (h : LW g bo an ak bT aa hT hB ae ar bS bV th as av b t t S S ws) (kk : ∀ (t : Nat) (S : MS) (ws' : va_W), LW g bo an ak bT aa hT hB ae ar bS bV th as av b t t S S ws' → Nx p l e room_1 s m args below meth c D vwCl A 4 99 2467 Q 1454 [(0, .ref sb), (1, .ref bo), (2, .ref (b 0)), (3, .int (nI k))] [] ws') : Nx p l e room_1 s m args below meth c D vwCl A 4 99 2467 Q 910 [(0, .ref sb), (1, .ref bo), (2, .ref (b 0)), (3, .int (nI k))] [] ws := by
  refine n_aload_n B dL_law_910 rfl 1 rfl ?_
  refine n_aload_n B dL_law_911 rfl 0 rfl ?_
  refine n_iload_n B dL_law_912 rfl 3 rfl ?_
  refine n_iconst B dL_law_913 ic_1 ?_
  refine n_iaddE B dL_law_914 (nI_add k 1) ?_
  refine n_sldN B hX hbl hbA (by omega) hL dL_law_915 ?_
  refine st_X8_fits B hsc h _ (Nat.le_of_ble_eq_true rfl) (fun r1 ws2 f4 h3 => ?_)
  refine n_pop B dL_law_919 rfl ?_
  refine n_aload_n B dL_law_920 rfl 2 rfl ?_
  refine n_aload_n B dL_law_921 rfl 0 rfl ?_
  refine n_iload_n B dL_law_922 rfl 3 rfl ?_
  refine n_iconst B dL_law_923 ic_1 ?_
  refine n_iaddE B dL_law_924 (nI_add k 1) ?_
  refine n_sldN B hX hbl hbA (by omega) hL dL_law_925 ?_
  refine st_X9_fits B hsc h3 _ (Nat.le_of_ble_eq_true rfl) (fun r5 ws6 f8 h7 => ?_)
  refine n_pop B dL_law_929 rfl ?_
  refine n_goto (tgt := 1454) B dL_law_930 rfl ?_
  exact kk _ _ _ h7
set_option maxHeartbeats 4000000 in
set_option maxRecDepth 100000 in
theorem law_case_23 {p : Program} {l : Launch} {e : Env} {s : State} {m : MethodId} {args : Array Value} {below : List Frame} {meth : Method} {c : Code} {Q : State → Prop} {D : va_G} {g : Nat → ClassId} {A : Nat → Prop} {bo : Nat} {an : Nat → Nat} {ak : Nat → Nat} {bT : Nat} {aa : Nat → Nat} {hT : Nat} {hB : Nat} {ae : Nat → Nat} {ar : Nat → Nat} {bS : Nat} {bV : Nat} {th : Nat → Nat} {as : Nat → Nat} {av : Nat → Nat} {b : Nat → Nat} {sb L k : Nat} {xs : Nat → Int32} (B : Bs p s m args meth c D vwCl (TY g) A 4 cL_law RL) (hsc : sc D A s s.heap) (hX : va_X sb L xs s s.heap) (hbl : sb < s.heap.size) (hbA : ¬ A sb) (hL : L ≤ 320) (hk : k + 5 ≤ L) {t : Nat} {S : MS} {ws : va_W} (h : LW g bo an ak bT aa hT hB ae ar bS bV th as av b t t S S ws) (kk : ∀ (t : Nat) (S : MS) (ws' : va_W), LW g bo an ak bT aa hT hB ae ar bS bV th as av b t t S S ws' → Nx p l e room_1 s m args below meth c D vwCl A 4 99 2467 Q 1454 [(0, .ref sb), (1, .ref bo), (2, .ref (b 0)), (3, .int (nI k))] [] ws') : Nx p l e room_1 s m args below meth c D vwCl A 4 99 2467 Q 933 [(0, .ref sb), (1, .ref bo), (2, .ref (b 0)), (3, .int (nI k))] [] ws := by
  refine n_aload_n B dL_law_933 rfl 1 rfl ?_
  refine n_aload_n B dL_law_934 rfl 0 rfl ?_
  refine n_iload_n B dL_law_935 rfl 3 rfl ?_
  refine n_iconst B dL_law_936 ic_1 ?_
  refine n_iaddE B dL_law_937 (nI_add k 1) ?_
  refine n_sldN B hX hbl hbA (by omega) hL dL_law_938 ?_
  refine st_X8_seed B hsc h _ (Nat.le_of_ble_eq_true rfl) (fun r1 ws2 f4 h3 => ?_)
  refine n_pop B dL_law_942 rfl ?_
  refine n_aload_n B dL_law_943 rfl 2 rfl ?_
  refine n_aload_n B dL_law_944 rfl 0 rfl ?_
  refine n_iload_n B dL_law_945 rfl 3 rfl ?_
  refine n_iconst B dL_law_946 ic_1 ?_
  refine n_iaddE B dL_law_947 (nI_add k 1) ?_
  refine n_sldN B hX hbl hbA (by omega) hL dL_law_948 ?_
  refine st_X9_seed B hsc h3 _ (Nat.le_of_ble_eq_true rfl) (fun r5 ws6 f8 h7 => ?_)
  refine n_pop B dL_law_952 rfl ?_
  refine n_goto (tgt := 1454) B dL_law_953 rfl ?_
  exact kk _ _ _ h7
set_option maxHeartbeats 4000000 in
set_option maxRecDepth 100000 in
theorem law_case_24 {p : Program} {l : Launch} {e : Env} {s : State} {m : MethodId} {args : Array Value} {below : List Frame} {meth : Method} {c : Code} {Q : State → Prop} {D : va_G} {g : Nat → ClassId} {A : Nat → Prop} {bo : Nat} {an : Nat → Nat} {ak : Nat → Nat} {bT : Nat} {aa : Nat → Nat} {hT : Nat} {hB : Nat} {ae : Nat → Nat} {ar : Nat → Nat} {bS : Nat} {bV : Nat} {th : Nat → Nat} {as : Nat → Nat} {av : Nat → Nat} {b : Nat → Nat} {sb L k : Nat} {xs : Nat → Int32} (B : Bs p s m args meth c D vwCl (TY g) A 4 cL_law RL) (hsc : sc D A s s.heap) (hX : va_X sb L xs s s.heap) (hbl : sb < s.heap.size) (hbA : ¬ A sb) (hL : L ≤ 320) (hk : k + 5 ≤ L) {t : Nat} {S : MS} {ws : va_W} (h : LW g bo an ak bT aa hT hB ae ar bS bV th as av b t t S S ws) (kk : ∀ (t : Nat) (S : MS) (ws' : va_W), LW g bo an ak bT aa hT hB ae ar bS bV th as av b t t S S ws' → Nx p l e room_1 s m args below meth c D vwCl A 4 99 2467 Q 1454 [(0, .ref sb), (1, .ref bo), (2, .ref (b 0)), (3, .int (nI k))] [] ws') : Nx p l e room_1 s m args below meth c D vwCl A 4 99 2467 Q 956 [(0, .ref sb), (1, .ref bo), (2, .ref (b 0)), (3, .int (nI k))] [] ws := by
  refine n_aload_n B dL_law_956 rfl 1 rfl ?_
  refine st_X8_draw B hsc h (Nat.le_of_ble_eq_true rfl) (fun r1 ws2 h3 => ?_)
  refine n_pop B dL_law_960 rfl ?_
  refine n_aload_n B dL_law_961 rfl 2 rfl ?_
  refine st_X9_draw B hsc h3 (Nat.le_of_ble_eq_true rfl) (fun r4 ws5 h6 => ?_)
  refine n_pop B dL_law_965 rfl ?_
  refine n_goto (tgt := 1454) B dL_law_966 rfl ?_
  exact kk _ _ _ h6
set_option maxHeartbeats 4000000 in
set_option maxRecDepth 100000 in
theorem law_case_25 {p : Program} {l : Launch} {e : Env} {s : State} {m : MethodId} {args : Array Value} {below : List Frame} {meth : Method} {c : Code} {Q : State → Prop} {D : va_G} {g : Nat → ClassId} {A : Nat → Prop} {bo : Nat} {an : Nat → Nat} {ak : Nat → Nat} {bT : Nat} {aa : Nat → Nat} {hT : Nat} {hB : Nat} {ae : Nat → Nat} {ar : Nat → Nat} {bS : Nat} {bV : Nat} {th : Nat → Nat} {as : Nat → Nat} {av : Nat → Nat} {b : Nat → Nat} {sb L k : Nat} {xs : Nat → Int32} (B : Bs p s m args meth c D vwCl (TY g) A 4 cL_law RL) (hsc : sc D A s s.heap) (hX : va_X sb L xs s s.heap) (hbl : sb < s.heap.size) (hbA : ¬ A sb) (hL : L ≤ 320) (hk : k + 5 ≤ L) {t : Nat} {S : MS} {ws : va_W} (h : LW g bo an ak bT aa hT hB ae ar bS bV th as av b t t S S ws) (kk : ∀ (t : Nat) (S : MS) (ws' : va_W), LW g bo an ak bT aa hT hB ae ar bS bV th as av b t t S S ws' → Nx p l e room_1 s m args below meth c D vwCl A 4 99 2467 Q 1454 [(0, .ref sb), (1, .ref bo), (2, .ref (b 0)), (3, .int (nI k))] [] ws') : Nx p l e room_1 s m args below meth c D vwCl A 4 99 2467 Q 969 [(0, .ref sb), (1, .ref bo), (2, .ref (b 0)), (3, .int (nI k))] [] ws := by
  refine n_aload_n B dL_law_969 rfl 1 rfl ?_
  refine n_aload_n B dL_law_970 rfl 0 rfl ?_
  refine n_iload_n B dL_law_971 rfl 3 rfl ?_
  refine n_iconst B dL_law_972 ic_1 ?_
  refine n_iaddE B dL_law_973 (nI_add k 1) ?_
  refine n_sldN B hX hbl hbA (by omega) hL dL_law_974 ?_
  refine st_X8_prove B hsc h _ (Nat.le_of_ble_eq_true rfl) (fun r1 ws2 f4 h3 => ?_)
  refine n_pop B dL_law_978 rfl ?_
  refine n_aload_n B dL_law_979 rfl 2 rfl ?_
  refine n_aload_n B dL_law_980 rfl 0 rfl ?_
  refine n_iload_n B dL_law_981 rfl 3 rfl ?_
  refine n_iconst B dL_law_982 ic_1 ?_
  refine n_iaddE B dL_law_983 (nI_add k 1) ?_
  refine n_sldN B hX hbl hbA (by omega) hL dL_law_984 ?_
  refine st_X9_prove B hsc h3 _ (Nat.le_of_ble_eq_true rfl) (fun r5 ws6 f8 h7 => ?_)
  refine n_pop B dL_law_988 rfl ?_
  refine n_goto (tgt := 1454) B dL_law_989 rfl ?_
  exact kk _ _ _ h7
set_option maxHeartbeats 4000000 in
set_option maxRecDepth 100000 in
theorem law_case_26 {p : Program} {l : Launch} {e : Env} {s : State} {m : MethodId} {args : Array Value} {below : List Frame} {meth : Method} {c : Code} {Q : State → Prop} {D : va_G} {g : Nat → ClassId} {A : Nat → Prop} {bo : Nat} {an : Nat → Nat} {ak : Nat → Nat} {bT : Nat} {aa : Nat → Nat} {hT : Nat} {hB : Nat} {ae : Nat → Nat} {ar : Nat → Nat} {bS : Nat} {bV : Nat} {th : Nat → Nat} {as : Nat → Nat} {av : Nat → Nat} {b : Nat → Nat} {sb L k : Nat} {xs : Nat → Int32} (B : Bs p s m args meth c D vwCl (TY g) A 4 cL_law RL) (hsc : sc D A s s.heap) (hX : va_X sb L xs s s.heap) (hbl : sb < s.heap.size) (hbA : ¬ A sb) (hL : L ≤ 320) (hk : k + 5 ≤ L) {t : Nat} {S : MS} {ws : va_W} (h : LW g bo an ak bT aa hT hB ae ar bS bV th as av b t t S S ws) (kk : ∀ (t : Nat) (S : MS) (ws' : va_W), LW g bo an ak bT aa hT hB ae ar bS bV th as av b t t S S ws' → Nx p l e room_1 s m args below meth c D vwCl A 4 99 2467 Q 1454 [(0, .ref sb), (1, .ref bo), (2, .ref (b 0)), (3, .int (nI k))] [] ws') : Nx p l e room_1 s m args below meth c D vwCl A 4 99 2467 Q 992 [(0, .ref sb), (1, .ref bo), (2, .ref (b 0)), (3, .int (nI k))] [] ws := by
  refine n_aload_n B dL_law_992 rfl 1 rfl ?_
  refine n_aload_n B dL_law_993 rfl 0 rfl ?_
  refine n_iload_n B dL_law_994 rfl 3 rfl ?_
  refine n_iconst B dL_law_995 ic_1 ?_
  refine n_iaddE B dL_law_996 (nI_add k 1) ?_
  refine n_sldN B hX hbl hbA (by omega) hL dL_law_997 ?_
  refine n_aload_n B dL_law_998 rfl 0 rfl ?_
  refine n_iload_n B dL_law_999 rfl 3 rfl ?_
  refine n_iconst B dL_law_1000 ic_2 ?_
  refine n_iaddE B dL_law_1001 (nI_add k 2) ?_
  refine n_sldN B hX hbl hbA (by omega) hL dL_law_1002 ?_
  refine st_X8_row B hsc h _ _ (Nat.le_of_ble_eq_true rfl) (fun r1 ws2 f4 h3 => ?_)
  refine n_pop B dL_law_1006 rfl ?_
  refine n_aload_n B dL_law_1007 rfl 2 rfl ?_
  refine n_aload_n B dL_law_1008 rfl 0 rfl ?_
  refine n_iload_n B dL_law_1009 rfl 3 rfl ?_
  refine n_iconst B dL_law_1010 ic_1 ?_
  refine n_iaddE B dL_law_1011 (nI_add k 1) ?_
  refine n_sldN B hX hbl hbA (by omega) hL dL_law_1012 ?_
  refine n_aload_n B dL_law_1013 rfl 0 rfl ?_
  refine n_iload_n B dL_law_1014 rfl 3 rfl ?_
  refine n_iconst B dL_law_1015 ic_2 ?_
  refine n_iaddE B dL_law_1016 (nI_add k 2) ?_
  refine n_sldN B hX hbl hbA (by omega) hL dL_law_1017 ?_
  refine st_X9_row B hsc h3 _ _ (Nat.le_of_ble_eq_true rfl) (fun r5 ws6 f8 h7 => ?_)
  refine n_pop B dL_law_1021 rfl ?_
  refine n_goto (tgt := 1454) B dL_law_1022 rfl ?_
  exact kk _ _ _ h7
set_option maxHeartbeats 4000000 in
set_option maxRecDepth 100000 in
theorem law_case_27 {p : Program} {l : Launch} {e : Env} {s : State} {m : MethodId} {args : Array Value} {below : List Frame} {meth : Method} {c : Code} {Q : State → Prop} {D : va_G} {g : Nat → ClassId} {A : Nat → Prop} {bo : Nat} {an : Nat → Nat} {ak : Nat → Nat} {bT : Nat} {aa : Nat → Nat} {hT : Nat} {hB : Nat} {ae : Nat → Nat} {ar : Nat → Nat} {bS : Nat} {bV : Nat} {th : Nat → Nat} {as : Nat → Nat} {av : Nat → Nat} {b : Nat → Nat} {sb L k : Nat} {xs : Nat → Int32} (B : Bs p s m args meth c D vwCl (TY g) A 4 cL_law RL) (hsc : sc D A s s.heap) (hX : va_X sb L xs s s.heap) (hbl : sb < s.heap.size) (hbA : ¬ A sb) (hL : L ≤ 320) (hk : k + 5 ≤ L) {t : Nat} {S : MS} {ws : va_W} (h : LW g bo an ak bT aa hT hB ae ar bS bV th as av b t t S S ws) (kk : ∀ (t : Nat) (S : MS) (ws' : va_W), LW g bo an ak bT aa hT hB ae ar bS bV th as av b t t S S ws' → Nx p l e room_1 s m args below meth c D vwCl A 4 99 2467 Q 1454 [(0, .ref sb), (1, .ref bo), (2, .ref (b 0)), (3, .int (nI k))] [] ws') : Nx p l e room_1 s m args below meth c D vwCl A 4 99 2467 Q 1025 [(0, .ref sb), (1, .ref bo), (2, .ref (b 0)), (3, .int (nI k))] [] ws := by
  refine n_aload_n B dL_law_1025 rfl 1 rfl ?_
  refine n_aload_n B dL_law_1026 rfl 0 rfl ?_
  refine n_iload_n B dL_law_1027 rfl 3 rfl ?_
  refine n_iconst B dL_law_1028 ic_1 ?_
  refine n_iaddE B dL_law_1029 (nI_add k 1) ?_
  refine n_sldN B hX hbl hbA (by omega) hL dL_law_1030 ?_
  refine n_aload_n B dL_law_1031 rfl 0 rfl ?_
  refine n_iload_n B dL_law_1032 rfl 3 rfl ?_
  refine n_iconst B dL_law_1033 ic_2 ?_
  refine n_iaddE B dL_law_1034 (nI_add k 2) ?_
  refine n_sldN B hX hbl hbA (by omega) hL dL_law_1035 ?_
  refine n_aload_n B dL_law_1036 rfl 0 rfl ?_
  refine n_iload_n B dL_law_1037 rfl 3 rfl ?_
  refine n_iconst B dL_law_1038 ic_3 ?_
  refine n_iaddE B dL_law_1039 (nI_add k 3) ?_
  refine n_sldN B hX hbl hbA (by omega) hL dL_law_1040 ?_
  refine st_X8_alterRow B hsc h _ _ _ (Nat.le_of_ble_eq_true rfl) (fun r1 ws2 f4 h3 => ?_)
  refine n_pop B dL_law_1044 rfl ?_
  refine n_aload_n B dL_law_1045 rfl 2 rfl ?_
  refine n_aload_n B dL_law_1046 rfl 0 rfl ?_
  refine n_iload_n B dL_law_1047 rfl 3 rfl ?_
  refine n_iconst B dL_law_1048 ic_1 ?_
  refine n_iaddE B dL_law_1049 (nI_add k 1) ?_
  refine n_sldN B hX hbl hbA (by omega) hL dL_law_1050 ?_
  refine n_aload_n B dL_law_1051 rfl 0 rfl ?_
  refine n_iload_n B dL_law_1052 rfl 3 rfl ?_
  refine n_iconst B dL_law_1053 ic_2 ?_
  refine n_iaddE B dL_law_1054 (nI_add k 2) ?_
  refine n_sldN B hX hbl hbA (by omega) hL dL_law_1055 ?_
  refine n_aload_n B dL_law_1056 rfl 0 rfl ?_
  refine n_iload_n B dL_law_1057 rfl 3 rfl ?_
  refine n_iconst B dL_law_1058 ic_3 ?_
  refine n_iaddE B dL_law_1059 (nI_add k 3) ?_
  refine n_sldN B hX hbl hbA (by omega) hL dL_law_1060 ?_
  refine st_X9_alterRow B hsc h3 _ _ _ (Nat.le_of_ble_eq_true rfl) (fun r5 ws6 f8 h7 => ?_)
  refine n_pop B dL_law_1064 rfl ?_
  refine n_goto (tgt := 1454) B dL_law_1065 rfl ?_
  exact kk _ _ _ h7
set_option maxHeartbeats 4000000 in
set_option maxRecDepth 100000 in
theorem law_case_28 {p : Program} {l : Launch} {e : Env} {s : State} {m : MethodId} {args : Array Value} {below : List Frame} {meth : Method} {c : Code} {Q : State → Prop} {D : va_G} {g : Nat → ClassId} {A : Nat → Prop} {bo : Nat} {an : Nat → Nat} {ak : Nat → Nat} {bT : Nat} {aa : Nat → Nat} {hT : Nat} {hB : Nat} {ae : Nat → Nat} {ar : Nat → Nat} {bS : Nat} {bV : Nat} {th : Nat → Nat} {as : Nat → Nat} {av : Nat → Nat} {b : Nat → Nat} {sb L k : Nat} {xs : Nat → Int32} (B : Bs p s m args meth c D vwCl (TY g) A 4 cL_law RL) (hsc : sc D A s s.heap) (hX : va_X sb L xs s s.heap) (hbl : sb < s.heap.size) (hbA : ¬ A sb) (hL : L ≤ 320) (hk : k + 5 ≤ L) {t : Nat} {S : MS} {ws : va_W} (h : LW g bo an ak bT aa hT hB ae ar bS bV th as av b t t S S ws) (kk : ∀ (t : Nat) (S : MS) (ws' : va_W), LW g bo an ak bT aa hT hB ae ar bS bV th as av b t t S S ws' → Nx p l e room_1 s m args below meth c D vwCl A 4 99 2467 Q 1454 [(0, .ref sb), (1, .ref bo), (2, .ref (b 0)), (3, .int (nI k))] [] ws') : Nx p l e room_1 s m args below meth c D vwCl A 4 99 2467 Q 1068 [(0, .ref sb), (1, .ref bo), (2, .ref (b 0)), (3, .int (nI k))] [] ws := by
  refine n_aload_n B dL_law_1068 rfl 1 rfl ?_
  refine st_X8_judge B hsc h (Nat.le_of_ble_eq_true rfl) (fun r1 ws2 f4 h3 => ?_)
  refine n_pop B dL_law_1072 rfl ?_
  refine n_aload_n B dL_law_1073 rfl 2 rfl ?_
  refine st_X9_judge B hsc h3 (Nat.le_of_ble_eq_true rfl) (fun r5 ws6 f8 h7 => ?_)
  refine n_pop B dL_law_1077 rfl ?_
  refine n_goto (tgt := 1454) B dL_law_1078 rfl ?_
  exact kk _ _ _ h7
set_option maxHeartbeats 4000000 in
set_option maxRecDepth 100000 in
theorem law_case_29 {p : Program} {l : Launch} {e : Env} {s : State} {m : MethodId} {args : Array Value} {below : List Frame} {meth : Method} {c : Code} {Q : State → Prop} {D : va_G} {g : Nat → ClassId} {A : Nat → Prop} {bo : Nat} {an : Nat → Nat} {ak : Nat → Nat} {bT : Nat} {aa : Nat → Nat} {hT : Nat} {hB : Nat} {ae : Nat → Nat} {ar : Nat → Nat} {bS : Nat} {bV : Nat} {th : Nat → Nat} {as : Nat → Nat} {av : Nat → Nat} {b : Nat → Nat} {sb L k : Nat} {xs : Nat → Int32} (B : Bs p s m args meth c D vwCl (TY g) A 4 cL_law RL) (hsc : sc D A s s.heap) (hX : va_X sb L xs s s.heap) (hbl : sb < s.heap.size) (hbA : ¬ A sb) (hL : L ≤ 320) (hk : k + 5 ≤ L) {t : Nat} {S : MS} {ws : va_W} (h : LW g bo an ak bT aa hT hB ae ar bS bV th as av b t t S S ws) (kk : ∀ (t : Nat) (S : MS) (ws' : va_W), LW g bo an ak bT aa hT hB ae ar bS bV th as av b t t S S ws' → Nx p l e room_1 s m args below meth c D vwCl A 4 99 2467 Q 1454 [(0, .ref sb), (1, .ref bo), (2, .ref (b 0)), (3, .int (nI k))] [] ws') : Nx p l e room_1 s m args below meth c D vwCl A 4 99 2467 Q 1081 [(0, .ref sb), (1, .ref bo), (2, .ref (b 0)), (3, .int (nI k))] [] ws := by
  refine n_aload_n B dL_law_1081 rfl 1 rfl ?_
  refine n_aload_n B dL_law_1082 rfl 0 rfl ?_
  refine n_iload_n B dL_law_1083 rfl 3 rfl ?_
  refine n_iconst B dL_law_1084 ic_1 ?_
  refine n_iaddE B dL_law_1085 (nI_add k 1) ?_
  refine n_sldN B hX hbl hbA (by omega) hL dL_law_1086 ?_
  refine n_aload_n B dL_law_1087 rfl 0 rfl ?_
  refine n_iload_n B dL_law_1088 rfl 3 rfl ?_
  refine n_iconst B dL_law_1089 ic_2 ?_
  refine n_iaddE B dL_law_1090 (nI_add k 2) ?_
  refine n_sldN B hX hbl hbA (by omega) hL dL_law_1091 ?_
  refine n_aload_n B dL_law_1092 rfl 0 rfl ?_
  refine n_iload_n B dL_law_1093 rfl 3 rfl ?_
  refine n_iconst B dL_law_1094 ic_3 ?_
  refine n_iaddE B dL_law_1095 (nI_add k 3) ?_
  refine n_sldN B hX hbl hbA (by omega) hL dL_law_1096 ?_
  refine n_aload_n B dL_law_1097 rfl 0 rfl ?_
  refine n_iload_n B dL_law_1098 rfl 3 rfl ?_
  refine n_iconst B dL_law_1099 ic_4 ?_
  refine n_iaddE B dL_law_1100 (nI_add k 4) ?_
  refine n_sldN B hX hbl hbA (by omega) hL dL_law_1101 ?_
  refine st_X8_events B hsc h _ _ _ _ (Nat.le_of_ble_eq_true rfl) (fun r1 ws2 f4 h3 => ?_)
  refine n_pop B dL_law_1105 rfl ?_
  refine n_aload_n B dL_law_1106 rfl 2 rfl ?_
  refine n_aload_n B dL_law_1107 rfl 0 rfl ?_
  refine n_iload_n B dL_law_1108 rfl 3 rfl ?_
  refine n_iconst B dL_law_1109 ic_1 ?_
  refine n_iaddE B dL_law_1110 (nI_add k 1) ?_
  refine n_sldN B hX hbl hbA (by omega) hL dL_law_1111 ?_
  refine n_aload_n B dL_law_1112 rfl 0 rfl ?_
  refine n_iload_n B dL_law_1113 rfl 3 rfl ?_
  refine n_iconst B dL_law_1114 ic_2 ?_
  refine n_iaddE B dL_law_1115 (nI_add k 2) ?_
  refine n_sldN B hX hbl hbA (by omega) hL dL_law_1116 ?_
  refine n_aload_n B dL_law_1117 rfl 0 rfl ?_
  refine n_iload_n B dL_law_1118 rfl 3 rfl ?_
  refine n_iconst B dL_law_1119 ic_3 ?_
  refine n_iaddE B dL_law_1120 (nI_add k 3) ?_
  refine n_sldN B hX hbl hbA (by omega) hL dL_law_1121 ?_
  refine n_aload_n B dL_law_1122 rfl 0 rfl ?_
  refine n_iload_n B dL_law_1123 rfl 3 rfl ?_
  refine n_iconst B dL_law_1124 ic_4 ?_
  refine n_iaddE B dL_law_1125 (nI_add k 4) ?_
  refine n_sldN B hX hbl hbA (by omega) hL dL_law_1126 ?_
  refine st_X9_events B hsc h3 _ _ _ _ (Nat.le_of_ble_eq_true rfl) (fun r5 ws6 f8 h7 => ?_)
  refine n_pop B dL_law_1130 rfl ?_
  refine n_goto (tgt := 1454) B dL_law_1131 rfl ?_
  exact kk _ _ _ h7
set_option maxHeartbeats 4000000 in
set_option maxRecDepth 100000 in
theorem law_case_30 {p : Program} {l : Launch} {e : Env} {s : State} {m : MethodId} {args : Array Value} {below : List Frame} {meth : Method} {c : Code} {Q : State → Prop} {D : va_G} {g : Nat → ClassId} {A : Nat → Prop} {bo : Nat} {an : Nat → Nat} {ak : Nat → Nat} {bT : Nat} {aa : Nat → Nat} {hT : Nat} {hB : Nat} {ae : Nat → Nat} {ar : Nat → Nat} {bS : Nat} {bV : Nat} {th : Nat → Nat} {as : Nat → Nat} {av : Nat → Nat} {b : Nat → Nat} {sb L k : Nat} {xs : Nat → Int32} (B : Bs p s m args meth c D vwCl (TY g) A 4 cL_law RL) (hsc : sc D A s s.heap) (hX : va_X sb L xs s s.heap) (hbl : sb < s.heap.size) (hbA : ¬ A sb) (hL : L ≤ 320) (hk : k + 5 ≤ L) {t : Nat} {S : MS} {ws : va_W} (h : LW g bo an ak bT aa hT hB ae ar bS bV th as av b t t S S ws) (kk : ∀ (t : Nat) (S : MS) (ws' : va_W), LW g bo an ak bT aa hT hB ae ar bS bV th as av b t t S S ws' → Nx p l e room_1 s m args below meth c D vwCl A 4 99 2467 Q 1454 [(0, .ref sb), (1, .ref bo), (2, .ref (b 0)), (3, .int (nI k))] [] ws') : Nx p l e room_1 s m args below meth c D vwCl A 4 99 2467 Q 1134 [(0, .ref sb), (1, .ref bo), (2, .ref (b 0)), (3, .int (nI k))] [] ws := by
  refine n_aload_n B dL_law_1134 rfl 1 rfl ?_
  refine n_aload_n B dL_law_1135 rfl 0 rfl ?_
  refine n_iload_n B dL_law_1136 rfl 3 rfl ?_
  refine n_iconst B dL_law_1137 ic_1 ?_
  refine n_iaddE B dL_law_1138 (nI_add k 1) ?_
  refine n_sldN B hX hbl hbA (by omega) hL dL_law_1139 ?_
  refine n_aload_n B dL_law_1140 rfl 0 rfl ?_
  refine n_iload_n B dL_law_1141 rfl 3 rfl ?_
  refine n_iconst B dL_law_1142 ic_2 ?_
  refine n_iaddE B dL_law_1143 (nI_add k 2) ?_
  refine n_sldN B hX hbl hbA (by omega) hL dL_law_1144 ?_
  refine n_aload_n B dL_law_1145 rfl 0 rfl ?_
  refine n_iload_n B dL_law_1146 rfl 3 rfl ?_
  refine n_iconst B dL_law_1147 ic_3 ?_
  refine n_iaddE B dL_law_1148 (nI_add k 3) ?_
  refine n_sldN B hX hbl hbA (by omega) hL dL_law_1149 ?_
  refine st_X8_sheet B hsc h _ _ _ (Nat.le_of_ble_eq_true rfl) (fun ws2 h3 => ?_)
  refine n_pop B dL_law_1153 rfl ?_
  refine n_aload_n B dL_law_1154 rfl 2 rfl ?_
  refine n_aload_n B dL_law_1155 rfl 0 rfl ?_
  refine n_iload_n B dL_law_1156 rfl 3 rfl ?_
  refine n_iconst B dL_law_1157 ic_1 ?_
  refine n_iaddE B dL_law_1158 (nI_add k 1) ?_
  refine n_sldN B hX hbl hbA (by omega) hL dL_law_1159 ?_
  refine n_aload_n B dL_law_1160 rfl 0 rfl ?_
  refine n_iload_n B dL_law_1161 rfl 3 rfl ?_
  refine n_iconst B dL_law_1162 ic_2 ?_
  refine n_iaddE B dL_law_1163 (nI_add k 2) ?_
  refine n_sldN B hX hbl hbA (by omega) hL dL_law_1164 ?_
  refine n_aload_n B dL_law_1165 rfl 0 rfl ?_
  refine n_iload_n B dL_law_1166 rfl 3 rfl ?_
  refine n_iconst B dL_law_1167 ic_3 ?_
  refine n_iaddE B dL_law_1168 (nI_add k 3) ?_
  refine n_sldN B hX hbl hbA (by omega) hL dL_law_1169 ?_
  refine st_X9_sheet B hsc h3 _ _ _ (Nat.le_of_ble_eq_true rfl) (fun ws5 h6 => ?_)
  refine n_pop B dL_law_1173 rfl ?_
  refine n_goto (tgt := 1454) B dL_law_1174 rfl ?_
  exact kk _ _ _ h6
set_option maxHeartbeats 4000000 in
set_option maxRecDepth 100000 in
theorem law_case_31 {p : Program} {l : Launch} {e : Env} {s : State} {m : MethodId} {args : Array Value} {below : List Frame} {meth : Method} {c : Code} {Q : State → Prop} {D : va_G} {g : Nat → ClassId} {A : Nat → Prop} {bo : Nat} {an : Nat → Nat} {ak : Nat → Nat} {bT : Nat} {aa : Nat → Nat} {hT : Nat} {hB : Nat} {ae : Nat → Nat} {ar : Nat → Nat} {bS : Nat} {bV : Nat} {th : Nat → Nat} {as : Nat → Nat} {av : Nat → Nat} {b : Nat → Nat} {sb L k : Nat} {xs : Nat → Int32} (B : Bs p s m args meth c D vwCl (TY g) A 4 cL_law RL) (hsc : sc D A s s.heap) (hX : va_X sb L xs s s.heap) (hbl : sb < s.heap.size) (hbA : ¬ A sb) (hL : L ≤ 320) (hk : k + 5 ≤ L) {t : Nat} {S : MS} {ws : va_W} (h : LW g bo an ak bT aa hT hB ae ar bS bV th as av b t t S S ws) (kk : ∀ (t : Nat) (S : MS) (ws' : va_W), LW g bo an ak bT aa hT hB ae ar bS bV th as av b t t S S ws' → Nx p l e room_1 s m args below meth c D vwCl A 4 99 2467 Q 1454 [(0, .ref sb), (1, .ref bo), (2, .ref (b 0)), (3, .int (nI k))] [] ws') : Nx p l e room_1 s m args below meth c D vwCl A 4 99 2467 Q 1177 [(0, .ref sb), (1, .ref bo), (2, .ref (b 0)), (3, .int (nI k))] [] ws := by
  refine n_aload_n B dL_law_1177 rfl 1 rfl ?_
  refine n_aload_n B dL_law_1178 rfl 0 rfl ?_
  refine n_iload_n B dL_law_1179 rfl 3 rfl ?_
  refine n_iconst B dL_law_1180 ic_1 ?_
  refine n_iaddE B dL_law_1181 (nI_add k 1) ?_
  refine n_sldN B hX hbl hbA (by omega) hL dL_law_1182 ?_
  refine n_aload_n B dL_law_1183 rfl 0 rfl ?_
  refine n_iload_n B dL_law_1184 rfl 3 rfl ?_
  refine n_iconst B dL_law_1185 ic_2 ?_
  refine n_iaddE B dL_law_1186 (nI_add k 2) ?_
  refine n_sldN B hX hbl hbA (by omega) hL dL_law_1187 ?_
  refine n_aload_n B dL_law_1188 rfl 0 rfl ?_
  refine n_iload_n B dL_law_1189 rfl 3 rfl ?_
  refine n_iconst B dL_law_1190 ic_3 ?_
  refine n_iaddE B dL_law_1191 (nI_add k 3) ?_
  refine n_sldN B hX hbl hbA (by omega) hL dL_law_1192 ?_
  refine st_X8_put B hsc h _ _ _ (Nat.le_of_ble_eq_true rfl) (fun r1 ws2 f4 h3 => ?_)
  refine n_aload_n B dL_law_1196 rfl 2 rfl ?_
  refine n_aload_n B dL_law_1197 rfl 0 rfl ?_
  refine n_iload_n B dL_law_1198 rfl 3 rfl ?_
  refine n_iconst B dL_law_1199 ic_1 ?_
  refine n_iaddE B dL_law_1200 (nI_add k 1) ?_
  refine n_sldN B hX hbl hbA (by omega) hL dL_law_1201 ?_
  refine n_aload_n B dL_law_1202 rfl 0 rfl ?_
  refine n_iload_n B dL_law_1203 rfl 3 rfl ?_
  refine n_iconst B dL_law_1204 ic_2 ?_
  refine n_iaddE B dL_law_1205 (nI_add k 2) ?_
  refine n_sldN B hX hbl hbA (by omega) hL dL_law_1206 ?_
  refine n_aload_n B dL_law_1207 rfl 0 rfl ?_
  refine n_iload_n B dL_law_1208 rfl 3 rfl ?_
  refine n_iconst B dL_law_1209 ic_3 ?_
  refine n_iaddE B dL_law_1210 (nI_add k 3) ?_
  refine n_sldN B hX hbl hbA (by omega) hL dL_law_1211 ?_
  refine st_X9_put B hsc h3 _ _ _ (Nat.le_of_ble_eq_true rfl) (fun r5 ws6 f8 h7 => ?_)
  refine n_icmp_eq (tgt := 1454) B dL_law_1215 rfl (fun _ => ?_) (fun h0 => absurd (by rw [f4, f8]) h0)
  exact kk _ _ _ h7
set_option maxHeartbeats 4000000 in
set_option maxRecDepth 100000 in
theorem law_case_32 {p : Program} {l : Launch} {e : Env} {s : State} {m : MethodId} {args : Array Value} {below : List Frame} {meth : Method} {c : Code} {Q : State → Prop} {D : va_G} {g : Nat → ClassId} {A : Nat → Prop} {bo : Nat} {an : Nat → Nat} {ak : Nat → Nat} {bT : Nat} {aa : Nat → Nat} {hT : Nat} {hB : Nat} {ae : Nat → Nat} {ar : Nat → Nat} {bS : Nat} {bV : Nat} {th : Nat → Nat} {as : Nat → Nat} {av : Nat → Nat} {b : Nat → Nat} {sb L k : Nat} {xs : Nat → Int32} (B : Bs p s m args meth c D vwCl (TY g) A 4 cL_law RL) (hsc : sc D A s s.heap) (hX : va_X sb L xs s s.heap) (hbl : sb < s.heap.size) (hbA : ¬ A sb) (hL : L ≤ 320) (hk : k + 5 ≤ L) {t : Nat} {S : MS} {ws : va_W} (h : LW g bo an ak bT aa hT hB ae ar bS bV th as av b t t S S ws) (kk : ∀ (t : Nat) (S : MS) (ws' : va_W), LW g bo an ak bT aa hT hB ae ar bS bV th as av b t t S S ws' → Nx p l e room_1 s m args below meth c D vwCl A 4 99 2467 Q 1454 [(0, .ref sb), (1, .ref bo), (2, .ref (b 0)), (3, .int (nI k))] [] ws') : Nx p l e room_1 s m args below meth c D vwCl A 4 99 2467 Q 1220 [(0, .ref sb), (1, .ref bo), (2, .ref (b 0)), (3, .int (nI k))] [] ws := by
  refine n_aload_n B dL_law_1220 rfl 1 rfl ?_
  refine n_aload_n B dL_law_1221 rfl 0 rfl ?_
  refine n_iload_n B dL_law_1222 rfl 3 rfl ?_
  refine n_iconst B dL_law_1223 ic_1 ?_
  refine n_iaddE B dL_law_1224 (nI_add k 1) ?_
  refine n_sldN B hX hbl hbA (by omega) hL dL_law_1225 ?_
  refine n_aload_n B dL_law_1226 rfl 0 rfl ?_
  refine n_iload_n B dL_law_1227 rfl 3 rfl ?_
  refine n_iconst B dL_law_1228 ic_2 ?_
  refine n_iaddE B dL_law_1229 (nI_add k 2) ?_
  refine n_sldN B hX hbl hbA (by omega) hL dL_law_1230 ?_
  refine n_aload_n B dL_law_1231 rfl 0 rfl ?_
  refine n_iload_n B dL_law_1232 rfl 3 rfl ?_
  refine n_iconst B dL_law_1233 ic_3 ?_
  refine n_iaddE B dL_law_1234 (nI_add k 3) ?_
  refine n_sldN B hX hbl hbA (by omega) hL dL_law_1235 ?_
  refine st_X8_item B hsc h _ _ _ (Nat.le_of_ble_eq_true rfl) (fun r1 ws2 f4 h3 => ?_)
  refine n_pop B dL_law_1239 rfl ?_
  refine n_aload_n B dL_law_1240 rfl 2 rfl ?_
  refine n_aload_n B dL_law_1241 rfl 0 rfl ?_
  refine n_iload_n B dL_law_1242 rfl 3 rfl ?_
  refine n_iconst B dL_law_1243 ic_1 ?_
  refine n_iaddE B dL_law_1244 (nI_add k 1) ?_
  refine n_sldN B hX hbl hbA (by omega) hL dL_law_1245 ?_
  refine n_aload_n B dL_law_1246 rfl 0 rfl ?_
  refine n_iload_n B dL_law_1247 rfl 3 rfl ?_
  refine n_iconst B dL_law_1248 ic_2 ?_
  refine n_iaddE B dL_law_1249 (nI_add k 2) ?_
  refine n_sldN B hX hbl hbA (by omega) hL dL_law_1250 ?_
  refine n_aload_n B dL_law_1251 rfl 0 rfl ?_
  refine n_iload_n B dL_law_1252 rfl 3 rfl ?_
  refine n_iconst B dL_law_1253 ic_3 ?_
  refine n_iaddE B dL_law_1254 (nI_add k 3) ?_
  refine n_sldN B hX hbl hbA (by omega) hL dL_law_1255 ?_
  refine st_X9_item B hsc h3 _ _ _ (Nat.le_of_ble_eq_true rfl) (fun r5 ws6 f8 h7 => ?_)
  refine n_pop B dL_law_1259 rfl ?_
  refine n_goto (tgt := 1454) B dL_law_1260 rfl ?_
  exact kk _ _ _ h7
set_option maxHeartbeats 4000000 in
set_option maxRecDepth 100000 in
theorem law_case_33 {p : Program} {l : Launch} {e : Env} {s : State} {m : MethodId} {args : Array Value} {below : List Frame} {meth : Method} {c : Code} {Q : State → Prop} {D : va_G} {g : Nat → ClassId} {A : Nat → Prop} {bo : Nat} {an : Nat → Nat} {ak : Nat → Nat} {bT : Nat} {aa : Nat → Nat} {hT : Nat} {hB : Nat} {ae : Nat → Nat} {ar : Nat → Nat} {bS : Nat} {bV : Nat} {th : Nat → Nat} {as : Nat → Nat} {av : Nat → Nat} {b : Nat → Nat} {sb L k : Nat} {xs : Nat → Int32} (B : Bs p s m args meth c D vwCl (TY g) A 4 cL_law RL) (hsc : sc D A s s.heap) (hX : va_X sb L xs s s.heap) (hbl : sb < s.heap.size) (hbA : ¬ A sb) (hL : L ≤ 320) (hk : k + 5 ≤ L) {t : Nat} {S : MS} {ws : va_W} (h : LW g bo an ak bT aa hT hB ae ar bS bV th as av b t t S S ws) (kk : ∀ (t : Nat) (S : MS) (ws' : va_W), LW g bo an ak bT aa hT hB ae ar bS bV th as av b t t S S ws' → Nx p l e room_1 s m args below meth c D vwCl A 4 99 2467 Q 1454 [(0, .ref sb), (1, .ref bo), (2, .ref (b 0)), (3, .int (nI k))] [] ws') : Nx p l e room_1 s m args below meth c D vwCl A 4 99 2467 Q 1263 [(0, .ref sb), (1, .ref bo), (2, .ref (b 0)), (3, .int (nI k))] [] ws := by
  refine n_aload_n B dL_law_1263 rfl 1 rfl ?_
  refine n_aload_n B dL_law_1264 rfl 0 rfl ?_
  refine n_iload_n B dL_law_1265 rfl 3 rfl ?_
  refine n_iconst B dL_law_1266 ic_1 ?_
  refine n_iaddE B dL_law_1267 (nI_add k 1) ?_
  refine n_sldN B hX hbl hbA (by omega) hL dL_law_1268 ?_
  refine n_aload_n B dL_law_1269 rfl 0 rfl ?_
  refine n_iload_n B dL_law_1270 rfl 3 rfl ?_
  refine n_iconst B dL_law_1271 ic_2 ?_
  refine n_iaddE B dL_law_1272 (nI_add k 2) ?_
  refine n_sldN B hX hbl hbA (by omega) hL dL_law_1273 ?_
  refine n_aload_n B dL_law_1274 rfl 0 rfl ?_
  refine n_iload_n B dL_law_1275 rfl 3 rfl ?_
  refine n_iconst B dL_law_1276 ic_3 ?_
  refine n_iaddE B dL_law_1277 (nI_add k 3) ?_
  refine n_sldN B hX hbl hbA (by omega) hL dL_law_1278 ?_
  refine st_X8_shelf B hsc h _ _ _ (Nat.le_of_ble_eq_true rfl) (fun r1 ws2 f4 h3 => ?_)
  refine n_pop B dL_law_1282 rfl ?_
  refine n_aload_n B dL_law_1283 rfl 2 rfl ?_
  refine n_aload_n B dL_law_1284 rfl 0 rfl ?_
  refine n_iload_n B dL_law_1285 rfl 3 rfl ?_
  refine n_iconst B dL_law_1286 ic_1 ?_
  refine n_iaddE B dL_law_1287 (nI_add k 1) ?_
  refine n_sldN B hX hbl hbA (by omega) hL dL_law_1288 ?_
  refine n_aload_n B dL_law_1289 rfl 0 rfl ?_
  refine n_iload_n B dL_law_1290 rfl 3 rfl ?_
  refine n_iconst B dL_law_1291 ic_2 ?_
  refine n_iaddE B dL_law_1292 (nI_add k 2) ?_
  refine n_sldN B hX hbl hbA (by omega) hL dL_law_1293 ?_
  refine n_aload_n B dL_law_1294 rfl 0 rfl ?_
  refine n_iload_n B dL_law_1295 rfl 3 rfl ?_
  refine n_iconst B dL_law_1296 ic_3 ?_
  refine n_iaddE B dL_law_1297 (nI_add k 3) ?_
  refine n_sldN B hX hbl hbA (by omega) hL dL_law_1298 ?_
  refine st_X9_shelf B hsc h3 _ _ _ (Nat.le_of_ble_eq_true rfl) (fun r5 ws6 f8 h7 => ?_)
  refine n_pop B dL_law_1302 rfl ?_
  refine n_goto (tgt := 1454) B dL_law_1303 rfl ?_
  exact kk _ _ _ h7
set_option maxHeartbeats 4000000 in
set_option maxRecDepth 100000 in
theorem law_case_34 {p : Program} {l : Launch} {e : Env} {s : State} {m : MethodId} {args : Array Value} {below : List Frame} {meth : Method} {c : Code} {Q : State → Prop} {D : va_G} {g : Nat → ClassId} {A : Nat → Prop} {bo : Nat} {an : Nat → Nat} {ak : Nat → Nat} {bT : Nat} {aa : Nat → Nat} {hT : Nat} {hB : Nat} {ae : Nat → Nat} {ar : Nat → Nat} {bS : Nat} {bV : Nat} {th : Nat → Nat} {as : Nat → Nat} {av : Nat → Nat} {b : Nat → Nat} {sb L k : Nat} {xs : Nat → Int32} (B : Bs p s m args meth c D vwCl (TY g) A 4 cL_law RL) (hsc : sc D A s s.heap) (hX : va_X sb L xs s s.heap) (hbl : sb < s.heap.size) (hbA : ¬ A sb) (hL : L ≤ 320) (hk : k + 5 ≤ L) {t : Nat} {S : MS} {ws : va_W} (h : LW g bo an ak bT aa hT hB ae ar bS bV th as av b t t S S ws) (kk : ∀ (t : Nat) (S : MS) (ws' : va_W), LW g bo an ak bT aa hT hB ae ar bS bV th as av b t t S S ws' → Nx p l e room_1 s m args below meth c D vwCl A 4 99 2467 Q 1454 [(0, .ref sb), (1, .ref bo), (2, .ref (b 0)), (3, .int (nI k))] [] ws') : Nx p l e room_1 s m args below meth c D vwCl A 4 99 2467 Q 1306 [(0, .ref sb), (1, .ref bo), (2, .ref (b 0)), (3, .int (nI k))] [] ws := by
  refine n_aload_n B dL_law_1306 rfl 1 rfl ?_
  refine n_aload_n B dL_law_1307 rfl 0 rfl ?_
  refine n_iload_n B dL_law_1308 rfl 3 rfl ?_
  refine n_iconst B dL_law_1309 ic_1 ?_
  refine n_iaddE B dL_law_1310 (nI_add k 1) ?_
  refine n_sldN B hX hbl hbA (by omega) hL dL_law_1311 ?_
  refine n_aload_n B dL_law_1312 rfl 0 rfl ?_
  refine n_iload_n B dL_law_1313 rfl 3 rfl ?_
  refine n_iconst B dL_law_1314 ic_2 ?_
  refine n_iaddE B dL_law_1315 (nI_add k 2) ?_
  refine n_sldN B hX hbl hbA (by omega) hL dL_law_1316 ?_
  refine st_X8_taken B hsc h _ _ (Nat.le_of_ble_eq_true rfl) (fun r1 ws2 f4 h3 => ?_)
  refine n_pop B dL_law_1320 rfl ?_
  refine n_aload_n B dL_law_1321 rfl 2 rfl ?_
  refine n_aload_n B dL_law_1322 rfl 0 rfl ?_
  refine n_iload_n B dL_law_1323 rfl 3 rfl ?_
  refine n_iconst B dL_law_1324 ic_1 ?_
  refine n_iaddE B dL_law_1325 (nI_add k 1) ?_
  refine n_sldN B hX hbl hbA (by omega) hL dL_law_1326 ?_
  refine n_aload_n B dL_law_1327 rfl 0 rfl ?_
  refine n_iload_n B dL_law_1328 rfl 3 rfl ?_
  refine n_iconst B dL_law_1329 ic_2 ?_
  refine n_iaddE B dL_law_1330 (nI_add k 2) ?_
  refine n_sldN B hX hbl hbA (by omega) hL dL_law_1331 ?_
  refine st_X9_taken B hsc h3 _ _ (Nat.le_of_ble_eq_true rfl) (fun r5 ws6 f8 h7 => ?_)
  refine n_pop B dL_law_1335 rfl ?_
  refine n_goto (tgt := 1454) B dL_law_1336 rfl ?_
  exact kk _ _ _ h7
set_option maxHeartbeats 4000000 in
set_option maxRecDepth 100000 in
theorem law_case_35 {p : Program} {l : Launch} {e : Env} {s : State} {m : MethodId} {args : Array Value} {below : List Frame} {meth : Method} {c : Code} {Q : State → Prop} {D : va_G} {g : Nat → ClassId} {A : Nat → Prop} {bo : Nat} {an : Nat → Nat} {ak : Nat → Nat} {bT : Nat} {aa : Nat → Nat} {hT : Nat} {hB : Nat} {ae : Nat → Nat} {ar : Nat → Nat} {bS : Nat} {bV : Nat} {th : Nat → Nat} {as : Nat → Nat} {av : Nat → Nat} {b : Nat → Nat} {sb L k : Nat} {xs : Nat → Int32} (B : Bs p s m args meth c D vwCl (TY g) A 4 cL_law RL) (hsc : sc D A s s.heap) (hX : va_X sb L xs s s.heap) (hbl : sb < s.heap.size) (hbA : ¬ A sb) (hL : L ≤ 320) (hk : k + 5 ≤ L) {t : Nat} {S : MS} {ws : va_W} (h : LW g bo an ak bT aa hT hB ae ar bS bV th as av b t t S S ws) (kk : ∀ (t : Nat) (S : MS) (ws' : va_W), LW g bo an ak bT aa hT hB ae ar bS bV th as av b t t S S ws' → Nx p l e room_1 s m args below meth c D vwCl A 4 99 2467 Q 1454 [(0, .ref sb), (1, .ref bo), (2, .ref (b 0)), (3, .int (nI k))] [] ws') : Nx p l e room_1 s m args below meth c D vwCl A 4 99 2467 Q 1339 [(0, .ref sb), (1, .ref bo), (2, .ref (b 0)), (3, .int (nI k))] [] ws := by
  refine n_aload_n B dL_law_1339 rfl 1 rfl ?_
  refine n_aload_n B dL_law_1340 rfl 0 rfl ?_
  refine n_iload_n B dL_law_1341 rfl 3 rfl ?_
  refine n_iconst B dL_law_1342 ic_1 ?_
  refine n_iaddE B dL_law_1343 (nI_add k 1) ?_
  refine n_sldN B hX hbl hbA (by omega) hL dL_law_1344 ?_
  refine n_aload_n B dL_law_1345 rfl 0 rfl ?_
  refine n_iload_n B dL_law_1346 rfl 3 rfl ?_
  refine n_iconst B dL_law_1347 ic_2 ?_
  refine n_iaddE B dL_law_1348 (nI_add k 2) ?_
  refine n_sldN B hX hbl hbA (by omega) hL dL_law_1349 ?_
  refine n_aload_n B dL_law_1350 rfl 0 rfl ?_
  refine n_iload_n B dL_law_1351 rfl 3 rfl ?_
  refine n_iconst B dL_law_1352 ic_3 ?_
  refine n_iaddE B dL_law_1353 (nI_add k 3) ?_
  refine n_sldN B hX hbl hbA (by omega) hL dL_law_1354 ?_
  refine st_X8_act B hsc h _ _ _ (Nat.le_of_ble_eq_true rfl) (fun r1 ws2 f4 h3 => ?_)
  refine n_pop B dL_law_1358 rfl ?_
  refine n_aload_n B dL_law_1359 rfl 2 rfl ?_
  refine n_aload_n B dL_law_1360 rfl 0 rfl ?_
  refine n_iload_n B dL_law_1361 rfl 3 rfl ?_
  refine n_iconst B dL_law_1362 ic_1 ?_
  refine n_iaddE B dL_law_1363 (nI_add k 1) ?_
  refine n_sldN B hX hbl hbA (by omega) hL dL_law_1364 ?_
  refine n_aload_n B dL_law_1365 rfl 0 rfl ?_
  refine n_iload_n B dL_law_1366 rfl 3 rfl ?_
  refine n_iconst B dL_law_1367 ic_2 ?_
  refine n_iaddE B dL_law_1368 (nI_add k 2) ?_
  refine n_sldN B hX hbl hbA (by omega) hL dL_law_1369 ?_
  refine n_aload_n B dL_law_1370 rfl 0 rfl ?_
  refine n_iload_n B dL_law_1371 rfl 3 rfl ?_
  refine n_iconst B dL_law_1372 ic_3 ?_
  refine n_iaddE B dL_law_1373 (nI_add k 3) ?_
  refine n_sldN B hX hbl hbA (by omega) hL dL_law_1374 ?_
  refine st_X9_act B hsc h3 _ _ _ (Nat.le_of_ble_eq_true rfl) (fun r5 ws6 f8 h7 => ?_)
  refine n_pop B dL_law_1378 rfl ?_
  refine n_goto (tgt := 1454) B dL_law_1379 rfl ?_
  exact kk _ _ _ h7
set_option maxHeartbeats 4000000 in
set_option maxRecDepth 100000 in
theorem law_case_36 {p : Program} {l : Launch} {e : Env} {s : State} {m : MethodId} {args : Array Value} {below : List Frame} {meth : Method} {c : Code} {Q : State → Prop} {D : va_G} {g : Nat → ClassId} {A : Nat → Prop} {bo : Nat} {an : Nat → Nat} {ak : Nat → Nat} {bT : Nat} {aa : Nat → Nat} {hT : Nat} {hB : Nat} {ae : Nat → Nat} {ar : Nat → Nat} {bS : Nat} {bV : Nat} {th : Nat → Nat} {as : Nat → Nat} {av : Nat → Nat} {b : Nat → Nat} {sb L k : Nat} {xs : Nat → Int32} (B : Bs p s m args meth c D vwCl (TY g) A 4 cL_law RL) (hsc : sc D A s s.heap) (hX : va_X sb L xs s s.heap) (hbl : sb < s.heap.size) (hbA : ¬ A sb) (hL : L ≤ 320) (hk : k + 5 ≤ L) {t : Nat} {S : MS} {ws : va_W} (h : LW g bo an ak bT aa hT hB ae ar bS bV th as av b t t S S ws) (kk : ∀ (t : Nat) (S : MS) (ws' : va_W), LW g bo an ak bT aa hT hB ae ar bS bV th as av b t t S S ws' → Nx p l e room_1 s m args below meth c D vwCl A 4 99 2467 Q 1454 [(0, .ref sb), (1, .ref bo), (2, .ref (b 0)), (3, .int (nI k))] [] ws') : Nx p l e room_1 s m args below meth c D vwCl A 4 99 2467 Q 1382 [(0, .ref sb), (1, .ref bo), (2, .ref (b 0)), (3, .int (nI k))] [] ws := by
  refine n_aload_n B dL_law_1382 rfl 1 rfl ?_
  refine n_aload_n B dL_law_1383 rfl 0 rfl ?_
  refine n_iload_n B dL_law_1384 rfl 3 rfl ?_
  refine n_iconst B dL_law_1385 ic_1 ?_
  refine n_iaddE B dL_law_1386 (nI_add k 1) ?_
  refine n_sldN B hX hbl hbA (by omega) hL dL_law_1387 ?_
  refine st_X8_trace B hsc h _ (Nat.le_of_ble_eq_true rfl) (fun r1 ws2 f4 h3 => ?_)
  refine n_pop B dL_law_1391 rfl ?_
  refine n_aload_n B dL_law_1392 rfl 2 rfl ?_
  refine n_aload_n B dL_law_1393 rfl 0 rfl ?_
  refine n_iload_n B dL_law_1394 rfl 3 rfl ?_
  refine n_iconst B dL_law_1395 ic_1 ?_
  refine n_iaddE B dL_law_1396 (nI_add k 1) ?_
  refine n_sldN B hX hbl hbA (by omega) hL dL_law_1397 ?_
  refine st_X9_trace B hsc h3 _ (Nat.le_of_ble_eq_true rfl) (fun r5 ws6 f8 h7 => ?_)
  refine n_pop B dL_law_1401 rfl ?_
  refine n_goto (tgt := 1454) B dL_law_1402 rfl ?_
  exact kk _ _ _ h7
set_option maxHeartbeats 4000000 in
set_option maxRecDepth 100000 in
theorem law_case_37 {p : Program} {l : Launch} {e : Env} {s : State} {m : MethodId} {args : Array Value} {below : List Frame} {meth : Method} {c : Code} {Q : State → Prop} {D : va_G} {g : Nat → ClassId} {A : Nat → Prop} {bo : Nat} {an : Nat → Nat} {ak : Nat → Nat} {bT : Nat} {aa : Nat → Nat} {hT : Nat} {hB : Nat} {ae : Nat → Nat} {ar : Nat → Nat} {bS : Nat} {bV : Nat} {th : Nat → Nat} {as : Nat → Nat} {av : Nat → Nat} {b : Nat → Nat} {sb L k : Nat} {xs : Nat → Int32} (B : Bs p s m args meth c D vwCl (TY g) A 4 cL_law RL) (hsc : sc D A s s.heap) (hX : va_X sb L xs s s.heap) (hbl : sb < s.heap.size) (hbA : ¬ A sb) (hL : L ≤ 320) (hk : k + 5 ≤ L) {t : Nat} {S : MS} {ws : va_W} (h : LW g bo an ak bT aa hT hB ae ar bS bV th as av b t t S S ws) (kk : ∀ (t : Nat) (S : MS) (ws' : va_W), LW g bo an ak bT aa hT hB ae ar bS bV th as av b t t S S ws' → Nx p l e room_1 s m args below meth c D vwCl A 4 99 2467 Q 1454 [(0, .ref sb), (1, .ref bo), (2, .ref (b 0)), (3, .int (nI k))] [] ws') : Nx p l e room_1 s m args below meth c D vwCl A 4 99 2467 Q 1405 [(0, .ref sb), (1, .ref bo), (2, .ref (b 0)), (3, .int (nI k))] [] ws := by
  refine n_aload_n B dL_law_1405 rfl 1 rfl ?_
  refine n_aload_n B dL_law_1406 rfl 0 rfl ?_
  refine n_iload_n B dL_law_1407 rfl 3 rfl ?_
  refine n_iconst B dL_law_1408 ic_1 ?_
  refine n_iaddE B dL_law_1409 (nI_add k 1) ?_
  refine n_sldN B hX hbl hbA (by omega) hL dL_law_1410 ?_
  refine st_X8_many B hsc h _ (Nat.le_of_ble_eq_true rfl) (fun r1 ws2 f4 h3 => ?_)
  refine n_pop B dL_law_1414 rfl ?_
  refine n_aload_n B dL_law_1415 rfl 2 rfl ?_
  refine n_aload_n B dL_law_1416 rfl 0 rfl ?_
  refine n_iload_n B dL_law_1417 rfl 3 rfl ?_
  refine n_iconst B dL_law_1418 ic_1 ?_
  refine n_iaddE B dL_law_1419 (nI_add k 1) ?_
  refine n_sldN B hX hbl hbA (by omega) hL dL_law_1420 ?_
  refine st_X9_many B hsc h3 _ (Nat.le_of_ble_eq_true rfl) (fun r5 ws6 f8 h7 => ?_)
  refine n_pop B dL_law_1424 rfl ?_
  refine n_goto (tgt := 1454) B dL_law_1425 rfl ?_
  exact kk _ _ _ h7
set_option maxHeartbeats 4000000 in
set_option maxRecDepth 100000 in
theorem law_case_38 {p : Program} {l : Launch} {e : Env} {s : State} {m : MethodId} {args : Array Value} {below : List Frame} {meth : Method} {c : Code} {Q : State → Prop} {D : va_G} {g : Nat → ClassId} {A : Nat → Prop} {bo : Nat} {an : Nat → Nat} {ak : Nat → Nat} {bT : Nat} {aa : Nat → Nat} {hT : Nat} {hB : Nat} {ae : Nat → Nat} {ar : Nat → Nat} {bS : Nat} {bV : Nat} {th : Nat → Nat} {as : Nat → Nat} {av : Nat → Nat} {b : Nat → Nat} {sb L k : Nat} {xs : Nat → Int32} (B : Bs p s m args meth c D vwCl (TY g) A 4 cL_law RL) (hsc : sc D A s s.heap) (hX : va_X sb L xs s s.heap) (hbl : sb < s.heap.size) (hbA : ¬ A sb) (hL : L ≤ 320) (hk : k + 5 ≤ L) {t : Nat} {S : MS} {ws : va_W} (h : LW g bo an ak bT aa hT hB ae ar bS bV th as av b t t S S ws) (kk : ∀ (t : Nat) (S : MS) (ws' : va_W), LW g bo an ak bT aa hT hB ae ar bS bV th as av b t t S S ws' → Nx p l e room_1 s m args below meth c D vwCl A 4 99 2467 Q 1454 [(0, .ref sb), (1, .ref bo), (2, .ref (b 0)), (3, .int (nI k))] [] ws') : Nx p l e room_1 s m args below meth c D vwCl A 4 99 2467 Q 1428 [(0, .ref sb), (1, .ref bo), (2, .ref (b 0)), (3, .int (nI k))] [] ws := by
  refine n_aload_n B dL_law_1428 rfl 1 rfl ?_
  refine st_X8_keep B hsc h (Nat.le_of_ble_eq_true rfl) (fun ws2 h3 => ?_)
  refine n_pop B dL_law_1432 rfl ?_
  refine n_aload_n B dL_law_1433 rfl 2 rfl ?_
  refine st_X9_keep B hsc h3 (Nat.le_of_ble_eq_true rfl) (fun ws5 h6 => ?_)
  refine n_pop B dL_law_1437 rfl ?_
  refine n_goto (tgt := 1454) B dL_law_1438 rfl ?_
  exact kk _ _ _ h6
set_option maxHeartbeats 4000000 in
set_option maxRecDepth 100000 in
theorem law_case_39 {p : Program} {l : Launch} {e : Env} {s : State} {m : MethodId} {args : Array Value} {below : List Frame} {meth : Method} {c : Code} {Q : State → Prop} {D : va_G} {g : Nat → ClassId} {A : Nat → Prop} {bo : Nat} {an : Nat → Nat} {ak : Nat → Nat} {bT : Nat} {aa : Nat → Nat} {hT : Nat} {hB : Nat} {ae : Nat → Nat} {ar : Nat → Nat} {bS : Nat} {bV : Nat} {th : Nat → Nat} {as : Nat → Nat} {av : Nat → Nat} {b : Nat → Nat} {sb L k : Nat} {xs : Nat → Int32} (B : Bs p s m args meth c D vwCl (TY g) A 4 cL_law RL) (hsc : sc D A s s.heap) (hX : va_X sb L xs s s.heap) (hbl : sb < s.heap.size) (hbA : ¬ A sb) (hL : L ≤ 320) (hk : k + 5 ≤ L) {t : Nat} {S : MS} {ws : va_W} (h : LW g bo an ak bT aa hT hB ae ar bS bV th as av b t t S S ws) (kk : ∀ (t : Nat) (S : MS) (ws' : va_W), LW g bo an ak bT aa hT hB ae ar bS bV th as av b t t S S ws' → Nx p l e room_1 s m args below meth c D vwCl A 4 99 2467 Q 1454 [(0, .ref sb), (1, .ref bo), (2, .ref (b 0)), (3, .int (nI k))] [] ws') : Nx p l e room_1 s m args below meth c D vwCl A 4 99 2467 Q 1441 [(0, .ref sb), (1, .ref bo), (2, .ref (b 0)), (3, .int (nI k))] [] ws := by
  refine n_aload_n B dL_law_1441 rfl 1 rfl ?_
  refine st_X8_again B hsc h (Nat.le_of_ble_eq_true rfl) (fun r1 ws2 f4 h3 => ?_)
  refine n_pop B dL_law_1445 rfl ?_
  refine n_aload_n B dL_law_1446 rfl 2 rfl ?_
  refine st_X9_again B hsc h3 (Nat.le_of_ble_eq_true rfl) (fun r5 ws6 f8 h7 => ?_)
  refine n_pop B dL_law_1450 rfl ?_
  refine n_goto (tgt := 1454) B dL_law_1451 rfl ?_
  exact kk _ _ _ h7
