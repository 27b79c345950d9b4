/-! the law's cases 0 to 12 -/
set_option maxRecDepth 100000 in
set_option maxHeartbeats 4000000 in
theorem L_0 {Γ : Ga} {p : Program} {l : Launch} {e : Env} {s : State} {m : MethodId} {args : Array Value} {below : List Frame} {meth : Method} {c : Code} {Q : State → Prop} {b Ls : Nat} {xs : Nat → Int32} {i v1 v2 M : Int} {ce sl : Nat} {ω : Wo} : Cs Γ p l e s m args below meth c Q b Ls xs i v1 v2 M ce sl 208 ω := by
  intro u6 u7 u8 u9 C hK3 hsl hX hb hi hLs e1 e2 r1 r2 hI hM hce kx
  show J Γ p l e R9 s m args below meth c Q 254 ce sl 208 [some (.ref b), some (.ref (rl Γ 0)), some (.ref (rl Γ 243)), some (.ref (rl Γ 252)), some (.ref (rl Γ 253)), some (.int (iI i)), u6, u7, u8, u9] [] ω
  refine j_aload1 C dL_law_208 ?_
  refine j_aload0 C dL_law_209 ?_
  refine j_iload5 C dL_law_210 ?_
  refine j_iconst C dL_law_212 ?_
  refine j_iadd C dL_law_213 ?_
  refine j_sldv C hX hb ⟨by omega, by omega⟩ hLs e1 dL_law_214 ?_
  refine j_aload3 C dL_law_215 ?_
  refine j_cW (as := [.ref (rl Γ 0), .int (iI v1), .ref (rl Γ 252)]) (S := []) C hK3 (s_member hsl hI hM r1) o_w_member (show Lk RL 128 yL_member from (WS_of 467 (by decide +kernel))) ⟨by omega, by decide⟩ rfl rfl (Nat.le_of_ble_eq_true rfl) ⟨by omega, by omega⟩ dL_law_216 ?_
  intro z W1 hz hP
  refine j_istore6 C rfl dL_law_219 ?_
  refine j_aload2 C dL_law_221 ?_
  refine j_aload0 C dL_law_222 ?_
  refine j_iload5 C dL_law_223 ?_
  refine j_iconst C dL_law_225 ?_
  refine j_iadd C dL_law_226 ?_
  refine j_sldv C hX hb ⟨by omega, by omega⟩ hLs e1 dL_law_227 ?_
  refine j_cVI1 C hP oX9_member (show Lk RL 133 yX9_member from (WS_of 1583 (by decide +kernel))) ⟨_, rfl, rfl⟩ at_243 ⟨by decide, by decide⟩ rfl (Nat.le_of_ble_eq_true rfl) ⟨by omega, by omega⟩ dL_law_228 ?_
  intro z2 W2 hz2 hAg
  refine j_istore7 C rfl dL_law_231 ?_
  refine j_aload2 C dL_law_233 ?_
  refine j_cVI0 C (c_X9_thrown hAg.1) oX9_thrown (show Lk RL 134 yX9_thrown from (WS_of 1579 (by decide +kernel))) ⟨_, rfl, rfl⟩ at_243 ⟨by decide, by decide⟩ rfl (Nat.le_of_ble_eq_true rfl) ⟨by omega, by omega⟩ dL_law_234 ?_
  intro t W3 ht hT
  obtain ⟨rfl, rfl⟩ := hT
  refine j_iload6 C dL_law_237 ?_
  refine j_icmp_eq C ht hz dL_law_239 (fun _ => ?_) (fun q => absurd hAg.2.1 q)
  refine j_iload6 C dL_law_244 ?_
  refine j_if_ne C hz dL_law_246 (fun _ => ?_) (fun hk => ?_)
  · refine j_goto C dL_law_261 ?_
    refine j_widen (ce' := ce + 2) (sl' := sl + 12) (by omega) (by omega) ?_
    exact kx _ _ _ _ _ hAg.2.2.2
  refine j_aload3 C dL_law_249 ?_
  refine j_iconst C dL_law_250 ?_
  refine j_lald C (hAg.2.2.1 hk) dL_law_251 ?_
  refine j_iload7 C dL_law_252 ?_
  refine j_i2l C hz2 dL_law_254 ?_
  refine j_lcmp C dL_law_255 ?_
  refine j_if_eq C ⟨by decide, by decide⟩ dL_law_256 (fun _ => ?_) (fun q => absurd rfl q)
  refine j_goto C dL_law_261 ?_
  refine j_widen (ce' := ce + 2) (sl' := sl + 12) (by omega) (by omega) ?_
  exact kx _ _ _ _ _ hAg.2.2.2
set_option maxRecDepth 100000 in
set_option maxHeartbeats 4000000 in
theorem L_1 {Γ : Ga} {p : Program} {l : Launch} {e : Env} {s : State} {m : MethodId} {args : Array Value} {below : List Frame} {meth : Method} {c : Code} {Q : State → Prop} {b Ls : Nat} {xs : Nat → Int32} {i v1 v2 M : Int} {ce sl : Nat} {ω : Wo} : Cs Γ p l e s m args below meth c Q b Ls xs i v1 v2 M ce sl 264 ω := by
  intro u6 u7 u8 u9 C hK3 hsl hX hb hi hLs e1 e2 r1 r2 hI hM hce kx
  show J Γ p l e R9 s m args below meth c Q 254 ce sl 264 [some (.ref b), some (.ref (rl Γ 0)), some (.ref (rl Γ 243)), some (.ref (rl Γ 252)), some (.ref (rl Γ 253)), some (.int (iI i)), u6, u7, u8, u9] [] ω
  refine j_aload1 C dL_law_264 ?_
  refine j_aload0 C dL_law_265 ?_
  refine j_iload5 C dL_law_266 ?_
  refine j_iconst C dL_law_268 ?_
  refine j_iadd C dL_law_269 ?_
  refine j_sldv C hX hb ⟨by omega, by omega⟩ hLs e1 dL_law_270 ?_
  refine j_aload3 C dL_law_271 ?_
  refine j_cW (as := [.ref (rl Γ 0), .int (iI v1), .ref (rl Γ 252)]) (S := []) C hK3 (s_leave hsl hI hM r1) o_w_leave (show Lk RL 137 yL_leave from (WS_of 775 (by decide +kernel))) ⟨by omega, by decide⟩ rfl rfl (Nat.le_of_ble_eq_true rfl) ⟨by omega, by omega⟩ dL_law_272 ?_
  intro z W1 hz hP
  refine j_istore6 C rfl dL_law_275 ?_
  refine j_aload2 C dL_law_277 ?_
  refine j_aload0 C dL_law_278 ?_
  refine j_iload5 C dL_law_279 ?_
  refine j_iconst C dL_law_281 ?_
  refine j_iadd C dL_law_282 ?_
  refine j_sldv C hX hb ⟨by omega, by omega⟩ hLs e1 dL_law_283 ?_
  refine j_cVI1 C hP oX9_leave (show Lk RL 139 yX9_leave from (WS_of 1621 (by decide +kernel))) ⟨_, rfl, rfl⟩ at_243 ⟨by decide, by decide⟩ rfl (Nat.le_of_ble_eq_true rfl) ⟨by omega, by omega⟩ dL_law_284 ?_
  intro z2 W2 hz2 hAg
  refine j_istore7 C rfl dL_law_287 ?_
  refine j_aload2 C dL_law_289 ?_
  refine j_cVI0 C (c_X9_thrown hAg.1) oX9_thrown (show Lk RL 134 yX9_thrown from (WS_of 1579 (by decide +kernel))) ⟨_, rfl, rfl⟩ at_243 ⟨by decide, by decide⟩ rfl (Nat.le_of_ble_eq_true rfl) ⟨by omega, by omega⟩ dL_law_290 ?_
  intro t W3 ht hT
  obtain ⟨rfl, rfl⟩ := hT
  refine j_iload6 C dL_law_293 ?_
  refine j_icmp_eq C ht hz dL_law_295 (fun _ => ?_) (fun q => absurd hAg.2.1 q)
  refine j_iload6 C dL_law_300 ?_
  refine j_if_ne C hz dL_law_302 (fun _ => ?_) (fun hk => ?_)
  · refine j_goto C dL_law_317 ?_
    refine j_widen (ce' := ce + 2) (sl' := sl + 12) (by omega) (by omega) ?_
    exact kx _ _ _ _ _ hAg.2.2.2
  refine j_aload3 C dL_law_305 ?_
  refine j_iconst C dL_law_306 ?_
  refine j_lald C (hAg.2.2.1 hk) dL_law_307 ?_
  refine j_iload7 C dL_law_308 ?_
  refine j_i2l C hz2 dL_law_310 ?_
  refine j_lcmp C dL_law_311 ?_
  refine j_if_eq C ⟨by decide, by decide⟩ dL_law_312 (fun _ => ?_) (fun q => absurd rfl q)
  refine j_goto C dL_law_317 ?_
  refine j_widen (ce' := ce + 2) (sl' := sl + 12) (by omega) (by omega) ?_
  exact kx _ _ _ _ _ hAg.2.2.2
set_option maxRecDepth 100000 in
set_option maxHeartbeats 4000000 in
theorem L_2 {Γ : Ga} {p : Program} {l : Launch} {e : Env} {s : State} {m : MethodId} {args : Array Value} {below : List Frame} {meth : Method} {c : Code} {Q : State → Prop} {b Ls : Nat} {xs : Nat → Int32} {i v1 v2 M : Int} {ce sl : Nat} {ω : Wo} : Cs Γ p l e s m args below meth c Q b Ls xs i v1 v2 M ce sl 320 ω := by
  intro u6 u7 u8 u9 C hK3 hsl hX hb hi hLs e1 e2 r1 r2 hI hM hce kx
  show J Γ p l e R9 s m args below meth c Q 254 ce sl 320 [some (.ref b), some (.ref (rl Γ 0)), some (.ref (rl Γ 243)), some (.ref (rl Γ 252)), some (.ref (rl Γ 253)), some (.int (iI i)), u6, u7, u8, u9] [] ω
  refine j_aload1 C dL_law_320 ?_
  refine j_aload0 C dL_law_321 ?_
  refine j_iload5 C dL_law_322 ?_
  refine j_iconst C dL_law_324 ?_
  refine j_iadd C dL_law_325 ?_
  refine j_sldv C hX hb ⟨by omega, by omega⟩ hLs e1 dL_law_326 ?_
  refine j_aload3 C dL_law_327 ?_
  refine j_cW (as := [.ref (rl Γ 0), .int (iI v1), .ref (rl Γ 252)]) (S := []) C hK3 (s_train hsl hI hM r1) o_w_train (show Lk RL 140 yL_train from (WS_of 784 (by decide +kernel))) ⟨by omega, by decide⟩ rfl rfl (Nat.le_of_ble_eq_true rfl) ⟨by omega, by omega⟩ dL_law_328 ?_
  intro z W1 hz hP
  refine j_istore6 C rfl dL_law_331 ?_
  refine j_aload2 C dL_law_333 ?_
  refine j_aload0 C dL_law_334 ?_
  refine j_iload5 C dL_law_335 ?_
  refine j_iconst C dL_law_337 ?_
  refine j_iadd C dL_law_338 ?_
  refine j_sldv C hX hb ⟨by omega, by omega⟩ hLs e1 dL_law_339 ?_
  refine j_cVI1 C hP oX9_train (show Lk RL 142 yX9_train from (WS_of 1645 (by decide +kernel))) ⟨_, rfl, rfl⟩ at_243 ⟨by decide, by decide⟩ rfl (Nat.le_of_ble_eq_true rfl) ⟨by omega, by omega⟩ dL_law_340 ?_
  intro z2 W2 hz2 hAg
  refine j_istore7 C rfl dL_law_343 ?_
  refine j_aload2 C dL_law_345 ?_
  refine j_cVI0 C (c_X9_thrown hAg.1) oX9_thrown (show Lk RL 134 yX9_thrown from (WS_of 1579 (by decide +kernel))) ⟨_, rfl, rfl⟩ at_243 ⟨by decide, by decide⟩ rfl (Nat.le_of_ble_eq_true rfl) ⟨by omega, by omega⟩ dL_law_346 ?_
  intro t W3 ht hT
  obtain ⟨rfl, rfl⟩ := hT
  refine j_iload6 C dL_law_349 ?_
  refine j_icmp_eq C ht hz dL_law_351 (fun _ => ?_) (fun q => absurd hAg.2.1 q)
  refine j_iload6 C dL_law_356 ?_
  refine j_if_ne C hz dL_law_358 (fun _ => ?_) (fun hk => ?_)
  · refine j_goto C dL_law_373 ?_
    refine j_widen (ce' := ce + 2) (sl' := sl + 12) (by omega) (by omega) ?_
    exact kx _ _ _ _ _ hAg.2.2.2
  refine j_aload3 C dL_law_361 ?_
  refine j_iconst C dL_law_362 ?_
  refine j_lald C (hAg.2.2.1 hk) dL_law_363 ?_
  refine j_iload7 C dL_law_364 ?_
  refine j_i2l C hz2 dL_law_366 ?_
  refine j_lcmp C dL_law_367 ?_
  refine j_if_eq C ⟨by decide, by decide⟩ dL_law_368 (fun _ => ?_) (fun q => absurd rfl q)
  refine j_goto C dL_law_373 ?_
  refine j_widen (ce' := ce + 2) (sl' := sl + 12) (by omega) (by omega) ?_
  exact kx _ _ _ _ _ hAg.2.2.2
set_option maxRecDepth 100000 in
set_option maxHeartbeats 4000000 in
theorem L_3 {Γ : Ga} {p : Program} {l : Launch} {e : Env} {s : State} {m : MethodId} {args : Array Value} {below : List Frame} {meth : Method} {c : Code} {Q : State → Prop} {b Ls : Nat} {xs : Nat → Int32} {i v1 v2 M : Int} {ce sl : Nat} {ω : Wo} : Cs Γ p l e s m args below meth c Q b Ls xs i v1 v2 M ce sl 376 ω := by
  intro u6 u7 u8 u9 C hK3 hsl hX hb hi hLs e1 e2 r1 r2 hI hM hce kx
  show J Γ p l e R9 s m args below meth c Q 254 ce sl 376 [some (.ref b), some (.ref (rl Γ 0)), some (.ref (rl Γ 243)), some (.ref (rl Γ 252)), some (.ref (rl Γ 253)), some (.int (iI i)), u6, u7, u8, u9] [] ω
  refine j_aload1 C dL_law_376 ?_
  refine j_aload0 C dL_law_377 ?_
  refine j_iload5 C dL_law_378 ?_
  refine j_iconst C dL_law_380 ?_
  refine j_iadd C dL_law_381 ?_
  refine j_sldv C hX hb ⟨by omega, by omega⟩ hLs e1 dL_law_382 ?_
  refine j_aload0 C dL_law_383 ?_
  refine j_iload5 C dL_law_384 ?_
  refine j_iconst C dL_law_386 ?_
  refine j_iadd C dL_law_387 ?_
  refine j_sldv C hX hb ⟨by omega, by omega⟩ hLs e2 dL_law_388 ?_
  refine j_aload3 C dL_law_389 ?_
  refine j_cW (as := [.ref (rl Γ 0), .int (iI v1), .int (iI v2), .ref (rl Γ 252)]) (S := []) C hK3 (s_boat hsl hI hM r1 r2) o_w_boat (show Lk RL 143 yL_boat from (WS_of 793 (by decide +kernel))) ⟨by omega, by decide⟩ rfl rfl (Nat.le_of_ble_eq_true rfl) ⟨by omega, by omega⟩ dL_law_390 ?_
  intro z W1 hz hP
  refine j_istore6 C rfl dL_law_393 ?_
  refine j_aload2 C dL_law_395 ?_
  refine j_aload0 C dL_law_396 ?_
  refine j_iload5 C dL_law_397 ?_
  refine j_iconst C dL_law_399 ?_
  refine j_iadd C dL_law_400 ?_
  refine j_sldv C hX hb ⟨by omega, by omega⟩ hLs e1 dL_law_401 ?_
  refine j_aload0 C dL_law_402 ?_
  refine j_iload5 C dL_law_403 ?_
  refine j_iconst C dL_law_405 ?_
  refine j_iadd C dL_law_406 ?_
  refine j_sldv C hX hb ⟨by omega, by omega⟩ hLs e2 dL_law_407 ?_
  refine j_cVI2 C hP oX9_boat (show Lk RL 146 yX9_boat from (WS_of 1653 (by decide +kernel))) ⟨_, rfl, rfl⟩ at_243 ⟨by decide, by decide⟩ rfl (Nat.le_of_ble_eq_true rfl) ⟨by omega, by omega⟩ dL_law_408 ?_
  intro z2 W2 hz2 hAg
  refine j_istore7 C rfl dL_law_411 ?_
  refine j_aload2 C dL_law_413 ?_
  refine j_cVI0 C (c_X9_thrown hAg.1) oX9_thrown (show Lk RL 134 yX9_thrown from (WS_of 1579 (by decide +kernel))) ⟨_, rfl, rfl⟩ at_243 ⟨by decide, by decide⟩ rfl (Nat.le_of_ble_eq_true rfl) ⟨by omega, by omega⟩ dL_law_414 ?_
  intro t W3 ht hT
  obtain ⟨rfl, rfl⟩ := hT
  refine j_iload6 C dL_law_417 ?_
  refine j_icmp_eq C ht hz dL_law_419 (fun _ => ?_) (fun q => absurd hAg.2.1 q)
  refine j_iload6 C dL_law_424 ?_
  refine j_if_ne C hz dL_law_426 (fun _ => ?_) (fun hk => ?_)
  · refine j_goto C dL_law_441 ?_
    refine j_widen (ce' := ce + 2) (sl' := sl + 12) (by omega) (by omega) ?_
    exact kx _ _ _ _ _ hAg.2.2.2
  refine j_aload3 C dL_law_429 ?_
  refine j_iconst C dL_law_430 ?_
  refine j_lald C (hAg.2.2.1 hk) dL_law_431 ?_
  refine j_iload7 C dL_law_432 ?_
  refine j_i2l C hz2 dL_law_434 ?_
  refine j_lcmp C dL_law_435 ?_
  refine j_if_eq C ⟨by decide, by decide⟩ dL_law_436 (fun _ => ?_) (fun q => absurd rfl q)
  refine j_goto C dL_law_441 ?_
  refine j_widen (ce' := ce + 2) (sl' := sl + 12) (by omega) (by omega) ?_
  exact kx _ _ _ _ _ hAg.2.2.2
set_option maxRecDepth 100000 in
set_option maxHeartbeats 4000000 in
theorem L_4 {Γ : Ga} {p : Program} {l : Launch} {e : Env} {s : State} {m : MethodId} {args : Array Value} {below : List Frame} {meth : Method} {c : Code} {Q : State → Prop} {b Ls : Nat} {xs : Nat → Int32} {i v1 v2 M : Int} {ce sl : Nat} {ω : Wo} : Cs Γ p l e s m args below meth c Q b Ls xs i v1 v2 M ce sl 444 ω := by
  intro u6 u7 u8 u9 C hK3 hsl hX hb hi hLs e1 e2 r1 r2 hI hM hce kx
  show J Γ p l e R9 s m args below meth c Q 254 ce sl 444 [some (.ref b), some (.ref (rl Γ 0)), some (.ref (rl Γ 243)), some (.ref (rl Γ 252)), some (.ref (rl Γ 253)), some (.int (iI i)), u6, u7, u8, u9] [] ω
  refine j_aload1 C dL_law_444 ?_
  refine j_aload0 C dL_law_445 ?_
  refine j_iload5 C dL_law_446 ?_
  refine j_iconst C dL_law_448 ?_
  refine j_iadd C dL_law_449 ?_
  refine j_sldv C hX hb ⟨by omega, by omega⟩ hLs e1 dL_law_450 ?_
  refine j_aload0 C dL_law_451 ?_
  refine j_iload5 C dL_law_452 ?_
  refine j_iconst C dL_law_454 ?_
  refine j_iadd C dL_law_455 ?_
  refine j_sldv C hX hb ⟨by omega, by omega⟩ hLs e2 dL_law_456 ?_
  refine j_aload3 C dL_law_457 ?_
  refine j_cW (as := [.ref (rl Γ 0), .int (iI v1), .int (iI v2), .ref (rl Γ 252)]) (S := []) C hK3 (s_call hsl hI hM r1 r2) o_w_call (show Lk RL 147 yL_call from (WS_of 802 (by decide +kernel))) ⟨by omega, by decide⟩ rfl rfl (Nat.le_of_ble_eq_true rfl) ⟨by omega, by omega⟩ dL_law_458 ?_
  intro z W1 hz hP
  refine j_istore6 C rfl dL_law_461 ?_
  refine j_aload2 C dL_law_463 ?_
  refine j_aload0 C dL_law_464 ?_
  refine j_iload5 C dL_law_465 ?_
  refine j_iconst C dL_law_467 ?_
  refine j_iadd C dL_law_468 ?_
  refine j_sldv C hX hb ⟨by omega, by omega⟩ hLs e1 dL_law_469 ?_
  refine j_aload0 C dL_law_470 ?_
  refine j_iload5 C dL_law_471 ?_
  refine j_iconst C dL_law_473 ?_
  refine j_iadd C dL_law_474 ?_
  refine j_sldv C hX hb ⟨by omega, by omega⟩ hLs e2 dL_law_475 ?_
  refine j_cVI2 C hP oX9_call (show Lk RL 149 yX9_call from (WS_of 1665 (by decide +kernel))) ⟨_, rfl, rfl⟩ at_243 ⟨by decide, by decide⟩ rfl (Nat.le_of_ble_eq_true rfl) ⟨by omega, by omega⟩ dL_law_476 ?_
  intro z2 W2 hz2 hAg
  refine j_istore7 C rfl dL_law_479 ?_
  refine j_aload2 C dL_law_481 ?_
  refine j_cVI0 C (c_X9_thrown hAg.1) oX9_thrown (show Lk RL 134 yX9_thrown from (WS_of 1579 (by decide +kernel))) ⟨_, rfl, rfl⟩ at_243 ⟨by decide, by decide⟩ rfl (Nat.le_of_ble_eq_true rfl) ⟨by omega, by omega⟩ dL_law_482 ?_
  intro t W3 ht hT
  obtain ⟨rfl, rfl⟩ := hT
  refine j_iload6 C dL_law_485 ?_
  refine j_icmp_eq C ht hz dL_law_487 (fun _ => ?_) (fun q => absurd hAg.2.1 q)
  refine j_iload6 C dL_law_492 ?_
  refine j_if_ne C hz dL_law_494 (fun _ => ?_) (fun hk => ?_)
  · refine j_goto C dL_law_509 ?_
    refine j_widen (ce' := ce + 2) (sl' := sl + 12) (by omega) (by omega) ?_
    exact kx _ _ _ _ _ hAg.2.2.2
  refine j_aload3 C dL_law_497 ?_
  refine j_iconst C dL_law_498 ?_
  refine j_lald C (hAg.2.2.1 hk) dL_law_499 ?_
  refine j_iload7 C dL_law_500 ?_
  refine j_i2l C hz2 dL_law_502 ?_
  refine j_lcmp C dL_law_503 ?_
  refine j_if_eq C ⟨by decide, by decide⟩ dL_law_504 (fun _ => ?_) (fun q => absurd rfl q)
  refine j_goto C dL_law_509 ?_
  refine j_widen (ce' := ce + 2) (sl' := sl + 12) (by omega) (by omega) ?_
  exact kx _ _ _ _ _ hAg.2.2.2
set_option maxRecDepth 100000 in
set_option maxHeartbeats 4000000 in
theorem L_5 {Γ : Ga} {p : Program} {l : Launch} {e : Env} {s : State} {m : MethodId} {args : Array Value} {below : List Frame} {meth : Method} {c : Code} {Q : State → Prop} {b Ls : Nat} {xs : Nat → Int32} {i v1 v2 M : Int} {ce sl : Nat} {ω : Wo} : Cs Γ p l e s m args below meth c Q b Ls xs i v1 v2 M ce sl 512 ω := by
  intro u6 u7 u8 u9 C hK3 hsl hX hb hi hLs e1 e2 r1 r2 hI hM hce kx
  show J Γ p l e R9 s m args below meth c Q 254 ce sl 512 [some (.ref b), some (.ref (rl Γ 0)), some (.ref (rl Γ 243)), some (.ref (rl Γ 252)), some (.ref (rl Γ 253)), some (.int (iI i)), u6, u7, u8, u9] [] ω
  refine j_aload1 C dL_law_512 ?_
  refine j_aload0 C dL_law_513 ?_
  refine j_iload5 C dL_law_514 ?_
  refine j_iconst C dL_law_516 ?_
  refine j_iadd C dL_law_517 ?_
  refine j_sldv C hX hb ⟨by omega, by omega⟩ hLs e1 dL_law_518 ?_
  refine j_aload0 C dL_law_519 ?_
  refine j_iload5 C dL_law_520 ?_
  refine j_iconst C dL_law_522 ?_
  refine j_iadd C dL_law_523 ?_
  refine j_sldv C hX hb ⟨by omega, by omega⟩ hLs e2 dL_law_524 ?_
  refine j_aload3 C dL_law_525 ?_
  refine j_cW (as := [.ref (rl Γ 0), .int (iI v1), .int (iI v2), .ref (rl Γ 252)]) (S := []) C hK3 (s_borrow hsl hI hM r1 r2) o_w_borrow (show Lk RL 150 yL_borrow from (WS_of 811 (by decide +kernel))) ⟨by omega, by decide⟩ rfl rfl (Nat.le_of_ble_eq_true rfl) ⟨by omega, by omega⟩ dL_law_526 ?_
  intro z W1 hz hP
  refine j_istore6 C rfl dL_law_529 ?_
  refine j_aload2 C dL_law_531 ?_
  refine j_aload0 C dL_law_532 ?_
  refine j_iload5 C dL_law_533 ?_
  refine j_iconst C dL_law_535 ?_
  refine j_iadd C dL_law_536 ?_
  refine j_sldv C hX hb ⟨by omega, by omega⟩ hLs e1 dL_law_537 ?_
  refine j_aload0 C dL_law_538 ?_
  refine j_iload5 C dL_law_539 ?_
  refine j_iconst C dL_law_541 ?_
  refine j_iadd C dL_law_542 ?_
  refine j_sldv C hX hb ⟨by omega, by omega⟩ hLs e2 dL_law_543 ?_
  refine j_cVI2 C hP oX9_borrow (show Lk RL 152 yX9_borrow from (WS_of 1744 (by decide +kernel))) ⟨_, rfl, rfl⟩ at_243 ⟨by decide, by decide⟩ rfl (Nat.le_of_ble_eq_true rfl) ⟨by omega, by omega⟩ dL_law_544 ?_
  intro z2 W2 hz2 hAg
  refine j_istore7 C rfl dL_law_547 ?_
  refine j_aload2 C dL_law_549 ?_
  refine j_cVI0 C (c_X9_thrown hAg.1) oX9_thrown (show Lk RL 134 yX9_thrown from (WS_of 1579 (by decide +kernel))) ⟨_, rfl, rfl⟩ at_243 ⟨by decide, by decide⟩ rfl (Nat.le_of_ble_eq_true rfl) ⟨by omega, by omega⟩ dL_law_550 ?_
  intro t W3 ht hT
  obtain ⟨rfl, rfl⟩ := hT
  refine j_iload6 C dL_law_553 ?_
  refine j_icmp_eq C ht hz dL_law_555 (fun _ => ?_) (fun q => absurd hAg.2.1 q)
  refine j_iload6 C dL_law_560 ?_
  refine j_if_ne C hz dL_law_562 (fun _ => ?_) (fun hk => ?_)
  · refine j_goto C dL_law_577 ?_
    refine j_widen (ce' := ce + 2) (sl' := sl + 12) (by omega) (by omega) ?_
    exact kx _ _ _ _ _ hAg.2.2.2
  refine j_aload3 C dL_law_565 ?_
  refine j_iconst C dL_law_566 ?_
  refine j_lald C (hAg.2.2.1 hk) dL_law_567 ?_
  refine j_iload7 C dL_law_568 ?_
  refine j_i2l C hz2 dL_law_570 ?_
  refine j_lcmp C dL_law_571 ?_
  refine j_if_eq C ⟨by decide, by decide⟩ dL_law_572 (fun _ => ?_) (fun q => absurd rfl q)
  refine j_goto C dL_law_577 ?_
  refine j_widen (ce' := ce + 2) (sl' := sl + 12) (by omega) (by omega) ?_
  exact kx _ _ _ _ _ hAg.2.2.2
set_option maxRecDepth 100000 in
set_option maxHeartbeats 4000000 in
theorem L_6 {Γ : Ga} {p : Program} {l : Launch} {e : Env} {s : State} {m : MethodId} {args : Array Value} {below : List Frame} {meth : Method} {c : Code} {Q : State → Prop} {b Ls : Nat} {xs : Nat → Int32} {i v1 v2 M : Int} {ce sl : Nat} {ω : Wo} : Cs Γ p l e s m args below meth c Q b Ls xs i v1 v2 M ce sl 580 ω := by
  intro u6 u7 u8 u9 C hK3 hsl hX hb hi hLs e1 e2 r1 r2 hI hM hce kx
  show J Γ p l e R9 s m args below meth c Q 254 ce sl 580 [some (.ref b), some (.ref (rl Γ 0)), some (.ref (rl Γ 243)), some (.ref (rl Γ 252)), some (.ref (rl Γ 253)), some (.int (iI i)), u6, u7, u8, u9] [] ω
  refine j_aload1 C dL_law_580 ?_
  refine j_aload0 C dL_law_581 ?_
  refine j_iload5 C dL_law_582 ?_
  refine j_iconst C dL_law_584 ?_
  refine j_iadd C dL_law_585 ?_
  refine j_sldv C hX hb ⟨by omega, by omega⟩ hLs e1 dL_law_586 ?_
  refine j_aload3 C dL_law_587 ?_
  refine j_cW (as := [.ref (rl Γ 0), .int (iI v1), .ref (rl Γ 252)]) (S := []) C hK3 (s_giveBack hsl hI hM r1) o_w_giveBack (show Lk RL 153 yL_giveBack from (WS_of 820 (by decide +kernel))) ⟨by omega, by decide⟩ rfl rfl (Nat.le_of_ble_eq_true rfl) ⟨by omega, by omega⟩ dL_law_588 ?_
  intro z W1 hz hP
  refine j_istore6 C rfl dL_law_591 ?_
  refine j_aload2 C dL_law_593 ?_
  refine j_aload0 C dL_law_594 ?_
  refine j_iload5 C dL_law_595 ?_
  refine j_iconst C dL_law_597 ?_
  refine j_iadd C dL_law_598 ?_
  refine j_sldv C hX hb ⟨by omega, by omega⟩ hLs e1 dL_law_599 ?_
  refine j_cVI1 C hP oX9_giveBack (show Lk RL 155 yX9_giveBack from (WS_of 1752 (by decide +kernel))) ⟨_, rfl, rfl⟩ at_243 ⟨by decide, by decide⟩ rfl (Nat.le_of_ble_eq_true rfl) ⟨by omega, by omega⟩ dL_law_600 ?_
  intro z2 W2 hz2 hAg
  refine j_istore7 C rfl dL_law_603 ?_
  refine j_aload2 C dL_law_605 ?_
  refine j_cVI0 C (c_X9_thrown hAg.1) oX9_thrown (show Lk RL 134 yX9_thrown from (WS_of 1579 (by decide +kernel))) ⟨_, rfl, rfl⟩ at_243 ⟨by decide, by decide⟩ rfl (Nat.le_of_ble_eq_true rfl) ⟨by omega, by omega⟩ dL_law_606 ?_
  intro t W3 ht hT
  obtain ⟨rfl, rfl⟩ := hT
  refine j_iload6 C dL_law_609 ?_
  refine j_icmp_eq C ht hz dL_law_611 (fun _ => ?_) (fun q => absurd hAg.2.1 q)
  refine j_iload6 C dL_law_616 ?_
  refine j_if_ne C hz dL_law_618 (fun _ => ?_) (fun hk => ?_)
  · refine j_goto C dL_law_633 ?_
    refine j_widen (ce' := ce + 2) (sl' := sl + 12) (by omega) (by omega) ?_
    exact kx _ _ _ _ _ hAg.2.2.2
  refine j_aload3 C dL_law_621 ?_
  refine j_iconst C dL_law_622 ?_
  refine j_lald C (hAg.2.2.1 hk) dL_law_623 ?_
  refine j_iload7 C dL_law_624 ?_
  refine j_i2l C hz2 dL_law_626 ?_
  refine j_lcmp C dL_law_627 ?_
  refine j_if_eq C ⟨by decide, by decide⟩ dL_law_628 (fun _ => ?_) (fun q => absurd rfl q)
  refine j_goto C dL_law_633 ?_
  refine j_widen (ce' := ce + 2) (sl' := sl + 12) (by omega) (by omega) ?_
  exact kx _ _ _ _ _ hAg.2.2.2
set_option maxRecDepth 100000 in
set_option maxHeartbeats 4000000 in
theorem L_7 {Γ : Ga} {p : Program} {l : Launch} {e : Env} {s : State} {m : MethodId} {args : Array Value} {below : List Frame} {meth : Method} {c : Code} {Q : State → Prop} {b Ls : Nat} {xs : Nat → Int32} {i v1 v2 M : Int} {ce sl : Nat} {ω : Wo} : Cs Γ p l e s m args below meth c Q b Ls xs i v1 v2 M ce sl 636 ω := by
  intro u6 u7 u8 u9 C hK3 hsl hX hb hi hLs e1 e2 r1 r2 hI hM hce kx
  show J Γ p l e R9 s m args below meth c Q 254 ce sl 636 [some (.ref b), some (.ref (rl Γ 0)), some (.ref (rl Γ 243)), some (.ref (rl Γ 252)), some (.ref (rl Γ 253)), some (.int (iI i)), u6, u7, u8, u9] [] ω
  refine j_aload1 C dL_law_636 ?_
  refine j_aload0 C dL_law_637 ?_
  refine j_iload5 C dL_law_638 ?_
  refine j_iconst C dL_law_640 ?_
  refine j_iadd C dL_law_641 ?_
  refine j_sldv C hX hb ⟨by omega, by omega⟩ hLs e1 dL_law_642 ?_
  refine j_aload3 C dL_law_643 ?_
  refine j_cW (as := [.ref (rl Γ 0), .int (iI v1), .ref (rl Γ 252)]) (S := []) C hK3 (s_limit hsl hI hM r1) o_w_limit (show Lk RL 156 yL_limit from (WS_of 829 (by decide +kernel))) ⟨by omega, by decide⟩ rfl rfl (Nat.le_of_ble_eq_true rfl) ⟨by omega, by omega⟩ dL_law_644 ?_
  intro z W1 hz hP
  refine j_istore6 C rfl dL_law_647 ?_
  refine j_aload2 C dL_law_649 ?_
  refine j_aload0 C dL_law_650 ?_
  refine j_iload5 C dL_law_651 ?_
  refine j_iconst C dL_law_653 ?_
  refine j_iadd C dL_law_654 ?_
  refine j_sldv C hX hb ⟨by omega, by omega⟩ hLs e1 dL_law_655 ?_
  refine j_cVI1 C hP oX9_limit (show Lk RL 158 yX9_limit from (WS_of 1768 (by decide +kernel))) ⟨_, rfl, rfl⟩ at_243 ⟨by decide, by decide⟩ rfl (Nat.le_of_ble_eq_true rfl) ⟨by omega, by omega⟩ dL_law_656 ?_
  intro z2 W2 hz2 hAg
  refine j_istore7 C rfl dL_law_659 ?_
  refine j_aload2 C dL_law_661 ?_
  refine j_cVI0 C (c_X9_thrown hAg.1) oX9_thrown (show Lk RL 134 yX9_thrown from (WS_of 1579 (by decide +kernel))) ⟨_, rfl, rfl⟩ at_243 ⟨by decide, by decide⟩ rfl (Nat.le_of_ble_eq_true rfl) ⟨by omega, by omega⟩ dL_law_662 ?_
  intro t W3 ht hT
  obtain ⟨rfl, rfl⟩ := hT
  refine j_iload6 C dL_law_665 ?_
  refine j_icmp_eq C ht hz dL_law_667 (fun _ => ?_) (fun q => absurd hAg.2.1 q)
  refine j_iload6 C dL_law_672 ?_
  refine j_if_ne C hz dL_law_674 (fun _ => ?_) (fun hk => ?_)
  · refine j_goto C dL_law_689 ?_
    refine j_widen (ce' := ce + 2) (sl' := sl + 12) (by omega) (by omega) ?_
    exact kx _ _ _ _ _ hAg.2.2.2
  refine j_aload3 C dL_law_677 ?_
  refine j_iconst C dL_law_678 ?_
  refine j_lald C (hAg.2.2.1 hk) dL_law_679 ?_
  refine j_iload7 C dL_law_680 ?_
  refine j_i2l C hz2 dL_law_682 ?_
  refine j_lcmp C dL_law_683 ?_
  refine j_if_eq C ⟨by decide, by decide⟩ dL_law_684 (fun _ => ?_) (fun q => absurd rfl q)
  refine j_goto C dL_law_689 ?_
  refine j_widen (ce' := ce + 2) (sl' := sl + 12) (by omega) (by omega) ?_
  exact kx _ _ _ _ _ hAg.2.2.2
set_option maxRecDepth 100000 in
set_option maxHeartbeats 4000000 in
theorem L_8 {Γ : Ga} {p : Program} {l : Launch} {e : Env} {s : State} {m : MethodId} {args : Array Value} {below : List Frame} {meth : Method} {c : Code} {Q : State → Prop} {b Ls : Nat} {xs : Nat → Int32} {i v1 v2 M : Int} {ce sl : Nat} {ω : Wo} : Cs Γ p l e s m args below meth c Q b Ls xs i v1 v2 M ce sl 692 ω := by
  intro u6 u7 u8 u9 C hK3 hsl hX hb hi hLs e1 e2 r1 r2 hI hM hce kx
  show J Γ p l e R9 s m args below meth c Q 254 ce sl 692 [some (.ref b), some (.ref (rl Γ 0)), some (.ref (rl Γ 243)), some (.ref (rl Γ 252)), some (.ref (rl Γ 253)), some (.int (iI i)), u6, u7, u8, u9] [] ω
  refine j_aload1 C dL_law_692 ?_
  refine j_aload0 C dL_law_693 ?_
  refine j_iload5 C dL_law_694 ?_
  refine j_iconst C dL_law_696 ?_
  refine j_iadd C dL_law_697 ?_
  refine j_sldv C hX hb ⟨by omega, by omega⟩ hLs e1 dL_law_698 ?_
  refine j_aload3 C dL_law_699 ?_
  refine j_cW (as := [.ref (rl Γ 0), .int (iI v1), .ref (rl Γ 252)]) (S := []) C hK3 (s_pass hsl hI hM r1) o_w_pass (show Lk RL 159 yL_pass from (WS_of 838 (by decide +kernel))) ⟨by omega, by decide⟩ rfl rfl (Nat.le_of_ble_eq_true rfl) ⟨by omega, by omega⟩ dL_law_700 ?_
  intro z W1 hz hP
  refine j_istore6 C rfl dL_law_703 ?_
  refine j_aload2 C dL_law_705 ?_
  refine j_aload0 C dL_law_706 ?_
  refine j_iload5 C dL_law_707 ?_
  refine j_iconst C dL_law_709 ?_
  refine j_iadd C dL_law_710 ?_
  refine j_sldv C hX hb ⟨by omega, by omega⟩ hLs e1 dL_law_711 ?_
  refine j_cVI1 C hP oX9_pass (show Lk RL 161 yX9_pass from (WS_of 1776 (by decide +kernel))) ⟨_, rfl, rfl⟩ at_243 ⟨by decide, by decide⟩ rfl (Nat.le_of_ble_eq_true rfl) ⟨by omega, by omega⟩ dL_law_712 ?_
  intro z2 W2 hz2 hAg
  refine j_istore7 C rfl dL_law_715 ?_
  refine j_aload2 C dL_law_717 ?_
  refine j_cVI0 C (c_X9_thrown hAg.1) oX9_thrown (show Lk RL 134 yX9_thrown from (WS_of 1579 (by decide +kernel))) ⟨_, rfl, rfl⟩ at_243 ⟨by decide, by decide⟩ rfl (Nat.le_of_ble_eq_true rfl) ⟨by omega, by omega⟩ dL_law_718 ?_
  intro t W3 ht hT
  obtain ⟨rfl, rfl⟩ := hT
  refine j_iload6 C dL_law_721 ?_
  refine j_icmp_eq C ht hz dL_law_723 (fun _ => ?_) (fun q => absurd hAg.2.1 q)
  refine j_iload6 C dL_law_728 ?_
  refine j_if_ne C hz dL_law_730 (fun _ => ?_) (fun hk => ?_)
  · refine j_goto C dL_law_745 ?_
    refine j_widen (ce' := ce + 2) (sl' := sl + 12) (by omega) (by omega) ?_
    exact kx _ _ _ _ _ hAg.2.2.2
  refine j_aload3 C dL_law_733 ?_
  refine j_iconst C dL_law_734 ?_
  refine j_lald C (hAg.2.2.1 hk) dL_law_735 ?_
  refine j_iload7 C dL_law_736 ?_
  refine j_i2l C hz2 dL_law_738 ?_
  refine j_lcmp C dL_law_739 ?_
  refine j_if_eq C ⟨by decide, by decide⟩ dL_law_740 (fun _ => ?_) (fun q => absurd rfl q)
  refine j_goto C dL_law_745 ?_
  refine j_widen (ce' := ce + 2) (sl' := sl + 12) (by omega) (by omega) ?_
  exact kx _ _ _ _ _ hAg.2.2.2
set_option maxRecDepth 100000 in
set_option maxHeartbeats 4000000 in
theorem L_9 {Γ : Ga} {p : Program} {l : Launch} {e : Env} {s : State} {m : MethodId} {args : Array Value} {below : List Frame} {meth : Method} {c : Code} {Q : State → Prop} {b Ls : Nat} {xs : Nat → Int32} {i v1 v2 M : Int} {ce sl : Nat} {ω : Wo} : Cs Γ p l e s m args below meth c Q b Ls xs i v1 v2 M ce sl 748 ω := by
  intro u6 u7 u8 u9 C hK3 hsl hX hb hi hLs e1 e2 r1 r2 hI hM hce kx
  show J Γ p l e R9 s m args below meth c Q 254 ce sl 748 [some (.ref b), some (.ref (rl Γ 0)), some (.ref (rl Γ 243)), some (.ref (rl Γ 252)), some (.ref (rl Γ 253)), some (.int (iI i)), u6, u7, u8, u9] [] ω
  refine j_aload1 C dL_law_748 ?_
  refine j_aload0 C dL_law_749 ?_
  refine j_iload5 C dL_law_750 ?_
  refine j_iconst C dL_law_752 ?_
  refine j_iadd C dL_law_753 ?_
  refine j_sldv C hX hb ⟨by omega, by omega⟩ hLs e1 dL_law_754 ?_
  refine j_aload3 C dL_law_755 ?_
  refine j_cW (as := [.ref (rl Γ 0), .int (iI v1), .ref (rl Γ 252)]) (S := []) C hK3 (s_height hsl hI hM r1) o_w_height (show Lk RL 162 yL_height from (WS_of 847 (by decide +kernel))) ⟨by omega, by decide⟩ rfl rfl (Nat.le_of_ble_eq_true rfl) ⟨by omega, by omega⟩ dL_law_756 ?_
  intro z W1 hz hP
  refine j_istore6 C rfl dL_law_759 ?_
  refine j_aload2 C dL_law_761 ?_
  refine j_aload0 C dL_law_762 ?_
  refine j_iload5 C dL_law_763 ?_
  refine j_iconst C dL_law_765 ?_
  refine j_iadd C dL_law_766 ?_
  refine j_sldv C hX hb ⟨by omega, by omega⟩ hLs e1 dL_law_767 ?_
  refine j_cVI1 C hP oX9_height (show Lk RL 164 yX9_height from (WS_of 1807 (by decide +kernel))) ⟨_, rfl, rfl⟩ at_243 ⟨by decide, by decide⟩ rfl (Nat.le_of_ble_eq_true rfl) ⟨by omega, by omega⟩ dL_law_768 ?_
  intro z2 W2 hz2 hAg
  refine j_istore7 C rfl dL_law_771 ?_
  refine j_aload2 C dL_law_773 ?_
  refine j_cVI0 C (c_X9_thrown hAg.1) oX9_thrown (show Lk RL 134 yX9_thrown from (WS_of 1579 (by decide +kernel))) ⟨_, rfl, rfl⟩ at_243 ⟨by decide, by decide⟩ rfl (Nat.le_of_ble_eq_true rfl) ⟨by omega, by omega⟩ dL_law_774 ?_
  intro t W3 ht hT
  obtain ⟨rfl, rfl⟩ := hT
  refine j_iload6 C dL_law_777 ?_
  refine j_icmp_eq C ht hz dL_law_779 (fun _ => ?_) (fun q => absurd hAg.2.1 q)
  refine j_iload6 C dL_law_784 ?_
  refine j_if_ne C hz dL_law_786 (fun _ => ?_) (fun hk => ?_)
  · refine j_goto C dL_law_801 ?_
    refine j_widen (ce' := ce + 2) (sl' := sl + 12) (by omega) (by omega) ?_
    exact kx _ _ _ _ _ hAg.2.2.2
  refine j_aload3 C dL_law_789 ?_
  refine j_iconst C dL_law_790 ?_
  refine j_lald C (hAg.2.2.1 hk) dL_law_791 ?_
  refine j_iload7 C dL_law_792 ?_
  refine j_i2l C hz2 dL_law_794 ?_
  refine j_lcmp C dL_law_795 ?_
  refine j_if_eq C ⟨by decide, by decide⟩ dL_law_796 (fun _ => ?_) (fun q => absurd rfl q)
  refine j_goto C dL_law_801 ?_
  refine j_widen (ce' := ce + 2) (sl' := sl + 12) (by omega) (by omega) ?_
  exact kx _ _ _ _ _ hAg.2.2.2
set_option maxRecDepth 100000 in
set_option maxHeartbeats 4000000 in
theorem L_10 {Γ : Ga} {p : Program} {l : Launch} {e : Env} {s : State} {m : MethodId} {args : Array Value} {below : List Frame} {meth : Method} {c : Code} {Q : State → Prop} {b Ls : Nat} {xs : Nat → Int32} {i v1 v2 M : Int} {ce sl : Nat} {ω : Wo} : Cs Γ p l e s m args below meth c Q b Ls xs i v1 v2 M ce sl 804 ω := by
  intro u6 u7 u8 u9 C hK3 hsl hX hb hi hLs e1 e2 r1 r2 hI hM hce kx
  show J Γ p l e R9 s m args below meth c Q 254 ce sl 804 [some (.ref b), some (.ref (rl Γ 0)), some (.ref (rl Γ 243)), some (.ref (rl Γ 252)), some (.ref (rl Γ 253)), some (.int (iI i)), u6, u7, u8, u9] [] ω
  refine j_aload1 C dL_law_804 ?_
  refine j_aload0 C dL_law_805 ?_
  refine j_iload5 C dL_law_806 ?_
  refine j_iconst C dL_law_808 ?_
  refine j_iadd C dL_law_809 ?_
  refine j_sldv C hX hb ⟨by omega, by omega⟩ hLs e1 dL_law_810 ?_
  refine j_aload0 C dL_law_811 ?_
  refine j_iload5 C dL_law_812 ?_
  refine j_iconst C dL_law_814 ?_
  refine j_iadd C dL_law_815 ?_
  refine j_sldv C hX hb ⟨by omega, by omega⟩ hLs e2 dL_law_816 ?_
  refine j_aload3 C dL_law_817 ?_
  refine j_cW (as := [.ref (rl Γ 0), .int (iI v1), .int (iI v2), .ref (rl Γ 252)]) (S := []) C hK3 (s_memberOf hsl hI hM r1 r2) o_w_memberOf (show Lk RL 165 yL_memberOf from (WS_of 872 (by decide +kernel))) ⟨by omega, by decide⟩ rfl rfl (Nat.le_of_ble_eq_true rfl) ⟨by omega, by omega⟩ dL_law_818 ?_
  intro z W1 hz hP
  refine j_istore6 C rfl dL_law_821 ?_
  refine j_aload2 C dL_law_823 ?_
  refine j_aload0 C dL_law_824 ?_
  refine j_iload5 C dL_law_825 ?_
  refine j_iconst C dL_law_827 ?_
  refine j_iadd C dL_law_828 ?_
  refine j_sldv C hX hb ⟨by omega, by omega⟩ hLs e1 dL_law_829 ?_
  refine j_aload0 C dL_law_830 ?_
  refine j_iload5 C dL_law_831 ?_
  refine j_iconst C dL_law_833 ?_
  refine j_iadd C dL_law_834 ?_
  refine j_sldv C hX hb ⟨by omega, by omega⟩ hLs e2 dL_law_835 ?_
  refine j_cVI2 C hP oX9_memberOf (show Lk RL 167 yX9_memberOf from (WS_of 1815 (by decide +kernel))) ⟨_, rfl, rfl⟩ at_243 ⟨by decide, by decide⟩ rfl (Nat.le_of_ble_eq_true rfl) ⟨by omega, by omega⟩ dL_law_836 ?_
  intro z2 W2 hz2 hAg
  refine j_istore7 C rfl dL_law_839 ?_
  refine j_aload2 C dL_law_841 ?_
  refine j_cVI0 C (c_X9_thrown hAg.1) oX9_thrown (show Lk RL 134 yX9_thrown from (WS_of 1579 (by decide +kernel))) ⟨_, rfl, rfl⟩ at_243 ⟨by decide, by decide⟩ rfl (Nat.le_of_ble_eq_true rfl) ⟨by omega, by omega⟩ dL_law_842 ?_
  intro t W3 ht hT
  obtain ⟨rfl, rfl⟩ := hT
  refine j_iload6 C dL_law_845 ?_
  refine j_icmp_eq C ht hz dL_law_847 (fun _ => ?_) (fun q => absurd hAg.2.1 q)
  refine j_iload6 C dL_law_852 ?_
  refine j_if_ne C hz dL_law_854 (fun _ => ?_) (fun hk => ?_)
  · refine j_goto C dL_law_869 ?_
    refine j_widen (ce' := ce + 2) (sl' := sl + 12) (by omega) (by omega) ?_
    exact kx _ _ _ _ _ hAg.2.2.2
  refine j_aload3 C dL_law_857 ?_
  refine j_iconst C dL_law_858 ?_
  refine j_lald C (hAg.2.2.1 hk) dL_law_859 ?_
  refine j_iload7 C dL_law_860 ?_
  refine j_i2l C hz2 dL_law_862 ?_
  refine j_lcmp C dL_law_863 ?_
  refine j_if_eq C ⟨by decide, by decide⟩ dL_law_864 (fun _ => ?_) (fun q => absurd rfl q)
  refine j_goto C dL_law_869 ?_
  refine j_widen (ce' := ce + 2) (sl' := sl + 12) (by omega) (by omega) ?_
  exact kx _ _ _ _ _ hAg.2.2.2
set_option maxRecDepth 100000 in
set_option maxHeartbeats 4000000 in
theorem L_11 {Γ : Ga} {p : Program} {l : Launch} {e : Env} {s : State} {m : MethodId} {args : Array Value} {below : List Frame} {meth : Method} {c : Code} {Q : State → Prop} {b Ls : Nat} {xs : Nat → Int32} {i v1 v2 M : Int} {ce sl : Nat} {ω : Wo} : Cs Γ p l e s m args below meth c Q b Ls xs i v1 v2 M ce sl 872 ω := by
  intro u6 u7 u8 u9 C hK3 hsl hX hb hi hLs e1 e2 r1 r2 hI hM hce kx
  show J Γ p l e R9 s m args below meth c Q 254 ce sl 872 [some (.ref b), some (.ref (rl Γ 0)), some (.ref (rl Γ 243)), some (.ref (rl Γ 252)), some (.ref (rl Γ 253)), some (.int (iI i)), u6, u7, u8, u9] [] ω
  refine j_aload1 C dL_law_872 ?_
  refine j_aload0 C dL_law_873 ?_
  refine j_iload5 C dL_law_874 ?_
  refine j_iconst C dL_law_876 ?_
  refine j_iadd C dL_law_877 ?_
  refine j_sldv C hX hb ⟨by omega, by omega⟩ hLs e1 dL_law_878 ?_
  refine j_aload0 C dL_law_879 ?_
  refine j_iload5 C dL_law_880 ?_
  refine j_iconst C dL_law_882 ?_
  refine j_iadd C dL_law_883 ?_
  refine j_sldv C hX hb ⟨by omega, by omega⟩ hLs e2 dL_law_884 ?_
  refine j_aload3 C dL_law_885 ?_
  refine j_cW (as := [.ref (rl Γ 0), .int (iI v1), .int (iI v2), .ref (rl Γ 252)]) (S := []) C hK3 (s_boatOf hsl hI hM r1 r2) o_w_boatOf (show Lk RL 168 yL_boatOf from (WS_of 920 (by decide +kernel))) ⟨by omega, by decide⟩ rfl rfl (Nat.le_of_ble_eq_true rfl) ⟨by omega, by omega⟩ dL_law_886 ?_
  intro z W1 hz hP
  refine j_istore6 C rfl dL_law_889 ?_
  refine j_aload2 C dL_law_891 ?_
  refine j_aload0 C dL_law_892 ?_
  refine j_iload5 C dL_law_893 ?_
  refine j_iconst C dL_law_895 ?_
  refine j_iadd C dL_law_896 ?_
  refine j_sldv C hX hb ⟨by omega, by omega⟩ hLs e1 dL_law_897 ?_
  refine j_aload0 C dL_law_898 ?_
  refine j_iload5 C dL_law_899 ?_
  refine j_iconst C dL_law_901 ?_
  refine j_iadd C dL_law_902 ?_
  refine j_sldv C hX hb ⟨by omega, by omega⟩ hLs e2 dL_law_903 ?_
  refine j_cVI2 C hP oX9_boatOf (show Lk RL 170 yX9_boatOf from (WS_of 1819 (by decide +kernel))) ⟨_, rfl, rfl⟩ at_243 ⟨by decide, by decide⟩ rfl (Nat.le_of_ble_eq_true rfl) ⟨by omega, by omega⟩ dL_law_904 ?_
  intro z2 W2 hz2 hAg
  refine j_istore7 C rfl dL_law_907 ?_
  refine j_aload2 C dL_law_909 ?_
  refine j_cVI0 C (c_X9_thrown hAg.1) oX9_thrown (show Lk RL 134 yX9_thrown from (WS_of 1579 (by decide +kernel))) ⟨_, rfl, rfl⟩ at_243 ⟨by decide, by decide⟩ rfl (Nat.le_of_ble_eq_true rfl) ⟨by omega, by omega⟩ dL_law_910 ?_
  intro t W3 ht hT
  obtain ⟨rfl, rfl⟩ := hT
  refine j_iload6 C dL_law_913 ?_
  refine j_icmp_eq C ht hz dL_law_915 (fun _ => ?_) (fun q => absurd hAg.2.1 q)
  refine j_iload6 C dL_law_920 ?_
  refine j_if_ne C hz dL_law_922 (fun _ => ?_) (fun hk => ?_)
  · refine j_goto C dL_law_937 ?_
    refine j_widen (ce' := ce + 2) (sl' := sl + 12) (by omega) (by omega) ?_
    exact kx _ _ _ _ _ hAg.2.2.2
  refine j_aload3 C dL_law_925 ?_
  refine j_iconst C dL_law_926 ?_
  refine j_lald C (hAg.2.2.1 hk) dL_law_927 ?_
  refine j_iload7 C dL_law_928 ?_
  refine j_i2l C hz2 dL_law_930 ?_
  refine j_lcmp C dL_law_931 ?_
  refine j_if_eq C ⟨by decide, by decide⟩ dL_law_932 (fun _ => ?_) (fun q => absurd rfl q)
  refine j_goto C dL_law_937 ?_
  refine j_widen (ce' := ce + 2) (sl' := sl + 12) (by omega) (by omega) ?_
  exact kx _ _ _ _ _ hAg.2.2.2
set_option maxRecDepth 100000 in
set_option maxHeartbeats 4000000 in
theorem L_12 {Γ : Ga} {p : Program} {l : Launch} {e : Env} {s : State} {m : MethodId} {args : Array Value} {below : List Frame} {meth : Method} {c : Code} {Q : State → Prop} {b Ls : Nat} {xs : Nat → Int32} {i v1 v2 M : Int} {ce sl : Nat} {ω : Wo} : Cs Γ p l e s m args below meth c Q b Ls xs i v1 v2 M ce sl 940 ω := by
  intro u6 u7 u8 u9 C hK3 hsl hX hb hi hLs e1 e2 r1 r2 hI hM hce kx
  show J Γ p l e R9 s m args below meth c Q 254 ce sl 940 [some (.ref b), some (.ref (rl Γ 0)), some (.ref (rl Γ 243)), some (.ref (rl Γ 252)), some (.ref (rl Γ 253)), some (.int (iI i)), u6, u7, u8, u9] [] ω
  refine j_aload1 C dL_law_940 ?_
  refine j_aload0 C dL_law_941 ?_
  refine j_iload5 C dL_law_942 ?_
  refine j_iconst C dL_law_944 ?_
  refine j_iadd C dL_law_945 ?_
  refine j_sldv C hX hb ⟨by omega, by omega⟩ hLs e1 dL_law_946 ?_
  refine j_aload3 C dL_law_947 ?_
  refine j_cW (as := [.ref (rl Γ 0), .int (iI v1), .ref (rl Γ 252)]) (S := []) C hK3 (s_crew hsl hI hM r1) o_w_crew (show Lk RL 171 yL_crew from (WS_of 935 (by decide +kernel))) ⟨by omega, by decide⟩ rfl rfl (Nat.le_of_ble_eq_true rfl) ⟨by omega, by omega⟩ dL_law_948 ?_
  intro z W1 hz hP
  refine j_istore6 C rfl dL_law_951 ?_
  refine j_aload2 C dL_law_953 ?_
  refine j_aload0 C dL_law_954 ?_
  refine j_iload5 C dL_law_955 ?_
  refine j_iconst C dL_law_957 ?_
  refine j_iadd C dL_law_958 ?_
  refine j_sldv C hX hb ⟨by omega, by omega⟩ hLs e1 dL_law_959 ?_
  refine j_cVI1 C hP oX9_crew (show Lk RL 173 yX9_crew from (WS_of 1823 (by decide +kernel))) ⟨_, rfl, rfl⟩ at_243 ⟨by decide, by decide⟩ rfl (Nat.le_of_ble_eq_true rfl) ⟨by omega, by omega⟩ dL_law_960 ?_
  intro z2 W2 hz2 hAg
  refine j_istore7 C rfl dL_law_963 ?_
  refine j_aload2 C dL_law_965 ?_
  refine j_cVI0 C (c_X9_thrown hAg.1) oX9_thrown (show Lk RL 134 yX9_thrown from (WS_of 1579 (by decide +kernel))) ⟨_, rfl, rfl⟩ at_243 ⟨by decide, by decide⟩ rfl (Nat.le_of_ble_eq_true rfl) ⟨by omega, by omega⟩ dL_law_966 ?_
  intro t W3 ht hT
  obtain ⟨rfl, rfl⟩ := hT
  refine j_iload6 C dL_law_969 ?_
  refine j_icmp_eq C ht hz dL_law_971 (fun _ => ?_) (fun q => absurd hAg.2.1 q)
  refine j_iload6 C dL_law_976 ?_
  refine j_if_ne C hz dL_law_978 (fun _ => ?_) (fun hk => ?_)
  · refine j_goto C dL_law_993 ?_
    refine j_widen (ce' := ce + 2) (sl' := sl + 12) (by omega) (by omega) ?_
    exact kx _ _ _ _ _ hAg.2.2.2
  refine j_aload3 C dL_law_981 ?_
  refine j_iconst C dL_law_982 ?_
  refine j_lald C (hAg.2.2.1 hk) dL_law_983 ?_
  refine j_iload7 C dL_law_984 ?_
  refine j_i2l C hz2 dL_law_986 ?_
  refine j_lcmp C dL_law_987 ?_
  refine j_if_eq C ⟨by decide, by decide⟩ dL_law_988 (fun _ => ?_) (fun q => absurd rfl q)
  refine j_goto C dL_law_993 ?_
  refine j_widen (ce' := ce + 2) (sl' := sl + 12) (by omega) (by omega) ?_
  exact kx _ _ _ _ _ hAg.2.2.2
