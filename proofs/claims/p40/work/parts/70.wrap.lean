/-! the law's wrappers: what is answered, or which exception -/
set_option maxRecDepth 100000 in
set_option maxHeartbeats 4000000 in
theorem w_call {Γ : Ga} {l : Launch} {ω : Wo} {d k : Nat} {a : Int} {b : Int} {Po : Int → Wo → Prop} {X : String → Wo → Prop} (hd : d ≤ 20) (hM : XI Γ l yX8_call cX8_call 3 .int d k [.ref (rl Γ 0), .int (iI a), .int (iI b)] ω Po X) (hX : ∀ E ω', X E ω' → E = eUn) : CW Γ l yL_call cL_call 4 [(0, 6, 7, 15)] 21 k [.ref (rl Γ 0), .int (iI a), .int (iI b)] ω (fun z ω' => Po z ω' ∨ (z = -900001 ∧ X eUn ω')) := by
  refine MetH.ofJ (k := 1) [some (.ref (rl Γ 0)), some (.int (iI a)), some (.int (iI b)), none] (by decide) rfl rfl rfl (fun p e s mm args below meth c C hK3 ht hrt => ?_)
  refine j_aload0 C dL_call_0 ?_
  refine j_iload1 C dL_call_1 ?_
  refine j_iload2 C dL_call_2 ?_
  refine j_tI2 C hK3.1 hM oX8_call (show Lk yL_call.cls 28 yX8_call from (WS_of 267 (by decide +kernel))) ⟨_, rfl, rfl⟩ at_0 ⟨by omega, by decide⟩ rfl (Nat.le_of_ble_eq_true rfl) ⟨by omega, by omega⟩ dL_call_3 (fun E ω1 hE => ?_) ?_
  · have hE9 := hX E ω1 hE
    subst hE9
    refine ⟨7, Hd.one (hh := []) ht (by decide) (by decide) (C.2.2.2.2.1 _ (WS_of 266 (by decide +kernel))) (hK3.1.2.2.2.1 _ (List.mem_of_getElem? (i := 4) rfl)), fun q => ?_⟩
    refine j_astore3 C rfl dL_call_7 ?_
    refine j_ldc (z := -900001) C (WS_of 468 (by decide +kernel)) dL_call_8 ?_
    refine j_widen (ce' := k) (sl' := 6 * k) (by omega) (by omega) ?_
    exact j_iret C hrt dL_call_10 ⟨by decide, by decide⟩ (Or.inr (⟨rfl, hE⟩))
  intro v ω1 hv hPo
  refine j_widen (ce' := k) (sl' := 6 * k) (by omega) (by omega) ?_
  exact j_iret C hrt dL_call_6 hv (Or.inl hPo)
theorem o_w_call : Ow yL_call cL_call 4 [(0, 6, 7, 15)] 3 := ⟨(WS_of 264 (by decide +kernel)), (WS_of 27 (by decide +kernel)), (WS_of 265 (by decide +kernel)), ⟨by decide +kernel, by decide +kernel, by decide +kernel⟩⟩
set_option maxRecDepth 100000 in
set_option maxHeartbeats 4000000 in
theorem w_limit {Γ : Ga} {l : Launch} {ω : Wo} {d k : Nat} {a : Int} {Po : Int → Wo → Prop} {X : String → Wo → Prop} (hd : d ≤ 20) (hM : XI Γ l yX8_limit cX8_limit 2 .int d k [.ref (rl Γ 0), .int (iI a)] ω Po X) (hX : ∀ E ω', X E ω' → E = eUn) : CW Γ l yL_limit cL_limit 3 [(0, 5, 6, 15)] 21 k [.ref (rl Γ 0), .int (iI a)] ω (fun z ω' => Po z ω' ∨ (z = -900001 ∧ X eUn ω')) := by
  refine MetH.ofJ (k := 1) [some (.ref (rl Γ 0)), some (.int (iI a)), none] (by decide) rfl rfl rfl (fun p e s mm args below meth c C hK3 ht hrt => ?_)
  refine j_aload0 C dL_limit_0 ?_
  refine j_iload1 C dL_limit_1 ?_
  refine j_tI1 C hK3.1 hM oX8_limit (show Lk yL_limit.cls 37 yX8_limit from (WS_of 472 (by decide +kernel))) ⟨_, rfl, rfl⟩ at_0 ⟨by omega, by decide⟩ rfl (Nat.le_of_ble_eq_true rfl) ⟨by omega, by omega⟩ dL_limit_2 (fun E ω1 hE => ?_) ?_
  · have hE9 := hX E ω1 hE
    subst hE9
    refine ⟨6, Hd.one (hh := []) ht (by decide) (by decide) (C.2.2.2.2.1 _ (WS_of 266 (by decide +kernel))) (hK3.1.2.2.2.1 _ (List.mem_of_getElem? (i := 4) rfl)), fun q => ?_⟩
    refine j_astore2 C rfl dL_limit_6 ?_
    refine j_ldc (z := -900001) C (WS_of 468 (by decide +kernel)) dL_limit_7 ?_
    refine j_widen (ce' := k) (sl' := 6 * k) (by omega) (by omega) ?_
    exact j_iret C hrt dL_limit_9 ⟨by decide, by decide⟩ (Or.inr (⟨rfl, hE⟩))
  intro v ω1 hv hPo
  refine j_widen (ce' := k) (sl' := 6 * k) (by omega) (by omega) ?_
  exact j_iret C hrt dL_limit_5 hv (Or.inl hPo)
theorem o_w_limit : Ow yL_limit cL_limit 3 [(0, 5, 6, 15)] 2 := ⟨(WS_of 470 (by decide +kernel)), (WS_of 27 (by decide +kernel)), (WS_of 471 (by decide +kernel)), ⟨by decide +kernel, by decide +kernel, by decide +kernel⟩⟩
set_option maxRecDepth 100000 in
set_option maxHeartbeats 4000000 in
theorem w_pass {Γ : Ga} {l : Launch} {ω : Wo} {d k : Nat} {a : Int} {Po : Int → Wo → Prop} {X : String → Wo → Prop} (hd : d ≤ 20) (hM : XI Γ l yX8_pass cX8_pass 2 .int d k [.ref (rl Γ 0), .int (iI a)] ω Po X) (hX : ∀ E ω', X E ω' → E = eUn) : CW Γ l yL_pass cL_pass 3 [(0, 5, 6, 15)] 21 k [.ref (rl Γ 0), .int (iI a)] ω (fun z ω' => Po z ω' ∨ (z = -900001 ∧ X eUn ω')) := by
  refine MetH.ofJ (k := 1) [some (.ref (rl Γ 0)), some (.int (iI a)), none] (by decide) rfl rfl rfl (fun p e s mm args below meth c C hK3 ht hrt => ?_)
  refine j_aload0 C dL_pass_0 ?_
  refine j_iload1 C dL_pass_1 ?_
  refine j_tI1 C hK3.1 hM oX8_pass (show Lk yL_pass.cls 40 yX8_pass from (WS_of 481 (by decide +kernel))) ⟨_, rfl, rfl⟩ at_0 ⟨by omega, by decide⟩ rfl (Nat.le_of_ble_eq_true rfl) ⟨by omega, by omega⟩ dL_pass_2 (fun E ω1 hE => ?_) ?_
  · have hE9 := hX E ω1 hE
    subst hE9
    refine ⟨6, Hd.one (hh := []) ht (by decide) (by decide) (C.2.2.2.2.1 _ (WS_of 266 (by decide +kernel))) (hK3.1.2.2.2.1 _ (List.mem_of_getElem? (i := 4) rfl)), fun q => ?_⟩
    refine j_astore2 C rfl dL_pass_6 ?_
    refine j_ldc (z := -900001) C (WS_of 468 (by decide +kernel)) dL_pass_7 ?_
    refine j_widen (ce' := k) (sl' := 6 * k) (by omega) (by omega) ?_
    exact j_iret C hrt dL_pass_9 ⟨by decide, by decide⟩ (Or.inr (⟨rfl, hE⟩))
  intro v ω1 hv hPo
  refine j_widen (ce' := k) (sl' := 6 * k) (by omega) (by omega) ?_
  exact j_iret C hrt dL_pass_5 hv (Or.inl hPo)
theorem o_w_pass : Ow yL_pass cL_pass 3 [(0, 5, 6, 15)] 2 := ⟨(WS_of 479 (by decide +kernel)), (WS_of 27 (by decide +kernel)), (WS_of 480 (by decide +kernel)), ⟨by decide +kernel, by decide +kernel, by decide +kernel⟩⟩
set_option maxRecDepth 100000 in
set_option maxHeartbeats 4000000 in
theorem w_callableIn {Γ : Ga} {l : Launch} {ω : Wo} {d k : Nat} {a : Int} {Po : Int → Wo → Prop} {X : String → Wo → Prop} (hd : d ≤ 20) (hM : XI Γ l yX8_callableIn cX8_callableIn 3 .int d k [.ref (rl Γ 0), .int (iI a)] ω Po X) (hX : ∀ E ω', X E ω' → E = eIdx ∨ E = eNo) : CW Γ l yL_callableIn cL_callableIn 3 [(0, 5, 6, 46), (0, 5, 10, 48)] 21 k [.ref (rl Γ 0), .int (iI a)] ω (fun z ω' => Po z ω' ∨ (z = -900001 ∧ X eIdx ω') ∨ (z = -900002 ∧ X eNo ω')) := by
  refine MetH.ofJ (k := 1) [some (.ref (rl Γ 0)), some (.int (iI a)), none] (by decide) rfl rfl rfl (fun p e s mm args below meth c C hK3 ht hrt => ?_)
  refine j_aload0 C dL_callableIn_0 ?_
  refine j_iload1 C dL_callableIn_1 ?_
  refine j_tI1 C hK3.1 hM oX8_callableIn (show Lk yL_callableIn.cls 57 yX8_callableIn from (WS_of 512 (by decide +kernel))) ⟨_, rfl, rfl⟩ at_0 ⟨by omega, by decide⟩ rfl (Nat.le_of_ble_eq_true rfl) ⟨by omega, by omega⟩ dL_callableIn_2 (fun E ω1 hE => ?_) ?_
  · have hE9 := hX E ω1 hE
    rcases hE9 with rfl | rfl
    · refine ⟨6, Hd.fst (q := (0, 5, 10, 48)) ht (by decide) (by decide) (C.2.2.2.2.1 _ (WS_of 490 (by decide +kernel))) (hK3.1.2.2.2.1 _ (List.mem_of_getElem? (i := 1) rfl)), fun q => ?_⟩
      refine j_astore2 C rfl dL_callableIn_6 ?_
      refine j_ldc (z := -900001) C (WS_of 468 (by decide +kernel)) dL_callableIn_7 ?_
      refine j_widen (ce' := k) (sl' := 6 * k) (by omega) (by omega) ?_
      exact j_iret C hrt dL_callableIn_9 ⟨by decide, by decide⟩ (Or.inr (Or.inl ⟨rfl, hE⟩))
    · refine ⟨10, Hd.snd ht (by decide) (C.2.2.2.2.1 _ (WS_of 490 (by decide +kernel))) hK3.2.2.1 (by decide) (by decide) (C.2.2.2.2.1 _ (WS_of 511 (by decide +kernel))) (hK3.1.2.2.2.1 _ (List.mem_of_getElem? (i := 2) rfl)), fun q => ?_⟩
      refine j_astore2 C rfl dL_callableIn_10 ?_
      refine j_ldc (z := -900002) C (WS_of 532 (by decide +kernel)) dL_callableIn_11 ?_
      refine j_widen (ce' := k) (sl' := 6 * k) (by omega) (by omega) ?_
      exact j_iret C hrt dL_callableIn_13 ⟨by decide, by decide⟩ (Or.inr (Or.inr (⟨rfl, hE⟩)))
  intro v ω1 hv hPo
  refine j_widen (ce' := k) (sl' := 6 * k) (by omega) (by omega) ?_
  exact j_iret C hrt dL_callableIn_5 hv (Or.inl hPo)
theorem o_w_callableIn : Ow yL_callableIn cL_callableIn 3 [(0, 5, 6, 46), (0, 5, 10, 48)] 2 := ⟨(WS_of 488 (by decide +kernel)), (WS_of 27 (by decide +kernel)), (WS_of 489 (by decide +kernel)), ⟨by decide +kernel, by decide +kernel, by decide +kernel⟩⟩
set_option maxRecDepth 100000 in
set_option maxHeartbeats 4000000 in
theorem w_homeIn {Γ : Ga} {l : Launch} {ω : Wo} {d k : Nat} {a : Int} {Po : Int → Wo → Prop} {X : String → Wo → Prop} (hd : d ≤ 20) (hM : XI Γ l yX8_homeIn cX8_homeIn 3 .int d k [.ref (rl Γ 0), .int (iI a)] ω Po X) (hX : ∀ E ω', X E ω' → E = eIdx ∨ E = eNo) : CW Γ l yL_homeIn cL_homeIn 3 [(0, 5, 6, 46), (0, 5, 10, 48)] 21 k [.ref (rl Γ 0), .int (iI a)] ω (fun z ω' => Po z ω' ∨ (z = -900001 ∧ X eIdx ω') ∨ (z = -900002 ∧ X eNo ω')) := by
  refine MetH.ofJ (k := 1) [some (.ref (rl Γ 0)), some (.int (iI a)), none] (by decide) rfl rfl rfl (fun p e s mm args below meth c C hK3 ht hrt => ?_)
  refine j_aload0 C dL_homeIn_0 ?_
  refine j_iload1 C dL_homeIn_1 ?_
  refine j_tI1 C hK3.1 hM oX8_homeIn (show Lk yL_homeIn.cls 60 yX8_homeIn from (WS_of 536 (by decide +kernel))) ⟨_, rfl, rfl⟩ at_0 ⟨by omega, by decide⟩ rfl (Nat.le_of_ble_eq_true rfl) ⟨by omega, by omega⟩ dL_homeIn_2 (fun E ω1 hE => ?_) ?_
  · have hE9 := hX E ω1 hE
    rcases hE9 with rfl | rfl
    · refine ⟨6, Hd.fst (q := (0, 5, 10, 48)) ht (by decide) (by decide) (C.2.2.2.2.1 _ (WS_of 490 (by decide +kernel))) (hK3.1.2.2.2.1 _ (List.mem_of_getElem? (i := 1) rfl)), fun q => ?_⟩
      refine j_astore2 C rfl dL_homeIn_6 ?_
      refine j_ldc (z := -900001) C (WS_of 468 (by decide +kernel)) dL_homeIn_7 ?_
      refine j_widen (ce' := k) (sl' := 6 * k) (by omega) (by omega) ?_
      exact j_iret C hrt dL_homeIn_9 ⟨by decide, by decide⟩ (Or.inr (Or.inl ⟨rfl, hE⟩))
    · refine ⟨10, Hd.snd ht (by decide) (C.2.2.2.2.1 _ (WS_of 490 (by decide +kernel))) hK3.2.2.1 (by decide) (by decide) (C.2.2.2.2.1 _ (WS_of 511 (by decide +kernel))) (hK3.1.2.2.2.1 _ (List.mem_of_getElem? (i := 2) rfl)), fun q => ?_⟩
      refine j_astore2 C rfl dL_homeIn_10 ?_
      refine j_ldc (z := -900002) C (WS_of 532 (by decide +kernel)) dL_homeIn_11 ?_
      refine j_widen (ce' := k) (sl' := 6 * k) (by omega) (by omega) ?_
      exact j_iret C hrt dL_homeIn_13 ⟨by decide, by decide⟩ (Or.inr (Or.inr (⟨rfl, hE⟩)))
  intro v ω1 hv hPo
  refine j_widen (ce' := k) (sl' := 6 * k) (by omega) (by omega) ?_
  exact j_iret C hrt dL_homeIn_5 hv (Or.inl hPo)
theorem o_w_homeIn : Ow yL_homeIn cL_homeIn 3 [(0, 5, 6, 46), (0, 5, 10, 48)] 2 := ⟨(WS_of 534 (by decide +kernel)), (WS_of 27 (by decide +kernel)), (WS_of 535 (by decide +kernel)), ⟨by decide +kernel, by decide +kernel, by decide +kernel⟩⟩
set_option maxRecDepth 100000 in
set_option maxHeartbeats 4000000 in
theorem w_least {Γ : Ga} {l : Launch} {ω : Wo} {d k : Nat} {a : Int} {Po : Int → Wo → Prop} {X : String → Wo → Prop} (hd : d ≤ 20) (hM : XI Γ l yX8_least cX8_least 3 .int d k [.ref (rl Γ 0), .int (iI a)] ω Po X) (hX : ∀ E ω', X E ω' → E = eNo) : CW Γ l yL_least cL_least 3 [(0, 5, 6, 48)] 21 k [.ref (rl Γ 0), .int (iI a)] ω (fun z ω' => Po z ω' ∨ (z = -900001 ∧ X eNo ω')) := by
  refine MetH.ofJ (k := 1) [some (.ref (rl Γ 0)), some (.int (iI a)), none] (by decide) rfl rfl rfl (fun p e s mm args below meth c C hK3 ht hrt => ?_)
  refine j_aload0 C dL_least_0 ?_
  refine j_iload1 C dL_least_1 ?_
  refine j_tI1 C hK3.1 hM oX8_least (show Lk yL_least.cls 66 yX8_least from (WS_of 549 (by decide +kernel))) ⟨_, rfl, rfl⟩ at_0 ⟨by omega, by decide⟩ rfl (Nat.le_of_ble_eq_true rfl) ⟨by omega, by omega⟩ dL_least_2 (fun E ω1 hE => ?_) ?_
  · have hE9 := hX E ω1 hE
    subst hE9
    refine ⟨6, Hd.one (hh := []) ht (by decide) (by decide) (C.2.2.2.2.1 _ (WS_of 511 (by decide +kernel))) (hK3.1.2.2.2.1 _ (List.mem_of_getElem? (i := 2) rfl)), fun q => ?_⟩
    refine j_astore2 C rfl dL_least_6 ?_
    refine j_ldc (z := -900001) C (WS_of 468 (by decide +kernel)) dL_least_7 ?_
    refine j_widen (ce' := k) (sl' := 6 * k) (by omega) (by omega) ?_
    exact j_iret C hrt dL_least_9 ⟨by decide, by decide⟩ (Or.inr (⟨rfl, hE⟩))
  intro v ω1 hv hPo
  refine j_widen (ce' := k) (sl' := 6 * k) (by omega) (by omega) ?_
  exact j_iret C hrt dL_least_5 hv (Or.inl hPo)
theorem o_w_least : Ow yL_least cL_least 3 [(0, 5, 6, 48)] 2 := ⟨(WS_of 547 (by decide +kernel)), (WS_of 27 (by decide +kernel)), (WS_of 548 (by decide +kernel)), ⟨by decide +kernel, by decide +kernel, by decide +kernel⟩⟩
set_option maxRecDepth 100000 in
set_option maxHeartbeats 4000000 in
theorem w_busiest {Γ : Ga} {l : Launch} {ω : Wo} {d k : Nat} {a : Int} {Po : Int → Wo → Prop} {X : String → Wo → Prop} (hd : d ≤ 20) (hM : XI Γ l yX8_busiest cX8_busiest 3 .int d k [.ref (rl Γ 0), .int (iI a)] ω Po X) (hX : ∀ E ω', X E ω' → E = eNo) : CW Γ l yL_busiest cL_busiest 3 [(0, 5, 6, 48)] 21 k [.ref (rl Γ 0), .int (iI a)] ω (fun z ω' => Po z ω' ∨ (z = -900001 ∧ X eNo ω')) := by
  refine MetH.ofJ (k := 1) [some (.ref (rl Γ 0)), some (.int (iI a)), none] (by decide) rfl rfl rfl (fun p e s mm args below meth c C hK3 ht hrt => ?_)
  refine j_aload0 C dL_busiest_0 ?_
  refine j_iload1 C dL_busiest_1 ?_
  refine j_tI1 C hK3.1 hM oX8_busiest (show Lk yL_busiest.cls 69 yX8_busiest from (WS_of 574 (by decide +kernel))) ⟨_, rfl, rfl⟩ at_0 ⟨by omega, by decide⟩ rfl (Nat.le_of_ble_eq_true rfl) ⟨by omega, by omega⟩ dL_busiest_2 (fun E ω1 hE => ?_) ?_
  · have hE9 := hX E ω1 hE
    subst hE9
    refine ⟨6, Hd.one (hh := []) ht (by decide) (by decide) (C.2.2.2.2.1 _ (WS_of 511 (by decide +kernel))) (hK3.1.2.2.2.1 _ (List.mem_of_getElem? (i := 2) rfl)), fun q => ?_⟩
    refine j_astore2 C rfl dL_busiest_6 ?_
    refine j_ldc (z := -900001) C (WS_of 468 (by decide +kernel)) dL_busiest_7 ?_
    refine j_widen (ce' := k) (sl' := 6 * k) (by omega) (by omega) ?_
    exact j_iret C hrt dL_busiest_9 ⟨by decide, by decide⟩ (Or.inr (⟨rfl, hE⟩))
  intro v ω1 hv hPo
  refine j_widen (ce' := k) (sl' := 6 * k) (by omega) (by omega) ?_
  exact j_iret C hrt dL_busiest_5 hv (Or.inl hPo)
theorem o_w_busiest : Ow yL_busiest cL_busiest 3 [(0, 5, 6, 48)] 2 := ⟨(WS_of 572 (by decide +kernel)), (WS_of 27 (by decide +kernel)), (WS_of 573 (by decide +kernel)), ⟨by decide +kernel, by decide +kernel, by decide +kernel⟩⟩
set_option maxRecDepth 100000 in
set_option maxHeartbeats 4000000 in
theorem w_undo {Γ : Ga} {l : Launch} {ω : Wo} {d k : Nat} {Po : Int → Wo → Prop} {X : String → Wo → Prop} (hd : d ≤ 20) (hM : XI Γ l yX8_undo cX8_undo 1 .int d k [.ref (rl Γ 0)] ω Po X) (hX : ∀ E ω', X E ω' → E = eSt) : CW Γ l yL_undo cL_undo 2 [(0, 4, 5, 81)] 21 k [.ref (rl Γ 0)] ω (fun z ω' => Po z ω' ∨ (z = -900001 ∧ X eSt ω')) := by
  refine MetH.ofJ (k := 1) [some (.ref (rl Γ 0)), none] (by decide) rfl rfl rfl (fun p e s mm args below meth c C hK3 ht hrt => ?_)
  refine j_aload0 C dL_undo_0 ?_
  refine j_tI0 C hK3.1 hM oX8_undo (show Lk yL_undo.cls 78 yX8_undo from (WS_of 583 (by decide +kernel))) ⟨_, rfl, rfl⟩ at_0 ⟨by omega, by decide⟩ rfl (Nat.le_of_ble_eq_true rfl) ⟨by omega, by omega⟩ dL_undo_1 (fun E ω1 hE => ?_) ?_
  · have hE9 := hX E ω1 hE
    subst hE9
    refine ⟨5, Hd.one (hh := []) ht (by decide) (by decide) (C.2.2.2.2.1 _ (WS_of 582 (by decide +kernel))) (hK3.1.2.2.2.1 _ (List.mem_of_getElem? (i := 3) rfl)), fun q => ?_⟩
    refine j_astore1 C rfl dL_undo_5 ?_
    refine j_ldc (z := -900001) C (WS_of 468 (by decide +kernel)) dL_undo_6 ?_
    refine j_widen (ce' := k) (sl' := 6 * k) (by omega) (by omega) ?_
    exact j_iret C hrt dL_undo_8 ⟨by decide, by decide⟩ (Or.inr (⟨rfl, hE⟩))
  intro v ω1 hv hPo
  refine j_widen (ce' := k) (sl' := 6 * k) (by omega) (by omega) ?_
  exact j_iret C hrt dL_undo_4 hv (Or.inl hPo)
theorem o_w_undo : Ow yL_undo cL_undo 2 [(0, 4, 5, 81)] 1 := ⟨(WS_of 580 (by decide +kernel)), (WS_of 27 (by decide +kernel)), (WS_of 581 (by decide +kernel)), ⟨by decide +kernel, by decide +kernel, by decide +kernel⟩⟩
set_option maxRecDepth 100000 in
set_option maxHeartbeats 4000000 in
theorem w_restore {Γ : Ga} {l : Launch} {ω : Wo} {d k : Nat} {Po : Int → Wo → Prop} {X : String → Wo → Prop} (hd : d ≤ 20) (hM : XI Γ l yX8_restore cX8_restore 1 .int d k [.ref (rl Γ 0)] ω Po X) (hX : ∀ E ω', X E ω' → E = eSt) : CW Γ l yL_restore cL_restore 2 [(0, 4, 5, 81)] 21 k [.ref (rl Γ 0)] ω (fun z ω' => Po z ω' ∨ (z = -900001 ∧ X eSt ω')) := by
  refine MetH.ofJ (k := 1) [some (.ref (rl Γ 0)), none] (by decide) rfl rfl rfl (fun p e s mm args below meth c C hK3 ht hrt => ?_)
  refine j_aload0 C dL_restore_0 ?_
  refine j_tI0 C hK3.1 hM oX8_restore (show Lk yL_restore.cls 83 yX8_restore from (WS_of 606 (by decide +kernel))) ⟨_, rfl, rfl⟩ at_0 ⟨by omega, by decide⟩ rfl (Nat.le_of_ble_eq_true rfl) ⟨by omega, by omega⟩ dL_restore_1 (fun E ω1 hE => ?_) ?_
  · have hE9 := hX E ω1 hE
    subst hE9
    refine ⟨5, Hd.one (hh := []) ht (by decide) (by decide) (C.2.2.2.2.1 _ (WS_of 582 (by decide +kernel))) (hK3.1.2.2.2.1 _ (List.mem_of_getElem? (i := 3) rfl)), fun q => ?_⟩
    refine j_astore1 C rfl dL_restore_5 ?_
    refine j_ldc (z := -900001) C (WS_of 468 (by decide +kernel)) dL_restore_6 ?_
    refine j_widen (ce' := k) (sl' := 6 * k) (by omega) (by omega) ?_
    exact j_iret C hrt dL_restore_8 ⟨by decide, by decide⟩ (Or.inr (⟨rfl, hE⟩))
  intro v ω1 hv hPo
  refine j_widen (ce' := k) (sl' := 6 * k) (by omega) (by omega) ?_
  exact j_iret C hrt dL_restore_4 hv (Or.inl hPo)
theorem o_w_restore : Ow yL_restore cL_restore 2 [(0, 4, 5, 81)] 1 := ⟨(WS_of 604 (by decide +kernel)), (WS_of 27 (by decide +kernel)), (WS_of 605 (by decide +kernel)), ⟨by decide +kernel, by decide +kernel, by decide +kernel⟩⟩
set_option maxRecDepth 100000 in
set_option maxHeartbeats 4000000 in
theorem w_member {Γ : Ga} {l : Launch} {ω : Wo} {d k : Nat} {a : Int} {Po : Int → Wo → Prop} {X : String → Wo → Prop} (hd : d ≤ 20) (hM : XI Γ l yX8_member cX8_member 2 .int d k [.ref (rl Γ 0), .int (iI a)] ω Po X) (hX : ∀ E ω', X E ω' → E = eUn) : CW Γ l yL_member cL_member 3 [(0, 5, 6, 15)] 21 k [.ref (rl Γ 0), .int (iI a)] ω (fun z ω' => Po z ω' ∨ (z = -900001 ∧ X eUn ω')) := by
  refine MetH.ofJ (k := 1) [some (.ref (rl Γ 0)), some (.int (iI a)), none] (by decide) rfl rfl rfl (fun p e s mm args below meth c C hK3 ht hrt => ?_)
  refine j_aload0 C dL_member_0 ?_
  refine j_iload1 C dL_member_1 ?_
  refine j_tI1 C hK3.1 hM oX8_member (show Lk yL_member.cls 9 yX8_member from (WS_of 900 (by decide +kernel))) ⟨_, rfl, rfl⟩ at_0 ⟨by omega, by decide⟩ rfl (Nat.le_of_ble_eq_true rfl) ⟨by omega, by omega⟩ dL_member_2 (fun E ω1 hE => ?_) ?_
  · have hE9 := hX E ω1 hE
    subst hE9
    refine ⟨6, Hd.one (hh := []) ht (by decide) (by decide) (C.2.2.2.2.1 _ (WS_of 266 (by decide +kernel))) (hK3.1.2.2.2.1 _ (List.mem_of_getElem? (i := 4) rfl)), fun q => ?_⟩
    refine j_astore2 C rfl dL_member_6 ?_
    refine j_ldc (z := -900001) C (WS_of 468 (by decide +kernel)) dL_member_7 ?_
    refine j_widen (ce' := k) (sl' := 6 * k) (by omega) (by omega) ?_
    exact j_iret C hrt dL_member_9 ⟨by decide, by decide⟩ (Or.inr (⟨rfl, hE⟩))
  intro v ω1 hv hPo
  refine j_widen (ce' := k) (sl' := 6 * k) (by omega) (by omega) ?_
  exact j_iret C hrt dL_member_5 hv (Or.inl hPo)
theorem o_w_member : Ow yL_member cL_member 3 [(0, 5, 6, 15)] 2 := ⟨(WS_of 898 (by decide +kernel)), (WS_of 27 (by decide +kernel)), (WS_of 899 (by decide +kernel)), ⟨by decide +kernel, by decide +kernel, by decide +kernel⟩⟩
set_option maxRecDepth 100000 in
set_option maxHeartbeats 4000000 in
theorem w_boat {Γ : Ga} {l : Launch} {ω : Wo} {d k : Nat} {a : Int} {b : Int} {Po : Int → Wo → Prop} {X : String → Wo → Prop} (hd : d ≤ 20) (hM : XI Γ l yX8_boat cX8_boat 3 .int d k [.ref (rl Γ 0), .int (iI a), .int (iI b)] ω Po X) (hX : ∀ E ω', X E ω' → E = eUn) : CW Γ l yL_boat cL_boat 4 [(0, 6, 7, 15)] 21 k [.ref (rl Γ 0), .int (iI a), .int (iI b)] ω (fun z ω' => Po z ω' ∨ (z = -900001 ∧ X eUn ω')) := by
  refine MetH.ofJ (k := 1) [some (.ref (rl Γ 0)), some (.int (iI a)), some (.int (iI b)), none] (by decide) rfl rfl rfl (fun p e s mm args below meth c C hK3 ht hrt => ?_)
  refine j_aload0 C dL_boat_0 ?_
  refine j_iload1 C dL_boat_1 ?_
  refine j_iload2 C dL_boat_2 ?_
  refine j_tI2 C hK3.1 hM oX8_boat (show Lk yL_boat.cls 24 yX8_boat from (WS_of 909 (by decide +kernel))) ⟨_, rfl, rfl⟩ at_0 ⟨by omega, by decide⟩ rfl (Nat.le_of_ble_eq_true rfl) ⟨by omega, by omega⟩ dL_boat_3 (fun E ω1 hE => ?_) ?_
  · have hE9 := hX E ω1 hE
    subst hE9
    refine ⟨7, Hd.one (hh := []) ht (by decide) (by decide) (C.2.2.2.2.1 _ (WS_of 266 (by decide +kernel))) (hK3.1.2.2.2.1 _ (List.mem_of_getElem? (i := 4) rfl)), fun q => ?_⟩
    refine j_astore3 C rfl dL_boat_7 ?_
    refine j_ldc (z := -900001) C (WS_of 468 (by decide +kernel)) dL_boat_8 ?_
    refine j_widen (ce' := k) (sl' := 6 * k) (by omega) (by omega) ?_
    exact j_iret C hrt dL_boat_10 ⟨by decide, by decide⟩ (Or.inr (⟨rfl, hE⟩))
  intro v ω1 hv hPo
  refine j_widen (ce' := k) (sl' := 6 * k) (by omega) (by omega) ?_
  exact j_iret C hrt dL_boat_6 hv (Or.inl hPo)
theorem o_w_boat : Ow yL_boat cL_boat 4 [(0, 6, 7, 15)] 3 := ⟨(WS_of 907 (by decide +kernel)), (WS_of 27 (by decide +kernel)), (WS_of 908 (by decide +kernel)), ⟨by decide +kernel, by decide +kernel, by decide +kernel⟩⟩
set_option maxRecDepth 100000 in
set_option maxHeartbeats 4000000 in
theorem w_borrow {Γ : Ga} {l : Launch} {ω : Wo} {d k : Nat} {a : Int} {b : Int} {Po : Int → Wo → Prop} {X : String → Wo → Prop} (hd : d ≤ 20) (hM : XI Γ l yX8_borrow cX8_borrow 3 .int d k [.ref (rl Γ 0), .int (iI a), .int (iI b)] ω Po X) (hX : ∀ E ω', X E ω' → E = eUn) : CW Γ l yL_borrow cL_borrow 4 [(0, 6, 7, 15)] 21 k [.ref (rl Γ 0), .int (iI a), .int (iI b)] ω (fun z ω' => Po z ω' ∨ (z = -900001 ∧ X eUn ω')) := by
  refine MetH.ofJ (k := 1) [some (.ref (rl Γ 0)), some (.int (iI a)), some (.int (iI b)), none] (by decide) rfl rfl rfl (fun p e s mm args below meth c C hK3 ht hrt => ?_)
  refine j_aload0 C dL_borrow_0 ?_
  refine j_iload1 C dL_borrow_1 ?_
  refine j_iload2 C dL_borrow_2 ?_
  refine j_tI2 C hK3.1 hM oX8_borrow (show Lk yL_borrow.cls 31 yX8_borrow from (WS_of 918 (by decide +kernel))) ⟨_, rfl, rfl⟩ at_0 ⟨by omega, by decide⟩ rfl (Nat.le_of_ble_eq_true rfl) ⟨by omega, by omega⟩ dL_borrow_3 (fun E ω1 hE => ?_) ?_
  · have hE9 := hX E ω1 hE
    subst hE9
    refine ⟨7, Hd.one (hh := []) ht (by decide) (by decide) (C.2.2.2.2.1 _ (WS_of 266 (by decide +kernel))) (hK3.1.2.2.2.1 _ (List.mem_of_getElem? (i := 4) rfl)), fun q => ?_⟩
    refine j_astore3 C rfl dL_borrow_7 ?_
    refine j_ldc (z := -900001) C (WS_of 468 (by decide +kernel)) dL_borrow_8 ?_
    refine j_widen (ce' := k) (sl' := 6 * k) (by omega) (by omega) ?_
    exact j_iret C hrt dL_borrow_10 ⟨by decide, by decide⟩ (Or.inr (⟨rfl, hE⟩))
  intro v ω1 hv hPo
  refine j_widen (ce' := k) (sl' := 6 * k) (by omega) (by omega) ?_
  exact j_iret C hrt dL_borrow_6 hv (Or.inl hPo)
theorem o_w_borrow : Ow yL_borrow cL_borrow 4 [(0, 6, 7, 15)] 3 := ⟨(WS_of 916 (by decide +kernel)), (WS_of 27 (by decide +kernel)), (WS_of 917 (by decide +kernel)), ⟨by decide +kernel, by decide +kernel, by decide +kernel⟩⟩
set_option maxRecDepth 100000 in
set_option maxHeartbeats 4000000 in
theorem w_leave {Γ : Ga} {l : Launch} {ω : Wo} {d k : Nat} {a : Int} {Po : Int → Wo → Prop} {X : String → Wo → Prop} (hd : d ≤ 20) (hM : XI Γ l yX8_leave cX8_leave 2 .int d k [.ref (rl Γ 0), .int (iI a)] ω Po X) (hX : ∀ E ω', X E ω' → E = eUn) : CW Γ l yL_leave cL_leave 3 [(0, 5, 6, 15)] 21 k [.ref (rl Γ 0), .int (iI a)] ω (fun z ω' => Po z ω' ∨ (z = -900001 ∧ X eUn ω')) := by
  refine MetH.ofJ (k := 1) [some (.ref (rl Γ 0)), some (.int (iI a)), none] (by decide) rfl rfl rfl (fun p e s mm args below meth c C hK3 ht hrt => ?_)
  refine j_aload0 C dL_leave_0 ?_
  refine j_iload1 C dL_leave_1 ?_
  refine j_tI1 C hK3.1 hM oX8_leave (show Lk yL_leave.cls 18 yX8_leave from (WS_of 931 (by decide +kernel))) ⟨_, rfl, rfl⟩ at_0 ⟨by omega, by decide⟩ rfl (Nat.le_of_ble_eq_true rfl) ⟨by omega, by omega⟩ dL_leave_2 (fun E ω1 hE => ?_) ?_
  · have hE9 := hX E ω1 hE
    subst hE9
    refine ⟨6, Hd.one (hh := []) ht (by decide) (by decide) (C.2.2.2.2.1 _ (WS_of 266 (by decide +kernel))) (hK3.1.2.2.2.1 _ (List.mem_of_getElem? (i := 4) rfl)), fun q => ?_⟩
    refine j_astore2 C rfl dL_leave_6 ?_
    refine j_ldc (z := -900001) C (WS_of 468 (by decide +kernel)) dL_leave_7 ?_
    refine j_widen (ce' := k) (sl' := 6 * k) (by omega) (by omega) ?_
    exact j_iret C hrt dL_leave_9 ⟨by decide, by decide⟩ (Or.inr (⟨rfl, hE⟩))
  intro v ω1 hv hPo
  refine j_widen (ce' := k) (sl' := 6 * k) (by omega) (by omega) ?_
  exact j_iret C hrt dL_leave_5 hv (Or.inl hPo)
theorem o_w_leave : Ow yL_leave cL_leave 3 [(0, 5, 6, 15)] 2 := ⟨(WS_of 929 (by decide +kernel)), (WS_of 27 (by decide +kernel)), (WS_of 930 (by decide +kernel)), ⟨by decide +kernel, by decide +kernel, by decide +kernel⟩⟩
set_option maxRecDepth 100000 in
set_option maxHeartbeats 4000000 in
theorem w_train {Γ : Ga} {l : Launch} {ω : Wo} {d k : Nat} {a : Int} {Po : Int → Wo → Prop} {X : String → Wo → Prop} (hd : d ≤ 20) (hM : XI Γ l yX8_train cX8_train 2 .int d k [.ref (rl Γ 0), .int (iI a)] ω Po X) (hX : ∀ E ω', X E ω' → E = eUn) : CW Γ l yL_train cL_train 3 [(0, 5, 6, 15)] 21 k [.ref (rl Γ 0), .int (iI a)] ω (fun z ω' => Po z ω' ∨ (z = -900001 ∧ X eUn ω')) := by
  refine MetH.ofJ (k := 1) [some (.ref (rl Γ 0)), some (.int (iI a)), none] (by decide) rfl rfl rfl (fun p e s mm args below meth c C hK3 ht hrt => ?_)
  refine j_aload0 C dL_train_0 ?_
  refine j_iload1 C dL_train_1 ?_
  refine j_tI1 C hK3.1 hM oX8_train (show Lk yL_train.cls 21 yX8_train from (WS_of 940 (by decide +kernel))) ⟨_, rfl, rfl⟩ at_0 ⟨by omega, by decide⟩ rfl (Nat.le_of_ble_eq_true rfl) ⟨by omega, by omega⟩ dL_train_2 (fun E ω1 hE => ?_) ?_
  · have hE9 := hX E ω1 hE
    subst hE9
    refine ⟨6, Hd.one (hh := []) ht (by decide) (by decide) (C.2.2.2.2.1 _ (WS_of 266 (by decide +kernel))) (hK3.1.2.2.2.1 _ (List.mem_of_getElem? (i := 4) rfl)), fun q => ?_⟩
    refine j_astore2 C rfl dL_train_6 ?_
    refine j_ldc (z := -900001) C (WS_of 468 (by decide +kernel)) dL_train_7 ?_
    refine j_widen (ce' := k) (sl' := 6 * k) (by omega) (by omega) ?_
    exact j_iret C hrt dL_train_9 ⟨by decide, by decide⟩ (Or.inr (⟨rfl, hE⟩))
  intro v ω1 hv hPo
  refine j_widen (ce' := k) (sl' := 6 * k) (by omega) (by omega) ?_
  exact j_iret C hrt dL_train_5 hv (Or.inl hPo)
theorem o_w_train : Ow yL_train cL_train 3 [(0, 5, 6, 15)] 2 := ⟨(WS_of 938 (by decide +kernel)), (WS_of 27 (by decide +kernel)), (WS_of 939 (by decide +kernel)), ⟨by decide +kernel, by decide +kernel, by decide +kernel⟩⟩
set_option maxRecDepth 100000 in
set_option maxHeartbeats 4000000 in
theorem w_giveBack {Γ : Ga} {l : Launch} {ω : Wo} {d k : Nat} {a : Int} {Po : Int → Wo → Prop} {X : String → Wo → Prop} (hd : d ≤ 20) (hM : XI Γ l yX8_giveBack cX8_giveBack 2 .int d k [.ref (rl Γ 0), .int (iI a)] ω Po X) (hX : ∀ E ω', X E ω' → E = eUn) : CW Γ l yL_giveBack cL_giveBack 3 [(0, 5, 6, 15)] 21 k [.ref (rl Γ 0), .int (iI a)] ω (fun z ω' => Po z ω' ∨ (z = -900001 ∧ X eUn ω')) := by
  refine MetH.ofJ (k := 1) [some (.ref (rl Γ 0)), some (.int (iI a)), none] (by decide) rfl rfl rfl (fun p e s mm args below meth c C hK3 ht hrt => ?_)
  refine j_aload0 C dL_giveBack_0 ?_
  refine j_iload1 C dL_giveBack_1 ?_
  refine j_tI1 C hK3.1 hM oX8_giveBack (show Lk yL_giveBack.cls 34 yX8_giveBack from (WS_of 949 (by decide +kernel))) ⟨_, rfl, rfl⟩ at_0 ⟨by omega, by decide⟩ rfl (Nat.le_of_ble_eq_true rfl) ⟨by omega, by omega⟩ dL_giveBack_2 (fun E ω1 hE => ?_) ?_
  · have hE9 := hX E ω1 hE
    subst hE9
    refine ⟨6, Hd.one (hh := []) ht (by decide) (by decide) (C.2.2.2.2.1 _ (WS_of 266 (by decide +kernel))) (hK3.1.2.2.2.1 _ (List.mem_of_getElem? (i := 4) rfl)), fun q => ?_⟩
    refine j_astore2 C rfl dL_giveBack_6 ?_
    refine j_ldc (z := -900001) C (WS_of 468 (by decide +kernel)) dL_giveBack_7 ?_
    refine j_widen (ce' := k) (sl' := 6 * k) (by omega) (by omega) ?_
    exact j_iret C hrt dL_giveBack_9 ⟨by decide, by decide⟩ (Or.inr (⟨rfl, hE⟩))
  intro v ω1 hv hPo
  refine j_widen (ce' := k) (sl' := 6 * k) (by omega) (by omega) ?_
  exact j_iret C hrt dL_giveBack_5 hv (Or.inl hPo)
theorem o_w_giveBack : Ow yL_giveBack cL_giveBack 3 [(0, 5, 6, 15)] 2 := ⟨(WS_of 947 (by decide +kernel)), (WS_of 27 (by decide +kernel)), (WS_of 948 (by decide +kernel)), ⟨by decide +kernel, by decide +kernel, by decide +kernel⟩⟩
set_option maxRecDepth 100000 in
set_option maxHeartbeats 4000000 in
theorem w_commands {Γ : Ga} {l : Launch} {ω : Wo} {d k : Nat} {Po : Int → Wo → Prop} {X : String → Wo → Prop} (hd : d ≤ 20) (hM : XI Γ l yX8_commands cX8_commands 2 .int d k [.ref (rl Γ 0)] ω Po X) (hX : ∀ E ω', X E ω' → E = eArg ∨ E = eUn) : CW Γ l yL_commands cL_commands 2 [(0, 4, 5, 76), (0, 4, 9, 15)] 21 k [.ref (rl Γ 0)] ω (fun z ω' => Po z ω' ∨ (z = -900001 ∧ X eArg ω') ∨ (z = -900002 ∧ X eUn ω')) := by
  refine MetH.ofJ (k := 1) [some (.ref (rl Γ 0)), none] (by decide) rfl rfl rfl (fun p e s mm args below meth c C hK3 ht hrt => ?_)
  refine j_aload0 C dL_commands_0 ?_
  refine j_tI0 C hK3.1 hM oX8_commands (show Lk yL_commands.cls 72 yX8_commands from (WS_of 1211 (by decide +kernel))) ⟨_, rfl, rfl⟩ at_0 ⟨by omega, by decide⟩ rfl (Nat.le_of_ble_eq_true rfl) ⟨by omega, by omega⟩ dL_commands_1 (fun E ω1 hE => ?_) ?_
  · have hE9 := hX E ω1 hE
    rcases hE9 with rfl | rfl
    · refine ⟨5, Hd.fst (q := (0, 4, 9, 15)) ht (by decide) (by decide) (C.2.2.2.2.1 _ (WS_of 1210 (by decide +kernel))) (hK3.1.2.2.2.1 _ (List.mem_of_getElem? (i := 0) rfl)), fun q => ?_⟩
      refine j_astore1 C rfl dL_commands_5 ?_
      refine j_ldc (z := -900001) C (WS_of 468 (by decide +kernel)) dL_commands_6 ?_
      refine j_widen (ce' := k) (sl' := 6 * k) (by omega) (by omega) ?_
      exact j_iret C hrt dL_commands_8 ⟨by decide, by decide⟩ (Or.inr (Or.inl ⟨rfl, hE⟩))
    · refine ⟨9, Hd.snd ht (by decide) (C.2.2.2.2.1 _ (WS_of 1210 (by decide +kernel))) hK3.2.2.2 (by decide) (by decide) (C.2.2.2.2.1 _ (WS_of 266 (by decide +kernel))) (hK3.1.2.2.2.1 _ (List.mem_of_getElem? (i := 4) rfl)), fun q => ?_⟩
      refine j_astore1 C rfl dL_commands_9 ?_
      refine j_ldc (z := -900002) C (WS_of 532 (by decide +kernel)) dL_commands_10 ?_
      refine j_widen (ce' := k) (sl' := 6 * k) (by omega) (by omega) ?_
      exact j_iret C hrt dL_commands_12 ⟨by decide, by decide⟩ (Or.inr (Or.inr (⟨rfl, hE⟩)))
  intro v ω1 hv hPo
  refine j_widen (ce' := k) (sl' := 6 * k) (by omega) (by omega) ?_
  exact j_iret C hrt dL_commands_4 hv (Or.inl hPo)
theorem o_w_commands : Ow yL_commands cL_commands 2 [(0, 4, 5, 76), (0, 4, 9, 15)] 1 := ⟨(WS_of 1208 (by decide +kernel)), (WS_of 27 (by decide +kernel)), (WS_of 1209 (by decide +kernel)), ⟨by decide +kernel, by decide +kernel, by decide +kernel⟩⟩
set_option maxRecDepth 100000 in
set_option maxHeartbeats 4000000 in
theorem w_weariness {Γ : Ga} {l : Launch} {ω : Wo} {d k : Nat} {a : Int} {Po : Int → Wo → Prop} {X : String → Wo → Prop} (hd : d ≤ 20) (hM : XI Γ l yX8_weariness cX8_weariness 2 .int d k [.ref (rl Γ 0), .int (iI a)] ω Po X) (hX : ∀ E ω', X E ω' → E = eIdx ∨ E = eNo) : CW Γ l yL_weariness cL_weariness 3 [(0, 5, 6, 46), (0, 5, 10, 48)] 21 k [.ref (rl Γ 0), .int (iI a)] ω (fun z ω' => Po z ω' ∨ (z = -900001 ∧ X eIdx ω') ∨ (z = -900002 ∧ X eNo ω')) := by
  refine MetH.ofJ (k := 1) [some (.ref (rl Γ 0)), some (.int (iI a)), none] (by decide) rfl rfl rfl (fun p e s mm args below meth c C hK3 ht hrt => ?_)
  refine j_aload0 C dL_weariness_0 ?_
  refine j_iload1 C dL_weariness_1 ?_
  refine j_tI1 C hK3.1 hM oX8_weariness (show Lk yL_weariness.cls 51 yX8_weariness from (WS_of 1286 (by decide +kernel))) ⟨_, rfl, rfl⟩ at_0 ⟨by omega, by decide⟩ rfl (Nat.le_of_ble_eq_true rfl) ⟨by omega, by omega⟩ dL_weariness_2 (fun E ω1 hE => ?_) ?_
  · have hE9 := hX E ω1 hE
    rcases hE9 with rfl | rfl
    · refine ⟨6, Hd.fst (q := (0, 5, 10, 48)) ht (by decide) (by decide) (C.2.2.2.2.1 _ (WS_of 490 (by decide +kernel))) (hK3.1.2.2.2.1 _ (List.mem_of_getElem? (i := 1) rfl)), fun q => ?_⟩
      refine j_astore2 C rfl dL_weariness_6 ?_
      refine j_ldc (z := -900001) C (WS_of 468 (by decide +kernel)) dL_weariness_7 ?_
      refine j_widen (ce' := k) (sl' := 6 * k) (by omega) (by omega) ?_
      exact j_iret C hrt dL_weariness_9 ⟨by decide, by decide⟩ (Or.inr (Or.inl ⟨rfl, hE⟩))
    · refine ⟨10, Hd.snd ht (by decide) (C.2.2.2.2.1 _ (WS_of 490 (by decide +kernel))) hK3.2.2.1 (by decide) (by decide) (C.2.2.2.2.1 _ (WS_of 511 (by decide +kernel))) (hK3.1.2.2.2.1 _ (List.mem_of_getElem? (i := 2) rfl)), fun q => ?_⟩
      refine j_astore2 C rfl dL_weariness_10 ?_
      refine j_ldc (z := -900002) C (WS_of 532 (by decide +kernel)) dL_weariness_11 ?_
      refine j_widen (ce' := k) (sl' := 6 * k) (by omega) (by omega) ?_
      exact j_iret C hrt dL_weariness_13 ⟨by decide, by decide⟩ (Or.inr (Or.inr (⟨rfl, hE⟩)))
  intro v ω1 hv hPo
  refine j_widen (ce' := k) (sl' := 6 * k) (by omega) (by omega) ?_
  exact j_iret C hrt dL_weariness_5 hv (Or.inl hPo)
theorem o_w_weariness : Ow yL_weariness cL_weariness 3 [(0, 5, 6, 46), (0, 5, 10, 48)] 2 := ⟨(WS_of 1284 (by decide +kernel)), (WS_of 27 (by decide +kernel)), (WS_of 1285 (by decide +kernel)), ⟨by decide +kernel, by decide +kernel, by decide +kernel⟩⟩
set_option maxRecDepth 100000 in
set_option maxHeartbeats 4000000 in
theorem w_wouldGo {Γ : Ga} {l : Launch} {ω : Wo} {d k : Nat} {a : Int} {Po : Int → Wo → Prop} {X : String → Wo → Prop} (hd : d ≤ 20) (hM : XI Γ l yX8_wouldGo cX8_wouldGo 2 .int d k [.ref (rl Γ 0), .int (iI a)] ω Po X) (hX : ∀ E ω', X E ω' → E = eIdx ∨ E = eNo) : CW Γ l yL_wouldGo cL_wouldGo 3 [(0, 5, 6, 46), (0, 5, 10, 48)] 21 k [.ref (rl Γ 0), .int (iI a)] ω (fun z ω' => Po z ω' ∨ (z = -900001 ∧ X eIdx ω') ∨ (z = -900002 ∧ X eNo ω')) := by
  refine MetH.ofJ (k := 1) [some (.ref (rl Γ 0)), some (.int (iI a)), none] (by decide) rfl rfl rfl (fun p e s mm args below meth c C hK3 ht hrt => ?_)
  refine j_aload0 C dL_wouldGo_0 ?_
  refine j_iload1 C dL_wouldGo_1 ?_
  refine j_tI1 C hK3.1 hM oX8_wouldGo (show Lk yL_wouldGo.cls 43 yX8_wouldGo from (WS_of 1304 (by decide +kernel))) ⟨_, rfl, rfl⟩ at_0 ⟨by omega, by decide⟩ rfl (Nat.le_of_ble_eq_true rfl) ⟨by omega, by omega⟩ dL_wouldGo_2 (fun E ω1 hE => ?_) ?_
  · have hE9 := hX E ω1 hE
    rcases hE9 with rfl | rfl
    · refine ⟨6, Hd.fst (q := (0, 5, 10, 48)) ht (by decide) (by decide) (C.2.2.2.2.1 _ (WS_of 490 (by decide +kernel))) (hK3.1.2.2.2.1 _ (List.mem_of_getElem? (i := 1) rfl)), fun q => ?_⟩
      refine j_astore2 C rfl dL_wouldGo_6 ?_
      refine j_ldc (z := -900001) C (WS_of 468 (by decide +kernel)) dL_wouldGo_7 ?_
      refine j_widen (ce' := k) (sl' := 6 * k) (by omega) (by omega) ?_
      exact j_iret C hrt dL_wouldGo_9 ⟨by decide, by decide⟩ (Or.inr (Or.inl ⟨rfl, hE⟩))
    · refine ⟨10, Hd.snd ht (by decide) (C.2.2.2.2.1 _ (WS_of 490 (by decide +kernel))) hK3.2.2.1 (by decide) (by decide) (C.2.2.2.2.1 _ (WS_of 511 (by decide +kernel))) (hK3.1.2.2.2.1 _ (List.mem_of_getElem? (i := 2) rfl)), fun q => ?_⟩
      refine j_astore2 C rfl dL_wouldGo_10 ?_
      refine j_ldc (z := -900002) C (WS_of 532 (by decide +kernel)) dL_wouldGo_11 ?_
      refine j_widen (ce' := k) (sl' := 6 * k) (by omega) (by omega) ?_
      exact j_iret C hrt dL_wouldGo_13 ⟨by decide, by decide⟩ (Or.inr (Or.inr (⟨rfl, hE⟩)))
  intro v ω1 hv hPo
  refine j_widen (ce' := k) (sl' := 6 * k) (by omega) (by omega) ?_
  exact j_iret C hrt dL_wouldGo_5 hv (Or.inl hPo)
theorem o_w_wouldGo : Ow yL_wouldGo cL_wouldGo 3 [(0, 5, 6, 46), (0, 5, 10, 48)] 2 := ⟨(WS_of 1302 (by decide +kernel)), (WS_of 27 (by decide +kernel)), (WS_of 1303 (by decide +kernel)), ⟨by decide +kernel, by decide +kernel, by decide +kernel⟩⟩
set_option maxRecDepth 100000 in
set_option maxHeartbeats 4000000 in
theorem w_wearinessAgain {Γ : Ga} {l : Launch} {ω : Wo} {d k : Nat} {a : Int} {Po : Int → Wo → Prop} {X : String → Wo → Prop} (hd : d ≤ 20) (hM : XI Γ l yX8_wearinessAgain cX8_wearinessAgain 2 .int d k [.ref (rl Γ 0), .int (iI a)] ω Po X) (hX : ∀ E ω', X E ω' → E = eIdx ∨ E = eNo) : CW Γ l yL_wearinessAgain cL_wearinessAgain 3 [(0, 5, 6, 46), (0, 5, 10, 48)] 21 k [.ref (rl Γ 0), .int (iI a)] ω (fun z ω' => Po z ω' ∨ (z = -900001 ∧ X eIdx ω') ∨ (z = -900002 ∧ X eNo ω')) := by
  refine MetH.ofJ (k := 1) [some (.ref (rl Γ 0)), some (.int (iI a)), none] (by decide) rfl rfl rfl (fun p e s mm args below meth c C hK3 ht hrt => ?_)
  refine j_aload0 C dL_wearinessAgain_0 ?_
  refine j_iload1 C dL_wearinessAgain_1 ?_
  refine j_tI1 C hK3.1 hM oX8_wearinessAgain (show Lk yL_wearinessAgain.cls 54 yX8_wearinessAgain from (WS_of 1311 (by decide +kernel))) ⟨_, rfl, rfl⟩ at_0 ⟨by omega, by decide⟩ rfl (Nat.le_of_ble_eq_true rfl) ⟨by omega, by omega⟩ dL_wearinessAgain_2 (fun E ω1 hE => ?_) ?_
  · have hE9 := hX E ω1 hE
    rcases hE9 with rfl | rfl
    · refine ⟨6, Hd.fst (q := (0, 5, 10, 48)) ht (by decide) (by decide) (C.2.2.2.2.1 _ (WS_of 490 (by decide +kernel))) (hK3.1.2.2.2.1 _ (List.mem_of_getElem? (i := 1) rfl)), fun q => ?_⟩
      refine j_astore2 C rfl dL_wearinessAgain_6 ?_
      refine j_ldc (z := -900001) C (WS_of 468 (by decide +kernel)) dL_wearinessAgain_7 ?_
      refine j_widen (ce' := k) (sl' := 6 * k) (by omega) (by omega) ?_
      exact j_iret C hrt dL_wearinessAgain_9 ⟨by decide, by decide⟩ (Or.inr (Or.inl ⟨rfl, hE⟩))
    · refine ⟨10, Hd.snd ht (by decide) (C.2.2.2.2.1 _ (WS_of 490 (by decide +kernel))) hK3.2.2.1 (by decide) (by decide) (C.2.2.2.2.1 _ (WS_of 511 (by decide +kernel))) (hK3.1.2.2.2.1 _ (List.mem_of_getElem? (i := 2) rfl)), fun q => ?_⟩
      refine j_astore2 C rfl dL_wearinessAgain_10 ?_
      refine j_ldc (z := -900002) C (WS_of 532 (by decide +kernel)) dL_wearinessAgain_11 ?_
      refine j_widen (ce' := k) (sl' := 6 * k) (by omega) (by omega) ?_
      exact j_iret C hrt dL_wearinessAgain_13 ⟨by decide, by decide⟩ (Or.inr (Or.inr (⟨rfl, hE⟩)))
  intro v ω1 hv hPo
  refine j_widen (ce' := k) (sl' := 6 * k) (by omega) (by omega) ?_
  exact j_iret C hrt dL_wearinessAgain_5 hv (Or.inl hPo)
theorem o_w_wearinessAgain : Ow yL_wearinessAgain cL_wearinessAgain 3 [(0, 5, 6, 46), (0, 5, 10, 48)] 2 := ⟨(WS_of 1309 (by decide +kernel)), (WS_of 27 (by decide +kernel)), (WS_of 1310 (by decide +kernel)), ⟨by decide +kernel, by decide +kernel, by decide +kernel⟩⟩
set_option maxRecDepth 100000 in
set_option maxHeartbeats 4000000 in
theorem w_homeInAgain {Γ : Ga} {l : Launch} {ω : Wo} {d k : Nat} {a : Int} {Po : Int → Wo → Prop} {X : String → Wo → Prop} (hd : d ≤ 20) (hM : XI Γ l yX8_homeInAgain cX8_homeInAgain 4 .int d k [.ref (rl Γ 0), .int (iI a)] ω Po X) (hX : ∀ E ω', X E ω' → E = eIdx ∨ E = eNo) : CW Γ l yL_homeInAgain cL_homeInAgain 3 [(0, 5, 6, 46), (0, 5, 10, 48)] 21 k [.ref (rl Γ 0), .int (iI a)] ω (fun z ω' => Po z ω' ∨ (z = -900001 ∧ X eIdx ω') ∨ (z = -900002 ∧ X eNo ω')) := by
  refine MetH.ofJ (k := 1) [some (.ref (rl Γ 0)), some (.int (iI a)), none] (by decide) rfl rfl rfl (fun p e s mm args below meth c C hK3 ht hrt => ?_)
  refine j_aload0 C dL_homeInAgain_0 ?_
  refine j_iload1 C dL_homeInAgain_1 ?_
  refine j_tI1 C hK3.1 hM oX8_homeInAgain (show Lk yL_homeInAgain.cls 63 yX8_homeInAgain from (WS_of 1324 (by decide +kernel))) ⟨_, rfl, rfl⟩ at_0 ⟨by omega, by decide⟩ rfl (Nat.le_of_ble_eq_true rfl) ⟨by omega, by omega⟩ dL_homeInAgain_2 (fun E ω1 hE => ?_) ?_
  · have hE9 := hX E ω1 hE
    rcases hE9 with rfl | rfl
    · refine ⟨6, Hd.fst (q := (0, 5, 10, 48)) ht (by decide) (by decide) (C.2.2.2.2.1 _ (WS_of 490 (by decide +kernel))) (hK3.1.2.2.2.1 _ (List.mem_of_getElem? (i := 1) rfl)), fun q => ?_⟩
      refine j_astore2 C rfl dL_homeInAgain_6 ?_
      refine j_ldc (z := -900001) C (WS_of 468 (by decide +kernel)) dL_homeInAgain_7 ?_
      refine j_widen (ce' := k) (sl' := 6 * k) (by omega) (by omega) ?_
      exact j_iret C hrt dL_homeInAgain_9 ⟨by decide, by decide⟩ (Or.inr (Or.inl ⟨rfl, hE⟩))
    · refine ⟨10, Hd.snd ht (by decide) (C.2.2.2.2.1 _ (WS_of 490 (by decide +kernel))) hK3.2.2.1 (by decide) (by decide) (C.2.2.2.2.1 _ (WS_of 511 (by decide +kernel))) (hK3.1.2.2.2.1 _ (List.mem_of_getElem? (i := 2) rfl)), fun q => ?_⟩
      refine j_astore2 C rfl dL_homeInAgain_10 ?_
      refine j_ldc (z := -900002) C (WS_of 532 (by decide +kernel)) dL_homeInAgain_11 ?_
      refine j_widen (ce' := k) (sl' := 6 * k) (by omega) (by omega) ?_
      exact j_iret C hrt dL_homeInAgain_13 ⟨by decide, by decide⟩ (Or.inr (Or.inr (⟨rfl, hE⟩)))
  intro v ω1 hv hPo
  refine j_widen (ce' := k) (sl' := 6 * k) (by omega) (by omega) ?_
  exact j_iret C hrt dL_homeInAgain_5 hv (Or.inl hPo)
theorem o_w_homeInAgain : Ow yL_homeInAgain cL_homeInAgain 3 [(0, 5, 6, 46), (0, 5, 10, 48)] 2 := ⟨(WS_of 1322 (by decide +kernel)), (WS_of 27 (by decide +kernel)), (WS_of 1323 (by decide +kernel)), ⟨by decide +kernel, by decide +kernel, by decide +kernel⟩⟩
