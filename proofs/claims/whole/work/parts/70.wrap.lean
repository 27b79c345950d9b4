/-! the law's wrappers: what is answered, or which exception -/
set_option maxRecDepth 100000 in
set_option maxHeartbeats 4000000 in
theorem w_member {Γ : Ga} {l : Launch} {ω : Wo} {d k : Nat} {a : Int} {Po : Int → Wo → Prop} {X : String → Wo → Prop} (hd : d ≤ 20) (hM : XI Γ l yX8_member cX8_member 2 .int d k [.ref (rl Γ 0), .int (iI a)] ω Po X) (hX : ∀ E ω', X E ω' → E = eUn) : CW Γ l yL_member cL_member 4 [(0, 9, 12, 13)] 21 k [.ref (rl Γ 0), .int (iI a), .ref (rl Γ 252)] ω (fun z ω' => (z = 0 ∧ ∃ v ω1, Rg v ∧ Po v ω1 ∧ ω' = wi ω1 252 0 v) ∨ (z = 1 ∧ X eUn ω')) := by
  refine MetH.ofJ (k := 1) [some (.ref (rl Γ 0)), some (.int (iI a)), some (.ref (rl Γ 252)), none] (by decide) rfl rfl rfl (fun p e s mm args below meth c C hK3 ht hrt => ?_)
  refine j_aload2 C dL_member_0 ?_
  refine j_iconst C dL_member_1 ?_
  refine j_aload0 C dL_member_2 ?_
  refine j_iload1 C dL_member_3 ?_
  refine j_tI1 C hK3.1 hM oX8_member (show Lk yL_member.cls 7 yX8_member from (WS_of 471 (by decide +kernel))) ⟨_, rfl, rfl⟩ at_0 ⟨by omega, by decide⟩ rfl (Nat.le_of_ble_eq_true rfl) ⟨by omega, by omega⟩ dL_member_4 (fun E ω1 hE => ?_) ?_
  · have hE9 := hX E ω1 hE
    subst hE9
    refine ⟨12, Hd.one (hh := []) ht (by decide) (by decide) (C.2.2.2.2.1 _ (WS_of 470 (by decide +kernel))) (hK3.1.2.2.2.1 _ (List.mem_of_getElem? (i := 4) rfl)), fun q => ?_⟩
    refine j_astore3 C rfl dL_member_12 ?_
    refine j_iconst C dL_member_13 ?_
    refine j_widen (ce' := k) (sl' := 6 * k) (by omega) (by omega) ?_
    exact j_iret C hrt dL_member_14 ⟨by decide, by decide⟩ (Or.inr (⟨rfl, hE⟩))
  intro v ω1 hv hPo
  refine j_i2l C hv dL_member_7 ?_
  refine j_last C hv dL_member_8 ?_
  refine j_goto C dL_member_9 ?_
  refine j_iconst C dL_member_15 ?_
  refine j_widen (ce' := k) (sl' := 6 * k) (by omega) (by omega) ?_
  exact j_iret C hrt dL_member_16 ⟨by decide, by decide⟩ (Or.inl ⟨rfl, v, ω1, hv, hPo, rfl⟩)
theorem o_w_member : Ow yL_member cL_member 4 [(0, 9, 12, 13)] 3 := ⟨(WS_of 468 (by decide +kernel)), (WS_of 85 (by decide +kernel)), (WS_of 469 (by decide +kernel)), ⟨by decide +kernel, by decide +kernel, by decide +kernel⟩⟩
set_option maxRecDepth 100000 in
set_option maxHeartbeats 4000000 in
theorem w_leave {Γ : Ga} {l : Launch} {ω : Wo} {d k : Nat} {a : Int} {Po : Int → Wo → Prop} {X : String → Wo → Prop} (hd : d ≤ 20) (hM : XI Γ l yX8_leave cX8_leave 2 .int d k [.ref (rl Γ 0), .int (iI a)] ω Po X) (hX : ∀ E ω', X E ω' → E = eUn) : CW Γ l yL_leave cL_leave 4 [(0, 9, 12, 13)] 21 k [.ref (rl Γ 0), .int (iI a), .ref (rl Γ 252)] ω (fun z ω' => (z = 0 ∧ ∃ v ω1, Rg v ∧ Po v ω1 ∧ ω' = wi ω1 252 0 v) ∨ (z = 1 ∧ X eUn ω')) := by
  refine MetH.ofJ (k := 1) [some (.ref (rl Γ 0)), some (.int (iI a)), some (.ref (rl Γ 252)), none] (by decide) rfl rfl rfl (fun p e s mm args below meth c C hK3 ht hrt => ?_)
  refine j_aload2 C dL_leave_0 ?_
  refine j_iconst C dL_leave_1 ?_
  refine j_aload0 C dL_leave_2 ?_
  refine j_iload1 C dL_leave_3 ?_
  refine j_tI1 C hK3.1 hM oX8_leave (show Lk yL_leave.cls 15 yX8_leave from (WS_of 778 (by decide +kernel))) ⟨_, rfl, rfl⟩ at_0 ⟨by omega, by decide⟩ rfl (Nat.le_of_ble_eq_true rfl) ⟨by omega, by omega⟩ dL_leave_4 (fun E ω1 hE => ?_) ?_
  · have hE9 := hX E ω1 hE
    subst hE9
    refine ⟨12, Hd.one (hh := []) ht (by decide) (by decide) (C.2.2.2.2.1 _ (WS_of 470 (by decide +kernel))) (hK3.1.2.2.2.1 _ (List.mem_of_getElem? (i := 4) rfl)), fun q => ?_⟩
    refine j_astore3 C rfl dL_leave_12 ?_
    refine j_iconst C dL_leave_13 ?_
    refine j_widen (ce' := k) (sl' := 6 * k) (by omega) (by omega) ?_
    exact j_iret C hrt dL_leave_14 ⟨by decide, by decide⟩ (Or.inr (⟨rfl, hE⟩))
  intro v ω1 hv hPo
  refine j_i2l C hv dL_leave_7 ?_
  refine j_last C hv dL_leave_8 ?_
  refine j_goto C dL_leave_9 ?_
  refine j_iconst C dL_leave_15 ?_
  refine j_widen (ce' := k) (sl' := 6 * k) (by omega) (by omega) ?_
  exact j_iret C hrt dL_leave_16 ⟨by decide, by decide⟩ (Or.inl ⟨rfl, v, ω1, hv, hPo, rfl⟩)
theorem o_w_leave : Ow yL_leave cL_leave 4 [(0, 9, 12, 13)] 3 := ⟨(WS_of 776 (by decide +kernel)), (WS_of 85 (by decide +kernel)), (WS_of 777 (by decide +kernel)), ⟨by decide +kernel, by decide +kernel, by decide +kernel⟩⟩
set_option maxRecDepth 100000 in
set_option maxHeartbeats 4000000 in
theorem w_train {Γ : Ga} {l : Launch} {ω : Wo} {d k : Nat} {a : Int} {Po : Int → Wo → Prop} {X : String → Wo → Prop} (hd : d ≤ 20) (hM : XI Γ l yX8_train cX8_train 2 .int d k [.ref (rl Γ 0), .int (iI a)] ω Po X) (hX : ∀ E ω', X E ω' → E = eUn) : CW Γ l yL_train cL_train 4 [(0, 9, 12, 13)] 21 k [.ref (rl Γ 0), .int (iI a), .ref (rl Γ 252)] ω (fun z ω' => (z = 0 ∧ ∃ v ω1, Rg v ∧ Po v ω1 ∧ ω' = wi ω1 252 0 v) ∨ (z = 1 ∧ X eUn ω')) := by
  refine MetH.ofJ (k := 1) [some (.ref (rl Γ 0)), some (.int (iI a)), some (.ref (rl Γ 252)), none] (by decide) rfl rfl rfl (fun p e s mm args below meth c C hK3 ht hrt => ?_)
  refine j_aload2 C dL_train_0 ?_
  refine j_iconst C dL_train_1 ?_
  refine j_aload0 C dL_train_2 ?_
  refine j_iload1 C dL_train_3 ?_
  refine j_tI1 C hK3.1 hM oX8_train (show Lk yL_train.cls 18 yX8_train from (WS_of 787 (by decide +kernel))) ⟨_, rfl, rfl⟩ at_0 ⟨by omega, by decide⟩ rfl (Nat.le_of_ble_eq_true rfl) ⟨by omega, by omega⟩ dL_train_4 (fun E ω1 hE => ?_) ?_
  · have hE9 := hX E ω1 hE
    subst hE9
    refine ⟨12, Hd.one (hh := []) ht (by decide) (by decide) (C.2.2.2.2.1 _ (WS_of 470 (by decide +kernel))) (hK3.1.2.2.2.1 _ (List.mem_of_getElem? (i := 4) rfl)), fun q => ?_⟩
    refine j_astore3 C rfl dL_train_12 ?_
    refine j_iconst C dL_train_13 ?_
    refine j_widen (ce' := k) (sl' := 6 * k) (by omega) (by omega) ?_
    exact j_iret C hrt dL_train_14 ⟨by decide, by decide⟩ (Or.inr (⟨rfl, hE⟩))
  intro v ω1 hv hPo
  refine j_i2l C hv dL_train_7 ?_
  refine j_last C hv dL_train_8 ?_
  refine j_goto C dL_train_9 ?_
  refine j_iconst C dL_train_15 ?_
  refine j_widen (ce' := k) (sl' := 6 * k) (by omega) (by omega) ?_
  exact j_iret C hrt dL_train_16 ⟨by decide, by decide⟩ (Or.inl ⟨rfl, v, ω1, hv, hPo, rfl⟩)
theorem o_w_train : Ow yL_train cL_train 4 [(0, 9, 12, 13)] 3 := ⟨(WS_of 785 (by decide +kernel)), (WS_of 85 (by decide +kernel)), (WS_of 786 (by decide +kernel)), ⟨by decide +kernel, by decide +kernel, by decide +kernel⟩⟩
set_option maxRecDepth 100000 in
set_option maxHeartbeats 4000000 in
theorem w_boat {Γ : Ga} {l : Launch} {ω : Wo} {d k : Nat} {a : Int} {b : Int} {Po : Int → Wo → Prop} {X : String → Wo → Prop} (hd : d ≤ 20) (hM : XI Γ l yX8_boat cX8_boat 3 .int d k [.ref (rl Γ 0), .int (iI a), .int (iI b)] ω Po X) (hX : ∀ E ω', X E ω' → E = eUn) : CW Γ l yL_boat cL_boat 5 [(0, 10, 13, 13)] 21 k [.ref (rl Γ 0), .int (iI a), .int (iI b), .ref (rl Γ 252)] ω (fun z ω' => (z = 0 ∧ ∃ v ω1, Rg v ∧ Po v ω1 ∧ ω' = wi ω1 252 0 v) ∨ (z = 1 ∧ X eUn ω')) := by
  refine MetH.ofJ (k := 1) [some (.ref (rl Γ 0)), some (.int (iI a)), some (.int (iI b)), some (.ref (rl Γ 252)), none] (by decide) rfl rfl rfl (fun p e s mm args below meth c C hK3 ht hrt => ?_)
  refine j_aload3 C dL_boat_0 ?_
  refine j_iconst C dL_boat_1 ?_
  refine j_aload0 C dL_boat_2 ?_
  refine j_iload1 C dL_boat_3 ?_
  refine j_iload2 C dL_boat_4 ?_
  refine j_tI2 C hK3.1 hM oX8_boat (show Lk yL_boat.cls 21 yX8_boat from (WS_of 796 (by decide +kernel))) ⟨_, rfl, rfl⟩ at_0 ⟨by omega, by decide⟩ rfl (Nat.le_of_ble_eq_true rfl) ⟨by omega, by omega⟩ dL_boat_5 (fun E ω1 hE => ?_) ?_
  · have hE9 := hX E ω1 hE
    subst hE9
    refine ⟨13, Hd.one (hh := []) ht (by decide) (by decide) (C.2.2.2.2.1 _ (WS_of 470 (by decide +kernel))) (hK3.1.2.2.2.1 _ (List.mem_of_getElem? (i := 4) rfl)), fun q => ?_⟩
    refine j_astore4 C rfl dL_boat_13 ?_
    refine j_iconst C dL_boat_15 ?_
    refine j_widen (ce' := k) (sl' := 6 * k) (by omega) (by omega) ?_
    exact j_iret C hrt dL_boat_16 ⟨by decide, by decide⟩ (Or.inr (⟨rfl, hE⟩))
  intro v ω1 hv hPo
  refine j_i2l C hv dL_boat_8 ?_
  refine j_last C hv dL_boat_9 ?_
  refine j_goto C dL_boat_10 ?_
  refine j_iconst C dL_boat_17 ?_
  refine j_widen (ce' := k) (sl' := 6 * k) (by omega) (by omega) ?_
  exact j_iret C hrt dL_boat_18 ⟨by decide, by decide⟩ (Or.inl ⟨rfl, v, ω1, hv, hPo, rfl⟩)
theorem o_w_boat : Ow yL_boat cL_boat 5 [(0, 10, 13, 13)] 4 := ⟨(WS_of 794 (by decide +kernel)), (WS_of 85 (by decide +kernel)), (WS_of 795 (by decide +kernel)), ⟨by decide +kernel, by decide +kernel, by decide +kernel⟩⟩
set_option maxRecDepth 100000 in
set_option maxHeartbeats 4000000 in
theorem w_call {Γ : Ga} {l : Launch} {ω : Wo} {d k : Nat} {a : Int} {b : Int} {Po : Int → Wo → Prop} {X : String → Wo → Prop} (hd : d ≤ 20) (hM : XI Γ l yX8_call cX8_call 3 .int d k [.ref (rl Γ 0), .int (iI a), .int (iI b)] ω Po X) (hX : ∀ E ω', X E ω' → E = eUn) : CW Γ l yL_call cL_call 5 [(0, 10, 13, 13)] 21 k [.ref (rl Γ 0), .int (iI a), .int (iI b), .ref (rl Γ 252)] ω (fun z ω' => (z = 0 ∧ ∃ v ω1, Rg v ∧ Po v ω1 ∧ ω' = wi ω1 252 0 v) ∨ (z = 1 ∧ X eUn ω')) := by
  refine MetH.ofJ (k := 1) [some (.ref (rl Γ 0)), some (.int (iI a)), some (.int (iI b)), some (.ref (rl Γ 252)), none] (by decide) rfl rfl rfl (fun p e s mm args below meth c C hK3 ht hrt => ?_)
  refine j_aload3 C dL_call_0 ?_
  refine j_iconst C dL_call_1 ?_
  refine j_aload0 C dL_call_2 ?_
  refine j_iload1 C dL_call_3 ?_
  refine j_iload2 C dL_call_4 ?_
  refine j_tI2 C hK3.1 hM oX8_call (show Lk yL_call.cls 25 yX8_call from (WS_of 805 (by decide +kernel))) ⟨_, rfl, rfl⟩ at_0 ⟨by omega, by decide⟩ rfl (Nat.le_of_ble_eq_true rfl) ⟨by omega, by omega⟩ dL_call_5 (fun E ω1 hE => ?_) ?_
  · have hE9 := hX E ω1 hE
    subst hE9
    refine ⟨13, Hd.one (hh := []) ht (by decide) (by decide) (C.2.2.2.2.1 _ (WS_of 470 (by decide +kernel))) (hK3.1.2.2.2.1 _ (List.mem_of_getElem? (i := 4) rfl)), fun q => ?_⟩
    refine j_astore4 C rfl dL_call_13 ?_
    refine j_iconst C dL_call_15 ?_
    refine j_widen (ce' := k) (sl' := 6 * k) (by omega) (by omega) ?_
    exact j_iret C hrt dL_call_16 ⟨by decide, by decide⟩ (Or.inr (⟨rfl, hE⟩))
  intro v ω1 hv hPo
  refine j_i2l C hv dL_call_8 ?_
  refine j_last C hv dL_call_9 ?_
  refine j_goto C dL_call_10 ?_
  refine j_iconst C dL_call_17 ?_
  refine j_widen (ce' := k) (sl' := 6 * k) (by omega) (by omega) ?_
  exact j_iret C hrt dL_call_18 ⟨by decide, by decide⟩ (Or.inl ⟨rfl, v, ω1, hv, hPo, rfl⟩)
theorem o_w_call : Ow yL_call cL_call 5 [(0, 10, 13, 13)] 4 := ⟨(WS_of 803 (by decide +kernel)), (WS_of 85 (by decide +kernel)), (WS_of 804 (by decide +kernel)), ⟨by decide +kernel, by decide +kernel, by decide +kernel⟩⟩
set_option maxRecDepth 100000 in
set_option maxHeartbeats 4000000 in
theorem w_borrow {Γ : Ga} {l : Launch} {ω : Wo} {d k : Nat} {a : Int} {b : Int} {Po : Int → Wo → Prop} {X : String → Wo → Prop} (hd : d ≤ 20) (hM : XI Γ l yX8_borrow cX8_borrow 3 .int d k [.ref (rl Γ 0), .int (iI a), .int (iI b)] ω Po X) (hX : ∀ E ω', X E ω' → E = eUn) : CW Γ l yL_borrow cL_borrow 5 [(0, 10, 13, 13)] 21 k [.ref (rl Γ 0), .int (iI a), .int (iI b), .ref (rl Γ 252)] ω (fun z ω' => (z = 0 ∧ ∃ v ω1, Rg v ∧ Po v ω1 ∧ ω' = wi ω1 252 0 v) ∨ (z = 1 ∧ X eUn ω')) := by
  refine MetH.ofJ (k := 1) [some (.ref (rl Γ 0)), some (.int (iI a)), some (.int (iI b)), some (.ref (rl Γ 252)), none] (by decide) rfl rfl rfl (fun p e s mm args below meth c C hK3 ht hrt => ?_)
  refine j_aload3 C dL_borrow_0 ?_
  refine j_iconst C dL_borrow_1 ?_
  refine j_aload0 C dL_borrow_2 ?_
  refine j_iload1 C dL_borrow_3 ?_
  refine j_iload2 C dL_borrow_4 ?_
  refine j_tI2 C hK3.1 hM oX8_borrow (show Lk yL_borrow.cls 28 yX8_borrow from (WS_of 814 (by decide +kernel))) ⟨_, rfl, rfl⟩ at_0 ⟨by omega, by decide⟩ rfl (Nat.le_of_ble_eq_true rfl) ⟨by omega, by omega⟩ dL_borrow_5 (fun E ω1 hE => ?_) ?_
  · have hE9 := hX E ω1 hE
    subst hE9
    refine ⟨13, Hd.one (hh := []) ht (by decide) (by decide) (C.2.2.2.2.1 _ (WS_of 470 (by decide +kernel))) (hK3.1.2.2.2.1 _ (List.mem_of_getElem? (i := 4) rfl)), fun q => ?_⟩
    refine j_astore4 C rfl dL_borrow_13 ?_
    refine j_iconst C dL_borrow_15 ?_
    refine j_widen (ce' := k) (sl' := 6 * k) (by omega) (by omega) ?_
    exact j_iret C hrt dL_borrow_16 ⟨by decide, by decide⟩ (Or.inr (⟨rfl, hE⟩))
  intro v ω1 hv hPo
  refine j_i2l C hv dL_borrow_8 ?_
  refine j_last C hv dL_borrow_9 ?_
  refine j_goto C dL_borrow_10 ?_
  refine j_iconst C dL_borrow_17 ?_
  refine j_widen (ce' := k) (sl' := 6 * k) (by omega) (by omega) ?_
  exact j_iret C hrt dL_borrow_18 ⟨by decide, by decide⟩ (Or.inl ⟨rfl, v, ω1, hv, hPo, rfl⟩)
theorem o_w_borrow : Ow yL_borrow cL_borrow 5 [(0, 10, 13, 13)] 4 := ⟨(WS_of 812 (by decide +kernel)), (WS_of 85 (by decide +kernel)), (WS_of 813 (by decide +kernel)), ⟨by decide +kernel, by decide +kernel, by decide +kernel⟩⟩
set_option maxRecDepth 100000 in
set_option maxHeartbeats 4000000 in
theorem w_giveBack {Γ : Ga} {l : Launch} {ω : Wo} {d k : Nat} {a : Int} {Po : Int → Wo → Prop} {X : String → Wo → Prop} (hd : d ≤ 20) (hM : XI Γ l yX8_giveBack cX8_giveBack 2 .int d k [.ref (rl Γ 0), .int (iI a)] ω Po X) (hX : ∀ E ω', X E ω' → E = eUn) : CW Γ l yL_giveBack cL_giveBack 4 [(0, 9, 12, 13)] 21 k [.ref (rl Γ 0), .int (iI a), .ref (rl Γ 252)] ω (fun z ω' => (z = 0 ∧ ∃ v ω1, Rg v ∧ Po v ω1 ∧ ω' = wi ω1 252 0 v) ∨ (z = 1 ∧ X eUn ω')) := by
  refine MetH.ofJ (k := 1) [some (.ref (rl Γ 0)), some (.int (iI a)), some (.ref (rl Γ 252)), none] (by decide) rfl rfl rfl (fun p e s mm args below meth c C hK3 ht hrt => ?_)
  refine j_aload2 C dL_giveBack_0 ?_
  refine j_iconst C dL_giveBack_1 ?_
  refine j_aload0 C dL_giveBack_2 ?_
  refine j_iload1 C dL_giveBack_3 ?_
  refine j_tI1 C hK3.1 hM oX8_giveBack (show Lk yL_giveBack.cls 31 yX8_giveBack from (WS_of 823 (by decide +kernel))) ⟨_, rfl, rfl⟩ at_0 ⟨by omega, by decide⟩ rfl (Nat.le_of_ble_eq_true rfl) ⟨by omega, by omega⟩ dL_giveBack_4 (fun E ω1 hE => ?_) ?_
  · have hE9 := hX E ω1 hE
    subst hE9
    refine ⟨12, Hd.one (hh := []) ht (by decide) (by decide) (C.2.2.2.2.1 _ (WS_of 470 (by decide +kernel))) (hK3.1.2.2.2.1 _ (List.mem_of_getElem? (i := 4) rfl)), fun q => ?_⟩
    refine j_astore3 C rfl dL_giveBack_12 ?_
    refine j_iconst C dL_giveBack_13 ?_
    refine j_widen (ce' := k) (sl' := 6 * k) (by omega) (by omega) ?_
    exact j_iret C hrt dL_giveBack_14 ⟨by decide, by decide⟩ (Or.inr (⟨rfl, hE⟩))
  intro v ω1 hv hPo
  refine j_i2l C hv dL_giveBack_7 ?_
  refine j_last C hv dL_giveBack_8 ?_
  refine j_goto C dL_giveBack_9 ?_
  refine j_iconst C dL_giveBack_15 ?_
  refine j_widen (ce' := k) (sl' := 6 * k) (by omega) (by omega) ?_
  exact j_iret C hrt dL_giveBack_16 ⟨by decide, by decide⟩ (Or.inl ⟨rfl, v, ω1, hv, hPo, rfl⟩)
theorem o_w_giveBack : Ow yL_giveBack cL_giveBack 4 [(0, 9, 12, 13)] 3 := ⟨(WS_of 821 (by decide +kernel)), (WS_of 85 (by decide +kernel)), (WS_of 822 (by decide +kernel)), ⟨by decide +kernel, by decide +kernel, by decide +kernel⟩⟩
set_option maxRecDepth 100000 in
set_option maxHeartbeats 4000000 in
theorem w_limit {Γ : Ga} {l : Launch} {ω : Wo} {d k : Nat} {a : Int} {Po : Int → Wo → Prop} {X : String → Wo → Prop} (hd : d ≤ 20) (hM : XI Γ l yX8_limit cX8_limit 2 .int d k [.ref (rl Γ 0), .int (iI a)] ω Po X) (hX : ∀ E ω', X E ω' → E = eUn) : CW Γ l yL_limit cL_limit 4 [(0, 9, 12, 13)] 21 k [.ref (rl Γ 0), .int (iI a), .ref (rl Γ 252)] ω (fun z ω' => (z = 0 ∧ ∃ v ω1, Rg v ∧ Po v ω1 ∧ ω' = wi ω1 252 0 v) ∨ (z = 1 ∧ X eUn ω')) := by
  refine MetH.ofJ (k := 1) [some (.ref (rl Γ 0)), some (.int (iI a)), some (.ref (rl Γ 252)), none] (by decide) rfl rfl rfl (fun p e s mm args below meth c C hK3 ht hrt => ?_)
  refine j_aload2 C dL_limit_0 ?_
  refine j_iconst C dL_limit_1 ?_
  refine j_aload0 C dL_limit_2 ?_
  refine j_iload1 C dL_limit_3 ?_
  refine j_tI1 C hK3.1 hM oX8_limit (show Lk yL_limit.cls 34 yX8_limit from (WS_of 832 (by decide +kernel))) ⟨_, rfl, rfl⟩ at_0 ⟨by omega, by decide⟩ rfl (Nat.le_of_ble_eq_true rfl) ⟨by omega, by omega⟩ dL_limit_4 (fun E ω1 hE => ?_) ?_
  · have hE9 := hX E ω1 hE
    subst hE9
    refine ⟨12, Hd.one (hh := []) ht (by decide) (by decide) (C.2.2.2.2.1 _ (WS_of 470 (by decide +kernel))) (hK3.1.2.2.2.1 _ (List.mem_of_getElem? (i := 4) rfl)), fun q => ?_⟩
    refine j_astore3 C rfl dL_limit_12 ?_
    refine j_iconst C dL_limit_13 ?_
    refine j_widen (ce' := k) (sl' := 6 * k) (by omega) (by omega) ?_
    exact j_iret C hrt dL_limit_14 ⟨by decide, by decide⟩ (Or.inr (⟨rfl, hE⟩))
  intro v ω1 hv hPo
  refine j_i2l C hv dL_limit_7 ?_
  refine j_last C hv dL_limit_8 ?_
  refine j_goto C dL_limit_9 ?_
  refine j_iconst C dL_limit_15 ?_
  refine j_widen (ce' := k) (sl' := 6 * k) (by omega) (by omega) ?_
  exact j_iret C hrt dL_limit_16 ⟨by decide, by decide⟩ (Or.inl ⟨rfl, v, ω1, hv, hPo, rfl⟩)
theorem o_w_limit : Ow yL_limit cL_limit 4 [(0, 9, 12, 13)] 3 := ⟨(WS_of 830 (by decide +kernel)), (WS_of 85 (by decide +kernel)), (WS_of 831 (by decide +kernel)), ⟨by decide +kernel, by decide +kernel, by decide +kernel⟩⟩
set_option maxRecDepth 100000 in
set_option maxHeartbeats 4000000 in
theorem w_pass {Γ : Ga} {l : Launch} {ω : Wo} {d k : Nat} {a : Int} {Po : Int → Wo → Prop} {X : String → Wo → Prop} (hd : d ≤ 20) (hM : XI Γ l yX8_pass cX8_pass 2 .int d k [.ref (rl Γ 0), .int (iI a)] ω Po X) (hX : ∀ E ω', X E ω' → E = eUn) : CW Γ l yL_pass cL_pass 4 [(0, 9, 12, 13)] 21 k [.ref (rl Γ 0), .int (iI a), .ref (rl Γ 252)] ω (fun z ω' => (z = 0 ∧ ∃ v ω1, Rg v ∧ Po v ω1 ∧ ω' = wi ω1 252 0 v) ∨ (z = 1 ∧ X eUn ω')) := by
  refine MetH.ofJ (k := 1) [some (.ref (rl Γ 0)), some (.int (iI a)), some (.ref (rl Γ 252)), none] (by decide) rfl rfl rfl (fun p e s mm args below meth c C hK3 ht hrt => ?_)
  refine j_aload2 C dL_pass_0 ?_
  refine j_iconst C dL_pass_1 ?_
  refine j_aload0 C dL_pass_2 ?_
  refine j_iload1 C dL_pass_3 ?_
  refine j_tI1 C hK3.1 hM oX8_pass (show Lk yL_pass.cls 37 yX8_pass from (WS_of 841 (by decide +kernel))) ⟨_, rfl, rfl⟩ at_0 ⟨by omega, by decide⟩ rfl (Nat.le_of_ble_eq_true rfl) ⟨by omega, by omega⟩ dL_pass_4 (fun E ω1 hE => ?_) ?_
  · have hE9 := hX E ω1 hE
    subst hE9
    refine ⟨12, Hd.one (hh := []) ht (by decide) (by decide) (C.2.2.2.2.1 _ (WS_of 470 (by decide +kernel))) (hK3.1.2.2.2.1 _ (List.mem_of_getElem? (i := 4) rfl)), fun q => ?_⟩
    refine j_astore3 C rfl dL_pass_12 ?_
    refine j_iconst C dL_pass_13 ?_
    refine j_widen (ce' := k) (sl' := 6 * k) (by omega) (by omega) ?_
    exact j_iret C hrt dL_pass_14 ⟨by decide, by decide⟩ (Or.inr (⟨rfl, hE⟩))
  intro v ω1 hv hPo
  refine j_i2l C hv dL_pass_7 ?_
  refine j_last C hv dL_pass_8 ?_
  refine j_goto C dL_pass_9 ?_
  refine j_iconst C dL_pass_15 ?_
  refine j_widen (ce' := k) (sl' := 6 * k) (by omega) (by omega) ?_
  exact j_iret C hrt dL_pass_16 ⟨by decide, by decide⟩ (Or.inl ⟨rfl, v, ω1, hv, hPo, rfl⟩)
theorem o_w_pass : Ow yL_pass cL_pass 4 [(0, 9, 12, 13)] 3 := ⟨(WS_of 839 (by decide +kernel)), (WS_of 85 (by decide +kernel)), (WS_of 840 (by decide +kernel)), ⟨by decide +kernel, by decide +kernel, by decide +kernel⟩⟩
set_option maxRecDepth 100000 in
set_option maxHeartbeats 4000000 in
theorem w_height {Γ : Ga} {l : Launch} {ω : Wo} {d k : Nat} {a : Int} {Po : Int → Wo → Prop} {X : String → Wo → Prop} (hd : d ≤ 20) (hM : XI Γ l yX8_height cX8_height 2 .int d k [.ref (rl Γ 0), .int (iI a)] ω Po X) (hX : ∀ E ω', X E ω' → E = eArg) : CW Γ l yL_height cL_height 4 [(0, 9, 12, 43)] 21 k [.ref (rl Γ 0), .int (iI a), .ref (rl Γ 252)] ω (fun z ω' => (z = 0 ∧ ∃ v ω1, Rg v ∧ Po v ω1 ∧ ω' = wi ω1 252 0 v) ∨ (z = 1 ∧ X eArg ω')) := by
  refine MetH.ofJ (k := 1) [some (.ref (rl Γ 0)), some (.int (iI a)), some (.ref (rl Γ 252)), none] (by decide) rfl rfl rfl (fun p e s mm args below meth c C hK3 ht hrt => ?_)
  refine j_aload2 C dL_height_0 ?_
  refine j_iconst C dL_height_1 ?_
  refine j_aload0 C dL_height_2 ?_
  refine j_iload1 C dL_height_3 ?_
  refine j_tI1 C hK3.1 hM oX8_height (show Lk yL_height.cls 40 yX8_height from (WS_of 851 (by decide +kernel))) ⟨_, rfl, rfl⟩ at_0 ⟨by omega, by decide⟩ rfl (Nat.le_of_ble_eq_true rfl) ⟨by omega, by omega⟩ dL_height_4 (fun E ω1 hE => ?_) ?_
  · have hE9 := hX E ω1 hE
    subst hE9
    refine ⟨12, Hd.one (hh := []) ht (by decide) (by decide) (C.2.2.2.2.1 _ (WS_of 850 (by decide +kernel))) (hK3.1.2.2.2.1 _ (List.mem_of_getElem? (i := 0) rfl)), fun q => ?_⟩
    refine j_astore3 C rfl dL_height_12 ?_
    refine j_iconst C dL_height_13 ?_
    refine j_widen (ce' := k) (sl' := 6 * k) (by omega) (by omega) ?_
    exact j_iret C hrt dL_height_14 ⟨by decide, by decide⟩ (Or.inr (⟨rfl, hE⟩))
  intro v ω1 hv hPo
  refine j_i2l C hv dL_height_7 ?_
  refine j_last C hv dL_height_8 ?_
  refine j_goto C dL_height_9 ?_
  refine j_iconst C dL_height_15 ?_
  refine j_widen (ce' := k) (sl' := 6 * k) (by omega) (by omega) ?_
  exact j_iret C hrt dL_height_16 ⟨by decide, by decide⟩ (Or.inl ⟨rfl, v, ω1, hv, hPo, rfl⟩)
theorem o_w_height : Ow yL_height cL_height 4 [(0, 9, 12, 43)] 3 := ⟨(WS_of 848 (by decide +kernel)), (WS_of 85 (by decide +kernel)), (WS_of 849 (by decide +kernel)), ⟨by decide +kernel, by decide +kernel, by decide +kernel⟩⟩
set_option maxRecDepth 100000 in
set_option maxHeartbeats 4000000 in
theorem w_memberOf {Γ : Ga} {l : Launch} {ω : Wo} {d k : Nat} {a : Int} {b : Int} {Po : Int → Wo → Prop} {X : String → Wo → Prop} (hd : d ≤ 20) (hM : XI Γ l yX8_memberOf cX8_memberOf 4 .int d k [.ref (rl Γ 0), .int (iI a), .int (iI b)] ω Po X) (hX : ∀ E ω', X E ω' → E = eIdx ∨ E = eArg) : CW Γ l yL_memberOf cL_memberOf 5 [(0, 10, 13, 48), (0, 10, 17, 43)] 21 k [.ref (rl Γ 0), .int (iI a), .int (iI b), .ref (rl Γ 252)] ω (fun z ω' => (z = 0 ∧ ∃ v ω1, Rg v ∧ Po v ω1 ∧ ω' = wi ω1 252 0 v) ∨ (z = 1 ∧ X eIdx ω') ∨ (z = 2 ∧ X eArg ω')) := by
  refine MetH.ofJ (k := 1) [some (.ref (rl Γ 0)), some (.int (iI a)), some (.int (iI b)), some (.ref (rl Γ 252)), none] (by decide) rfl rfl rfl (fun p e s mm args below meth c C hK3 ht hrt => ?_)
  refine j_aload3 C dL_memberOf_0 ?_
  refine j_iconst C dL_memberOf_1 ?_
  refine j_aload0 C dL_memberOf_2 ?_
  refine j_iload1 C dL_memberOf_3 ?_
  refine j_iload2 C dL_memberOf_4 ?_
  refine j_tI2 C hK3.1 hM oX8_memberOf (show Lk yL_memberOf.cls 45 yX8_memberOf from (WS_of 899 (by decide +kernel))) ⟨_, rfl, rfl⟩ at_0 ⟨by omega, by decide⟩ rfl (Nat.le_of_ble_eq_true rfl) ⟨by omega, by omega⟩ dL_memberOf_5 (fun E ω1 hE => ?_) ?_
  · have hE9 := hX E ω1 hE
    rcases hE9 with rfl | rfl
    · refine ⟨13, Hd.fst (q := (0, 10, 17, 43)) ht (by decide) (by decide) (C.2.2.2.2.1 _ (WS_of 875 (by decide +kernel))) (hK3.1.2.2.2.1 _ (List.mem_of_getElem? (i := 1) rfl)), fun q => ?_⟩
      refine j_astore4 C rfl dL_memberOf_13 ?_
      refine j_iconst C dL_memberOf_15 ?_
      refine j_widen (ce' := k) (sl' := 6 * k) (by omega) (by omega) ?_
      exact j_iret C hrt dL_memberOf_16 ⟨by decide, by decide⟩ (Or.inr (Or.inl ⟨rfl, hE⟩))
    · refine ⟨17, Hd.snd ht (by decide) (C.2.2.2.2.1 _ (WS_of 875 (by decide +kernel))) hK3.2.1 (by decide) (by decide) (C.2.2.2.2.1 _ (WS_of 850 (by decide +kernel))) (hK3.1.2.2.2.1 _ (List.mem_of_getElem? (i := 0) rfl)), fun q => ?_⟩
      refine j_astore4 C rfl dL_memberOf_17 ?_
      refine j_iconst C dL_memberOf_19 ?_
      refine j_widen (ce' := k) (sl' := 6 * k) (by omega) (by omega) ?_
      exact j_iret C hrt dL_memberOf_20 ⟨by decide, by decide⟩ (Or.inr (Or.inr (⟨rfl, hE⟩)))
  intro v ω1 hv hPo
  refine j_i2l C hv dL_memberOf_8 ?_
  refine j_last C hv dL_memberOf_9 ?_
  refine j_goto C dL_memberOf_10 ?_
  refine j_iconst C dL_memberOf_21 ?_
  refine j_widen (ce' := k) (sl' := 6 * k) (by omega) (by omega) ?_
  exact j_iret C hrt dL_memberOf_22 ⟨by decide, by decide⟩ (Or.inl ⟨rfl, v, ω1, hv, hPo, rfl⟩)
theorem o_w_memberOf : Ow yL_memberOf cL_memberOf 5 [(0, 10, 13, 48), (0, 10, 17, 43)] 4 := ⟨(WS_of 873 (by decide +kernel)), (WS_of 85 (by decide +kernel)), (WS_of 874 (by decide +kernel)), ⟨by decide +kernel, by decide +kernel, by decide +kernel⟩⟩
set_option maxRecDepth 100000 in
set_option maxHeartbeats 4000000 in
theorem w_boatOf {Γ : Ga} {l : Launch} {ω : Wo} {d k : Nat} {a : Int} {b : Int} {Po : Int → Wo → Prop} {X : String → Wo → Prop} (hd : d ≤ 20) (hM : XI Γ l yX8_boatOf cX8_boatOf 4 .int d k [.ref (rl Γ 0), .int (iI a), .int (iI b)] ω Po X) (hX : ∀ E ω', X E ω' → E = eIdx ∨ E = eArg) : CW Γ l yL_boatOf cL_boatOf 5 [(0, 10, 13, 48), (0, 10, 17, 43)] 21 k [.ref (rl Γ 0), .int (iI a), .int (iI b), .ref (rl Γ 252)] ω (fun z ω' => (z = 0 ∧ ∃ v ω1, Rg v ∧ Po v ω1 ∧ ω' = wi ω1 252 0 v) ∨ (z = 1 ∧ X eIdx ω') ∨ (z = 2 ∧ X eArg ω')) := by
  refine MetH.ofJ (k := 1) [some (.ref (rl Γ 0)), some (.int (iI a)), some (.int (iI b)), some (.ref (rl Γ 252)), none] (by decide) rfl rfl rfl (fun p e s mm args below meth c C hK3 ht hrt => ?_)
  refine j_aload3 C dL_boatOf_0 ?_
  refine j_iconst C dL_boatOf_1 ?_
  refine j_aload0 C dL_boatOf_2 ?_
  refine j_iload1 C dL_boatOf_3 ?_
  refine j_iload2 C dL_boatOf_4 ?_
  refine j_tI2 C hK3.1 hM oX8_boatOf (show Lk yL_boatOf.cls 50 yX8_boatOf from (WS_of 923 (by decide +kernel))) ⟨_, rfl, rfl⟩ at_0 ⟨by omega, by decide⟩ rfl (Nat.le_of_ble_eq_true rfl) ⟨by omega, by omega⟩ dL_boatOf_5 (fun E ω1 hE => ?_) ?_
  · have hE9 := hX E ω1 hE
    rcases hE9 with rfl | rfl
    · refine ⟨13, Hd.fst (q := (0, 10, 17, 43)) ht (by decide) (by decide) (C.2.2.2.2.1 _ (WS_of 875 (by decide +kernel))) (hK3.1.2.2.2.1 _ (List.mem_of_getElem? (i := 1) rfl)), fun q => ?_⟩
      refine j_astore4 C rfl dL_boatOf_13 ?_
      refine j_iconst C dL_boatOf_15 ?_
      refine j_widen (ce' := k) (sl' := 6 * k) (by omega) (by omega) ?_
      exact j_iret C hrt dL_boatOf_16 ⟨by decide, by decide⟩ (Or.inr (Or.inl ⟨rfl, hE⟩))
    · refine ⟨17, Hd.snd ht (by decide) (C.2.2.2.2.1 _ (WS_of 875 (by decide +kernel))) hK3.2.1 (by decide) (by decide) (C.2.2.2.2.1 _ (WS_of 850 (by decide +kernel))) (hK3.1.2.2.2.1 _ (List.mem_of_getElem? (i := 0) rfl)), fun q => ?_⟩
      refine j_astore4 C rfl dL_boatOf_17 ?_
      refine j_iconst C dL_boatOf_19 ?_
      refine j_widen (ce' := k) (sl' := 6 * k) (by omega) (by omega) ?_
      exact j_iret C hrt dL_boatOf_20 ⟨by decide, by decide⟩ (Or.inr (Or.inr (⟨rfl, hE⟩)))
  intro v ω1 hv hPo
  refine j_i2l C hv dL_boatOf_8 ?_
  refine j_last C hv dL_boatOf_9 ?_
  refine j_goto C dL_boatOf_10 ?_
  refine j_iconst C dL_boatOf_21 ?_
  refine j_widen (ce' := k) (sl' := 6 * k) (by omega) (by omega) ?_
  exact j_iret C hrt dL_boatOf_22 ⟨by decide, by decide⟩ (Or.inl ⟨rfl, v, ω1, hv, hPo, rfl⟩)
theorem o_w_boatOf : Ow yL_boatOf cL_boatOf 5 [(0, 10, 13, 48), (0, 10, 17, 43)] 4 := ⟨(WS_of 921 (by decide +kernel)), (WS_of 85 (by decide +kernel)), (WS_of 922 (by decide +kernel)), ⟨by decide +kernel, by decide +kernel, by decide +kernel⟩⟩
set_option maxRecDepth 100000 in
set_option maxHeartbeats 4000000 in
theorem w_crew {Γ : Ga} {l : Launch} {ω : Wo} {d k : Nat} {a : Int} {Po : Int → Wo → Prop} {X : String → Wo → Prop} (hd : d ≤ 20) (hM : XI Γ l yX8_crew cX8_crew 2 .int d k [.ref (rl Γ 0), .int (iI a)] ω Po X) (hX : ∀ E ω', X E ω' → E = eIdx) : CW Γ l yL_crew cL_crew 4 [(0, 9, 12, 48)] 21 k [.ref (rl Γ 0), .int (iI a), .ref (rl Γ 252)] ω (fun z ω' => (z = 0 ∧ ∃ v ω1, Rg v ∧ Po v ω1 ∧ ω' = wi ω1 252 0 v) ∨ (z = 1 ∧ X eIdx ω')) := by
  refine MetH.ofJ (k := 1) [some (.ref (rl Γ 0)), some (.int (iI a)), some (.ref (rl Γ 252)), none] (by decide) rfl rfl rfl (fun p e s mm args below meth c C hK3 ht hrt => ?_)
  refine j_aload2 C dL_crew_0 ?_
  refine j_iconst C dL_crew_1 ?_
  refine j_aload0 C dL_crew_2 ?_
  refine j_iload1 C dL_crew_3 ?_
  refine j_tI1 C hK3.1 hM oX8_crew (show Lk yL_crew.cls 53 yX8_crew from (WS_of 938 (by decide +kernel))) ⟨_, rfl, rfl⟩ at_0 ⟨by omega, by decide⟩ rfl (Nat.le_of_ble_eq_true rfl) ⟨by omega, by omega⟩ dL_crew_4 (fun E ω1 hE => ?_) ?_
  · have hE9 := hX E ω1 hE
    subst hE9
    refine ⟨12, Hd.one (hh := []) ht (by decide) (by decide) (C.2.2.2.2.1 _ (WS_of 875 (by decide +kernel))) (hK3.1.2.2.2.1 _ (List.mem_of_getElem? (i := 1) rfl)), fun q => ?_⟩
    refine j_astore3 C rfl dL_crew_12 ?_
    refine j_iconst C dL_crew_13 ?_
    refine j_widen (ce' := k) (sl' := 6 * k) (by omega) (by omega) ?_
    exact j_iret C hrt dL_crew_14 ⟨by decide, by decide⟩ (Or.inr (⟨rfl, hE⟩))
  intro v ω1 hv hPo
  refine j_i2l C hv dL_crew_7 ?_
  refine j_last C hv dL_crew_8 ?_
  refine j_goto C dL_crew_9 ?_
  refine j_iconst C dL_crew_15 ?_
  refine j_widen (ce' := k) (sl' := 6 * k) (by omega) (by omega) ?_
  exact j_iret C hrt dL_crew_16 ⟨by decide, by decide⟩ (Or.inl ⟨rfl, v, ω1, hv, hPo, rfl⟩)
theorem o_w_crew : Ow yL_crew cL_crew 4 [(0, 9, 12, 48)] 3 := ⟨(WS_of 936 (by decide +kernel)), (WS_of 85 (by decide +kernel)), (WS_of 937 (by decide +kernel)), ⟨by decide +kernel, by decide +kernel, by decide +kernel⟩⟩
set_option maxRecDepth 100000 in
set_option maxHeartbeats 4000000 in
theorem w_wouldGo {Γ : Ga} {l : Launch} {ω : Wo} {d k : Nat} {a : Int} {Po : Int → Wo → Prop} {X : String → Wo → Prop} (hd : d ≤ 20) (hM : XI Γ l yX8_wouldGo cX8_wouldGo 2 .int d k [.ref (rl Γ 0), .int (iI a)] ω Po X) (hX : ∀ E ω', X E ω' → E = eIdx ∨ E = eNo) : CW Γ l yL_wouldGo cL_wouldGo 4 [(0, 9, 12, 48), (0, 9, 15, 59)] 21 k [.ref (rl Γ 0), .int (iI a), .ref (rl Γ 252)] ω (fun z ω' => (z = 0 ∧ ∃ v ω1, Rg v ∧ Po v ω1 ∧ ω' = wi ω1 252 0 v) ∨ (z = 1 ∧ X eIdx ω') ∨ (z = 2 ∧ X eNo ω')) := by
  refine MetH.ofJ (k := 1) [some (.ref (rl Γ 0)), some (.int (iI a)), some (.ref (rl Γ 252)), none] (by decide) rfl rfl rfl (fun p e s mm args below meth c C hK3 ht hrt => ?_)
  refine j_aload2 C dL_wouldGo_0 ?_
  refine j_iconst C dL_wouldGo_1 ?_
  refine j_aload0 C dL_wouldGo_2 ?_
  refine j_iload1 C dL_wouldGo_3 ?_
  refine j_tI1 C hK3.1 hM oX8_wouldGo (show Lk yL_wouldGo.cls 56 yX8_wouldGo from (WS_of 947 (by decide +kernel))) ⟨_, rfl, rfl⟩ at_0 ⟨by omega, by decide⟩ rfl (Nat.le_of_ble_eq_true rfl) ⟨by omega, by omega⟩ dL_wouldGo_4 (fun E ω1 hE => ?_) ?_
  · have hE9 := hX E ω1 hE
    rcases hE9 with rfl | rfl
    · refine ⟨12, Hd.fst (q := (0, 9, 15, 59)) ht (by decide) (by decide) (C.2.2.2.2.1 _ (WS_of 875 (by decide +kernel))) (hK3.1.2.2.2.1 _ (List.mem_of_getElem? (i := 1) rfl)), fun q => ?_⟩
      refine j_astore3 C rfl dL_wouldGo_12 ?_
      refine j_iconst C dL_wouldGo_13 ?_
      refine j_widen (ce' := k) (sl' := 6 * k) (by omega) (by omega) ?_
      exact j_iret C hrt dL_wouldGo_14 ⟨by decide, by decide⟩ (Or.inr (Or.inl ⟨rfl, hE⟩))
    · refine ⟨15, Hd.snd ht (by decide) (C.2.2.2.2.1 _ (WS_of 875 (by decide +kernel))) hK3.2.2.1 (by decide) (by decide) (C.2.2.2.2.1 _ (WS_of 946 (by decide +kernel))) (hK3.1.2.2.2.1 _ (List.mem_of_getElem? (i := 2) rfl)), fun q => ?_⟩
      refine j_astore3 C rfl dL_wouldGo_15 ?_
      refine j_iconst C dL_wouldGo_16 ?_
      refine j_widen (ce' := k) (sl' := 6 * k) (by omega) (by omega) ?_
      exact j_iret C hrt dL_wouldGo_17 ⟨by decide, by decide⟩ (Or.inr (Or.inr (⟨rfl, hE⟩)))
  intro v ω1 hv hPo
  refine j_i2l C hv dL_wouldGo_7 ?_
  refine j_last C hv dL_wouldGo_8 ?_
  refine j_goto C dL_wouldGo_9 ?_
  refine j_iconst C dL_wouldGo_18 ?_
  refine j_widen (ce' := k) (sl' := 6 * k) (by omega) (by omega) ?_
  exact j_iret C hrt dL_wouldGo_19 ⟨by decide, by decide⟩ (Or.inl ⟨rfl, v, ω1, hv, hPo, rfl⟩)
theorem o_w_wouldGo : Ow yL_wouldGo cL_wouldGo 4 [(0, 9, 12, 48), (0, 9, 15, 59)] 3 := ⟨(WS_of 944 (by decide +kernel)), (WS_of 85 (by decide +kernel)), (WS_of 945 (by decide +kernel)), ⟨by decide +kernel, by decide +kernel, by decide +kernel⟩⟩
set_option maxRecDepth 100000 in
set_option maxHeartbeats 4000000 in
theorem w_weariness {Γ : Ga} {l : Launch} {ω : Wo} {d k : Nat} {a : Int} {Po : Int → Wo → Prop} {X : String → Wo → Prop} (hd : d ≤ 20) (hM : XI Γ l yX8_weariness cX8_weariness 2 .int d k [.ref (rl Γ 0), .int (iI a)] ω Po X) (hX : ∀ E ω', X E ω' → E = eIdx ∨ E = eNo) : CW Γ l yL_weariness cL_weariness 4 [(0, 9, 12, 48), (0, 9, 15, 59)] 21 k [.ref (rl Γ 0), .int (iI a), .ref (rl Γ 252)] ω (fun z ω' => (z = 0 ∧ ∃ v ω1, Rg v ∧ Po v ω1 ∧ ω' = wi ω1 252 0 v) ∨ (z = 1 ∧ X eIdx ω') ∨ (z = 2 ∧ X eNo ω')) := by
  refine MetH.ofJ (k := 1) [some (.ref (rl Γ 0)), some (.int (iI a)), some (.ref (rl Γ 252)), none] (by decide) rfl rfl rfl (fun p e s mm args below meth c C hK3 ht hrt => ?_)
  refine j_aload2 C dL_weariness_0 ?_
  refine j_iconst C dL_weariness_1 ?_
  refine j_aload0 C dL_weariness_2 ?_
  refine j_iload1 C dL_weariness_3 ?_
  refine j_tI1 C hK3.1 hM oX8_weariness (show Lk yL_weariness.cls 61 yX8_weariness from (WS_of 976 (by decide +kernel))) ⟨_, rfl, rfl⟩ at_0 ⟨by omega, by decide⟩ rfl (Nat.le_of_ble_eq_true rfl) ⟨by omega, by omega⟩ dL_weariness_4 (fun E ω1 hE => ?_) ?_
  · have hE9 := hX E ω1 hE
    rcases hE9 with rfl | rfl
    · refine ⟨12, Hd.fst (q := (0, 9, 15, 59)) ht (by decide) (by decide) (C.2.2.2.2.1 _ (WS_of 875 (by decide +kernel))) (hK3.1.2.2.2.1 _ (List.mem_of_getElem? (i := 1) rfl)), fun q => ?_⟩
      refine j_astore3 C rfl dL_weariness_12 ?_
      refine j_iconst C dL_weariness_13 ?_
      refine j_widen (ce' := k) (sl' := 6 * k) (by omega) (by omega) ?_
      exact j_iret C hrt dL_weariness_14 ⟨by decide, by decide⟩ (Or.inr (Or.inl ⟨rfl, hE⟩))
    · refine ⟨15, Hd.snd ht (by decide) (C.2.2.2.2.1 _ (WS_of 875 (by decide +kernel))) hK3.2.2.1 (by decide) (by decide) (C.2.2.2.2.1 _ (WS_of 946 (by decide +kernel))) (hK3.1.2.2.2.1 _ (List.mem_of_getElem? (i := 2) rfl)), fun q => ?_⟩
      refine j_astore3 C rfl dL_weariness_15 ?_
      refine j_iconst C dL_weariness_16 ?_
      refine j_widen (ce' := k) (sl' := 6 * k) (by omega) (by omega) ?_
      exact j_iret C hrt dL_weariness_17 ⟨by decide, by decide⟩ (Or.inr (Or.inr (⟨rfl, hE⟩)))
  intro v ω1 hv hPo
  refine j_i2l C hv dL_weariness_7 ?_
  refine j_last C hv dL_weariness_8 ?_
  refine j_goto C dL_weariness_9 ?_
  refine j_iconst C dL_weariness_18 ?_
  refine j_widen (ce' := k) (sl' := 6 * k) (by omega) (by omega) ?_
  exact j_iret C hrt dL_weariness_19 ⟨by decide, by decide⟩ (Or.inl ⟨rfl, v, ω1, hv, hPo, rfl⟩)
theorem o_w_weariness : Ow yL_weariness cL_weariness 4 [(0, 9, 12, 48), (0, 9, 15, 59)] 3 := ⟨(WS_of 974 (by decide +kernel)), (WS_of 85 (by decide +kernel)), (WS_of 975 (by decide +kernel)), ⟨by decide +kernel, by decide +kernel, by decide +kernel⟩⟩
set_option maxRecDepth 100000 in
set_option maxHeartbeats 4000000 in
theorem w_wearinessAgain {Γ : Ga} {l : Launch} {ω : Wo} {d k : Nat} {a : Int} {Po : Int → Wo → Prop} {X : String → Wo → Prop} (hd : d ≤ 20) (hM : XI Γ l yX8_wearinessAgain cX8_wearinessAgain 2 .int d k [.ref (rl Γ 0), .int (iI a)] ω Po X) (hX : ∀ E ω', X E ω' → E = eIdx ∨ E = eNo) : CW Γ l yL_wearinessAgain cL_wearinessAgain 4 [(0, 9, 12, 48), (0, 9, 15, 59)] 21 k [.ref (rl Γ 0), .int (iI a), .ref (rl Γ 252)] ω (fun z ω' => (z = 0 ∧ ∃ v ω1, Rg v ∧ Po v ω1 ∧ ω' = wi ω1 252 0 v) ∨ (z = 1 ∧ X eIdx ω') ∨ (z = 2 ∧ X eNo ω')) := by
  refine MetH.ofJ (k := 1) [some (.ref (rl Γ 0)), some (.int (iI a)), some (.ref (rl Γ 252)), none] (by decide) rfl rfl rfl (fun p e s mm args below meth c C hK3 ht hrt => ?_)
  refine j_aload2 C dL_wearinessAgain_0 ?_
  refine j_iconst C dL_wearinessAgain_1 ?_
  refine j_aload0 C dL_wearinessAgain_2 ?_
  refine j_iload1 C dL_wearinessAgain_3 ?_
  refine j_tI1 C hK3.1 hM oX8_wearinessAgain (show Lk yL_wearinessAgain.cls 64 yX8_wearinessAgain from (WS_of 987 (by decide +kernel))) ⟨_, rfl, rfl⟩ at_0 ⟨by omega, by decide⟩ rfl (Nat.le_of_ble_eq_true rfl) ⟨by omega, by omega⟩ dL_wearinessAgain_4 (fun E ω1 hE => ?_) ?_
  · have hE9 := hX E ω1 hE
    rcases hE9 with rfl | rfl
    · refine ⟨12, Hd.fst (q := (0, 9, 15, 59)) ht (by decide) (by decide) (C.2.2.2.2.1 _ (WS_of 875 (by decide +kernel))) (hK3.1.2.2.2.1 _ (List.mem_of_getElem? (i := 1) rfl)), fun q => ?_⟩
      refine j_astore3 C rfl dL_wearinessAgain_12 ?_
      refine j_iconst C dL_wearinessAgain_13 ?_
      refine j_widen (ce' := k) (sl' := 6 * k) (by omega) (by omega) ?_
      exact j_iret C hrt dL_wearinessAgain_14 ⟨by decide, by decide⟩ (Or.inr (Or.inl ⟨rfl, hE⟩))
    · refine ⟨15, Hd.snd ht (by decide) (C.2.2.2.2.1 _ (WS_of 875 (by decide +kernel))) hK3.2.2.1 (by decide) (by decide) (C.2.2.2.2.1 _ (WS_of 946 (by decide +kernel))) (hK3.1.2.2.2.1 _ (List.mem_of_getElem? (i := 2) rfl)), fun q => ?_⟩
      refine j_astore3 C rfl dL_wearinessAgain_15 ?_
      refine j_iconst C dL_wearinessAgain_16 ?_
      refine j_widen (ce' := k) (sl' := 6 * k) (by omega) (by omega) ?_
      exact j_iret C hrt dL_wearinessAgain_17 ⟨by decide, by decide⟩ (Or.inr (Or.inr (⟨rfl, hE⟩)))
  intro v ω1 hv hPo
  refine j_i2l C hv dL_wearinessAgain_7 ?_
  refine j_last C hv dL_wearinessAgain_8 ?_
  refine j_goto C dL_wearinessAgain_9 ?_
  refine j_iconst C dL_wearinessAgain_18 ?_
  refine j_widen (ce' := k) (sl' := 6 * k) (by omega) (by omega) ?_
  exact j_iret C hrt dL_wearinessAgain_19 ⟨by decide, by decide⟩ (Or.inl ⟨rfl, v, ω1, hv, hPo, rfl⟩)
theorem o_w_wearinessAgain : Ow yL_wearinessAgain cL_wearinessAgain 4 [(0, 9, 12, 48), (0, 9, 15, 59)] 3 := ⟨(WS_of 985 (by decide +kernel)), (WS_of 85 (by decide +kernel)), (WS_of 986 (by decide +kernel)), ⟨by decide +kernel, by decide +kernel, by decide +kernel⟩⟩
set_option maxRecDepth 100000 in
set_option maxHeartbeats 4000000 in
theorem w_wouldRefuse {Γ : Ga} {l : Launch} {ω : Wo} {d k : Nat} {a : Int} {Po : Int → Wo → Prop} {X : String → Wo → Prop} (hd : d ≤ 20) (hM : XI Γ l yX8_wouldRefuse cX8_wouldRefuse 2 .int d k [.ref (rl Γ 0), .int (iI a)] ω Po X) (hX : ∀ E ω', X E ω' → E = eIdx) : CW Γ l yL_wouldRefuse cL_wouldRefuse 4 [(0, 9, 12, 48)] 21 k [.ref (rl Γ 0), .int (iI a), .ref (rl Γ 252)] ω (fun z ω' => (z = 0 ∧ ∃ v ω1, Rg v ∧ Po v ω1 ∧ ω' = wi ω1 252 0 v) ∨ (z = 1 ∧ X eIdx ω')) := by
  refine MetH.ofJ (k := 1) [some (.ref (rl Γ 0)), some (.int (iI a)), some (.ref (rl Γ 252)), none] (by decide) rfl rfl rfl (fun p e s mm args below meth c C hK3 ht hrt => ?_)
  refine j_aload2 C dL_wouldRefuse_0 ?_
  refine j_iconst C dL_wouldRefuse_1 ?_
  refine j_aload0 C dL_wouldRefuse_2 ?_
  refine j_iload1 C dL_wouldRefuse_3 ?_
  refine j_tI1 C hK3.1 hM oX8_wouldRefuse (show Lk yL_wouldRefuse.cls 67 yX8_wouldRefuse from (WS_of 1002 (by decide +kernel))) ⟨_, rfl, rfl⟩ at_0 ⟨by omega, by decide⟩ rfl (Nat.le_of_ble_eq_true rfl) ⟨by omega, by omega⟩ dL_wouldRefuse_4 (fun E ω1 hE => ?_) ?_
  · have hE9 := hX E ω1 hE
    subst hE9
    refine ⟨12, Hd.one (hh := []) ht (by decide) (by decide) (C.2.2.2.2.1 _ (WS_of 875 (by decide +kernel))) (hK3.1.2.2.2.1 _ (List.mem_of_getElem? (i := 1) rfl)), fun q => ?_⟩
    refine j_astore3 C rfl dL_wouldRefuse_12 ?_
    refine j_iconst C dL_wouldRefuse_13 ?_
    refine j_widen (ce' := k) (sl' := 6 * k) (by omega) (by omega) ?_
    exact j_iret C hrt dL_wouldRefuse_14 ⟨by decide, by decide⟩ (Or.inr (⟨rfl, hE⟩))
  intro v ω1 hv hPo
  refine j_i2l C hv dL_wouldRefuse_7 ?_
  refine j_last C hv dL_wouldRefuse_8 ?_
  refine j_goto C dL_wouldRefuse_9 ?_
  refine j_iconst C dL_wouldRefuse_15 ?_
  refine j_widen (ce' := k) (sl' := 6 * k) (by omega) (by omega) ?_
  exact j_iret C hrt dL_wouldRefuse_16 ⟨by decide, by decide⟩ (Or.inl ⟨rfl, v, ω1, hv, hPo, rfl⟩)
theorem o_w_wouldRefuse : Ow yL_wouldRefuse cL_wouldRefuse 4 [(0, 9, 12, 48)] 3 := ⟨(WS_of 1000 (by decide +kernel)), (WS_of 85 (by decide +kernel)), (WS_of 1001 (by decide +kernel)), ⟨by decide +kernel, by decide +kernel, by decide +kernel⟩⟩
set_option maxRecDepth 100000 in
set_option maxHeartbeats 4000000 in
theorem w_callableIn {Γ : Ga} {l : Launch} {ω : Wo} {d k : Nat} {a : Int} {Po : Int → Wo → Prop} {X : String → Wo → Prop} (hd : d ≤ 20) (hM : XI Γ l yX8_callableIn cX8_callableIn 3 .int d k [.ref (rl Γ 0), .int (iI a)] ω Po X) (hX : ∀ E ω', X E ω' → E = eIdx ∨ E = eNo) : CW Γ l yL_callableIn cL_callableIn 4 [(0, 9, 12, 48), (0, 9, 15, 59)] 21 k [.ref (rl Γ 0), .int (iI a), .ref (rl Γ 252)] ω (fun z ω' => (z = 0 ∧ ∃ v ω1, Rg v ∧ Po v ω1 ∧ ω' = wi ω1 252 0 v) ∨ (z = 1 ∧ X eIdx ω') ∨ (z = 2 ∧ X eNo ω')) := by
  refine MetH.ofJ (k := 1) [some (.ref (rl Γ 0)), some (.int (iI a)), some (.ref (rl Γ 252)), none] (by decide) rfl rfl rfl (fun p e s mm args below meth c C hK3 ht hrt => ?_)
  refine j_aload2 C dL_callableIn_0 ?_
  refine j_iconst C dL_callableIn_1 ?_
  refine j_aload0 C dL_callableIn_2 ?_
  refine j_iload1 C dL_callableIn_3 ?_
  refine j_tI1 C hK3.1 hM oX8_callableIn (show Lk yL_callableIn.cls 70 yX8_callableIn from (WS_of 1009 (by decide +kernel))) ⟨_, rfl, rfl⟩ at_0 ⟨by omega, by decide⟩ rfl (Nat.le_of_ble_eq_true rfl) ⟨by omega, by omega⟩ dL_callableIn_4 (fun E ω1 hE => ?_) ?_
  · have hE9 := hX E ω1 hE
    rcases hE9 with rfl | rfl
    · refine ⟨12, Hd.fst (q := (0, 9, 15, 59)) ht (by decide) (by decide) (C.2.2.2.2.1 _ (WS_of 875 (by decide +kernel))) (hK3.1.2.2.2.1 _ (List.mem_of_getElem? (i := 1) rfl)), fun q => ?_⟩
      refine j_astore3 C rfl dL_callableIn_12 ?_
      refine j_iconst C dL_callableIn_13 ?_
      refine j_widen (ce' := k) (sl' := 6 * k) (by omega) (by omega) ?_
      exact j_iret C hrt dL_callableIn_14 ⟨by decide, by decide⟩ (Or.inr (Or.inl ⟨rfl, hE⟩))
    · refine ⟨15, Hd.snd ht (by decide) (C.2.2.2.2.1 _ (WS_of 875 (by decide +kernel))) hK3.2.2.1 (by decide) (by decide) (C.2.2.2.2.1 _ (WS_of 946 (by decide +kernel))) (hK3.1.2.2.2.1 _ (List.mem_of_getElem? (i := 2) rfl)), fun q => ?_⟩
      refine j_astore3 C rfl dL_callableIn_15 ?_
      refine j_iconst C dL_callableIn_16 ?_
      refine j_widen (ce' := k) (sl' := 6 * k) (by omega) (by omega) ?_
      exact j_iret C hrt dL_callableIn_17 ⟨by decide, by decide⟩ (Or.inr (Or.inr (⟨rfl, hE⟩)))
  intro v ω1 hv hPo
  refine j_i2l C hv dL_callableIn_7 ?_
  refine j_last C hv dL_callableIn_8 ?_
  refine j_goto C dL_callableIn_9 ?_
  refine j_iconst C dL_callableIn_18 ?_
  refine j_widen (ce' := k) (sl' := 6 * k) (by omega) (by omega) ?_
  exact j_iret C hrt dL_callableIn_19 ⟨by decide, by decide⟩ (Or.inl ⟨rfl, v, ω1, hv, hPo, rfl⟩)
theorem o_w_callableIn : Ow yL_callableIn cL_callableIn 4 [(0, 9, 12, 48), (0, 9, 15, 59)] 3 := ⟨(WS_of 1007 (by decide +kernel)), (WS_of 85 (by decide +kernel)), (WS_of 1008 (by decide +kernel)), ⟨by decide +kernel, by decide +kernel, by decide +kernel⟩⟩
set_option maxRecDepth 100000 in
set_option maxHeartbeats 4000000 in
theorem w_homeIn {Γ : Ga} {l : Launch} {ω : Wo} {d k : Nat} {a : Int} {Po : Int → Wo → Prop} {X : String → Wo → Prop} (hd : d ≤ 20) (hM : XI Γ l yX8_homeIn cX8_homeIn 3 .int d k [.ref (rl Γ 0), .int (iI a)] ω Po X) (hX : ∀ E ω', X E ω' → E = eIdx ∨ E = eNo) : CW Γ l yL_homeIn cL_homeIn 4 [(0, 9, 12, 48), (0, 9, 15, 59)] 21 k [.ref (rl Γ 0), .int (iI a), .ref (rl Γ 252)] ω (fun z ω' => (z = 0 ∧ ∃ v ω1, Rg v ∧ Po v ω1 ∧ ω' = wi ω1 252 0 v) ∨ (z = 1 ∧ X eIdx ω') ∨ (z = 2 ∧ X eNo ω')) := by
  refine MetH.ofJ (k := 1) [some (.ref (rl Γ 0)), some (.int (iI a)), some (.ref (rl Γ 252)), none] (by decide) rfl rfl rfl (fun p e s mm args below meth c C hK3 ht hrt => ?_)
  refine j_aload2 C dL_homeIn_0 ?_
  refine j_iconst C dL_homeIn_1 ?_
  refine j_aload0 C dL_homeIn_2 ?_
  refine j_iload1 C dL_homeIn_3 ?_
  refine j_tI1 C hK3.1 hM oX8_homeIn (show Lk yL_homeIn.cls 73 yX8_homeIn from (WS_of 1017 (by decide +kernel))) ⟨_, rfl, rfl⟩ at_0 ⟨by omega, by decide⟩ rfl (Nat.le_of_ble_eq_true rfl) ⟨by omega, by omega⟩ dL_homeIn_4 (fun E ω1 hE => ?_) ?_
  · have hE9 := hX E ω1 hE
    rcases hE9 with rfl | rfl
    · refine ⟨12, Hd.fst (q := (0, 9, 15, 59)) ht (by decide) (by decide) (C.2.2.2.2.1 _ (WS_of 875 (by decide +kernel))) (hK3.1.2.2.2.1 _ (List.mem_of_getElem? (i := 1) rfl)), fun q => ?_⟩
      refine j_astore3 C rfl dL_homeIn_12 ?_
      refine j_iconst C dL_homeIn_13 ?_
      refine j_widen (ce' := k) (sl' := 6 * k) (by omega) (by omega) ?_
      exact j_iret C hrt dL_homeIn_14 ⟨by decide, by decide⟩ (Or.inr (Or.inl ⟨rfl, hE⟩))
    · refine ⟨15, Hd.snd ht (by decide) (C.2.2.2.2.1 _ (WS_of 875 (by decide +kernel))) hK3.2.2.1 (by decide) (by decide) (C.2.2.2.2.1 _ (WS_of 946 (by decide +kernel))) (hK3.1.2.2.2.1 _ (List.mem_of_getElem? (i := 2) rfl)), fun q => ?_⟩
      refine j_astore3 C rfl dL_homeIn_15 ?_
      refine j_iconst C dL_homeIn_16 ?_
      refine j_widen (ce' := k) (sl' := 6 * k) (by omega) (by omega) ?_
      exact j_iret C hrt dL_homeIn_17 ⟨by decide, by decide⟩ (Or.inr (Or.inr (⟨rfl, hE⟩)))
  intro v ω1 hv hPo
  refine j_i2l C hv dL_homeIn_7 ?_
  refine j_last C hv dL_homeIn_8 ?_
  refine j_goto C dL_homeIn_9 ?_
  refine j_iconst C dL_homeIn_18 ?_
  refine j_widen (ce' := k) (sl' := 6 * k) (by omega) (by omega) ?_
  exact j_iret C hrt dL_homeIn_19 ⟨by decide, by decide⟩ (Or.inl ⟨rfl, v, ω1, hv, hPo, rfl⟩)
theorem o_w_homeIn : Ow yL_homeIn cL_homeIn 4 [(0, 9, 12, 48), (0, 9, 15, 59)] 3 := ⟨(WS_of 1015 (by decide +kernel)), (WS_of 85 (by decide +kernel)), (WS_of 1016 (by decide +kernel)), ⟨by decide +kernel, by decide +kernel, by decide +kernel⟩⟩
set_option maxRecDepth 100000 in
set_option maxHeartbeats 4000000 in
theorem w_homeInAgain {Γ : Ga} {l : Launch} {ω : Wo} {d k : Nat} {a : Int} {Po : Int → Wo → Prop} {X : String → Wo → Prop} (hd : d ≤ 20) (hM : XI Γ l yX8_homeInAgain cX8_homeInAgain 4 .int d k [.ref (rl Γ 0), .int (iI a)] ω Po X) (hX : ∀ E ω', X E ω' → E = eIdx ∨ E = eNo) : CW Γ l yL_homeInAgain cL_homeInAgain 4 [(0, 9, 12, 48), (0, 9, 15, 59)] 21 k [.ref (rl Γ 0), .int (iI a), .ref (rl Γ 252)] ω (fun z ω' => (z = 0 ∧ ∃ v ω1, Rg v ∧ Po v ω1 ∧ ω' = wi ω1 252 0 v) ∨ (z = 1 ∧ X eIdx ω') ∨ (z = 2 ∧ X eNo ω')) := by
  refine MetH.ofJ (k := 1) [some (.ref (rl Γ 0)), some (.int (iI a)), some (.ref (rl Γ 252)), none] (by decide) rfl rfl rfl (fun p e s mm args below meth c C hK3 ht hrt => ?_)
  refine j_aload2 C dL_homeInAgain_0 ?_
  refine j_iconst C dL_homeInAgain_1 ?_
  refine j_aload0 C dL_homeInAgain_2 ?_
  refine j_iload1 C dL_homeInAgain_3 ?_
  refine j_tI1 C hK3.1 hM oX8_homeInAgain (show Lk yL_homeInAgain.cls 76 yX8_homeInAgain from (WS_of 1029 (by decide +kernel))) ⟨_, rfl, rfl⟩ at_0 ⟨by omega, by decide⟩ rfl (Nat.le_of_ble_eq_true rfl) ⟨by omega, by omega⟩ dL_homeInAgain_4 (fun E ω1 hE => ?_) ?_
  · have hE9 := hX E ω1 hE
    rcases hE9 with rfl | rfl
    · refine ⟨12, Hd.fst (q := (0, 9, 15, 59)) ht (by decide) (by decide) (C.2.2.2.2.1 _ (WS_of 875 (by decide +kernel))) (hK3.1.2.2.2.1 _ (List.mem_of_getElem? (i := 1) rfl)), fun q => ?_⟩
      refine j_astore3 C rfl dL_homeInAgain_12 ?_
      refine j_iconst C dL_homeInAgain_13 ?_
      refine j_widen (ce' := k) (sl' := 6 * k) (by omega) (by omega) ?_
      exact j_iret C hrt dL_homeInAgain_14 ⟨by decide, by decide⟩ (Or.inr (Or.inl ⟨rfl, hE⟩))
    · refine ⟨15, Hd.snd ht (by decide) (C.2.2.2.2.1 _ (WS_of 875 (by decide +kernel))) hK3.2.2.1 (by decide) (by decide) (C.2.2.2.2.1 _ (WS_of 946 (by decide +kernel))) (hK3.1.2.2.2.1 _ (List.mem_of_getElem? (i := 2) rfl)), fun q => ?_⟩
      refine j_astore3 C rfl dL_homeInAgain_15 ?_
      refine j_iconst C dL_homeInAgain_16 ?_
      refine j_widen (ce' := k) (sl' := 6 * k) (by omega) (by omega) ?_
      exact j_iret C hrt dL_homeInAgain_17 ⟨by decide, by decide⟩ (Or.inr (Or.inr (⟨rfl, hE⟩)))
  intro v ω1 hv hPo
  refine j_i2l C hv dL_homeInAgain_7 ?_
  refine j_last C hv dL_homeInAgain_8 ?_
  refine j_goto C dL_homeInAgain_9 ?_
  refine j_iconst C dL_homeInAgain_18 ?_
  refine j_widen (ce' := k) (sl' := 6 * k) (by omega) (by omega) ?_
  exact j_iret C hrt dL_homeInAgain_19 ⟨by decide, by decide⟩ (Or.inl ⟨rfl, v, ω1, hv, hPo, rfl⟩)
theorem o_w_homeInAgain : Ow yL_homeInAgain cL_homeInAgain 4 [(0, 9, 12, 48), (0, 9, 15, 59)] 3 := ⟨(WS_of 1027 (by decide +kernel)), (WS_of 85 (by decide +kernel)), (WS_of 1028 (by decide +kernel)), ⟨by decide +kernel, by decide +kernel, by decide +kernel⟩⟩
set_option maxRecDepth 100000 in
set_option maxHeartbeats 4000000 in
theorem w_loanOf {Γ : Ga} {l : Launch} {ω : Wo} {d k : Nat} {a : Int} {b : Int} {Po : Int → Wo → Prop} {X : String → Wo → Prop} (hd : d ≤ 20) (hM : XI Γ l yX8_loanOf cX8_loanOf 4 .int d k [.ref (rl Γ 0), .int (iI a), .int (iI b)] ω Po X) (hX : ∀ E ω', X E ω' → E = eIdx ∨ E = eArg) : CW Γ l yL_loanOf cL_loanOf 5 [(0, 10, 13, 48), (0, 10, 17, 43)] 21 k [.ref (rl Γ 0), .int (iI a), .int (iI b), .ref (rl Γ 252)] ω (fun z ω' => (z = 0 ∧ ∃ v ω1, Rg v ∧ Po v ω1 ∧ ω' = wi ω1 252 0 v) ∨ (z = 1 ∧ X eIdx ω') ∨ (z = 2 ∧ X eArg ω')) := by
  refine MetH.ofJ (k := 1) [some (.ref (rl Γ 0)), some (.int (iI a)), some (.int (iI b)), some (.ref (rl Γ 252)), none] (by decide) rfl rfl rfl (fun p e s mm args below meth c C hK3 ht hrt => ?_)
  refine j_aload3 C dL_loanOf_0 ?_
  refine j_iconst C dL_loanOf_1 ?_
  refine j_aload0 C dL_loanOf_2 ?_
  refine j_iload1 C dL_loanOf_3 ?_
  refine j_iload2 C dL_loanOf_4 ?_
  refine j_tI2 C hK3.1 hM oX8_loanOf (show Lk yL_loanOf.cls 79 yX8_loanOf from (WS_of 1039 (by decide +kernel))) ⟨_, rfl, rfl⟩ at_0 ⟨by omega, by decide⟩ rfl (Nat.le_of_ble_eq_true rfl) ⟨by omega, by omega⟩ dL_loanOf_5 (fun E ω1 hE => ?_) ?_
  · have hE9 := hX E ω1 hE
    rcases hE9 with rfl | rfl
    · refine ⟨13, Hd.fst (q := (0, 10, 17, 43)) ht (by decide) (by decide) (C.2.2.2.2.1 _ (WS_of 875 (by decide +kernel))) (hK3.1.2.2.2.1 _ (List.mem_of_getElem? (i := 1) rfl)), fun q => ?_⟩
      refine j_astore4 C rfl dL_loanOf_13 ?_
      refine j_iconst C dL_loanOf_15 ?_
      refine j_widen (ce' := k) (sl' := 6 * k) (by omega) (by omega) ?_
      exact j_iret C hrt dL_loanOf_16 ⟨by decide, by decide⟩ (Or.inr (Or.inl ⟨rfl, hE⟩))
    · refine ⟨17, Hd.snd ht (by decide) (C.2.2.2.2.1 _ (WS_of 875 (by decide +kernel))) hK3.2.1 (by decide) (by decide) (C.2.2.2.2.1 _ (WS_of 850 (by decide +kernel))) (hK3.1.2.2.2.1 _ (List.mem_of_getElem? (i := 0) rfl)), fun q => ?_⟩
      refine j_astore4 C rfl dL_loanOf_17 ?_
      refine j_iconst C dL_loanOf_19 ?_
      refine j_widen (ce' := k) (sl' := 6 * k) (by omega) (by omega) ?_
      exact j_iret C hrt dL_loanOf_20 ⟨by decide, by decide⟩ (Or.inr (Or.inr (⟨rfl, hE⟩)))
  intro v ω1 hv hPo
  refine j_i2l C hv dL_loanOf_8 ?_
  refine j_last C hv dL_loanOf_9 ?_
  refine j_goto C dL_loanOf_10 ?_
  refine j_iconst C dL_loanOf_21 ?_
  refine j_widen (ce' := k) (sl' := 6 * k) (by omega) (by omega) ?_
  exact j_iret C hrt dL_loanOf_22 ⟨by decide, by decide⟩ (Or.inl ⟨rfl, v, ω1, hv, hPo, rfl⟩)
theorem o_w_loanOf : Ow yL_loanOf cL_loanOf 5 [(0, 10, 13, 48), (0, 10, 17, 43)] 4 := ⟨(WS_of 1037 (by decide +kernel)), (WS_of 85 (by decide +kernel)), (WS_of 1038 (by decide +kernel)), ⟨by decide +kernel, by decide +kernel, by decide +kernel⟩⟩
set_option maxRecDepth 100000 in
set_option maxHeartbeats 4000000 in
theorem w_least {Γ : Ga} {l : Launch} {ω : Wo} {d k : Nat} {a : Int} {Po : Int → Wo → Prop} {X : String → Wo → Prop} (hd : d ≤ 20) (hM : XI Γ l yX8_least cX8_least 3 .int d k [.ref (rl Γ 0), .int (iI a)] ω Po X) (hX : ∀ E ω', X E ω' → E = eNo) : CW Γ l yL_least cL_least 4 [(0, 9, 12, 59)] 21 k [.ref (rl Γ 0), .int (iI a), .ref (rl Γ 252)] ω (fun z ω' => (z = 0 ∧ ∃ v ω1, Rg v ∧ Po v ω1 ∧ ω' = wi ω1 252 0 v) ∨ (z = 1 ∧ X eNo ω')) := by
  refine MetH.ofJ (k := 1) [some (.ref (rl Γ 0)), some (.int (iI a)), some (.ref (rl Γ 252)), none] (by decide) rfl rfl rfl (fun p e s mm args below meth c C hK3 ht hrt => ?_)
  refine j_aload2 C dL_least_0 ?_
  refine j_iconst C dL_least_1 ?_
  refine j_aload0 C dL_least_2 ?_
  refine j_iload1 C dL_least_3 ?_
  refine j_tI1 C hK3.1 hM oX8_least (show Lk yL_least.cls 82 yX8_least from (WS_of 1049 (by decide +kernel))) ⟨_, rfl, rfl⟩ at_0 ⟨by omega, by decide⟩ rfl (Nat.le_of_ble_eq_true rfl) ⟨by omega, by omega⟩ dL_least_4 (fun E ω1 hE => ?_) ?_
  · have hE9 := hX E ω1 hE
    subst hE9
    refine ⟨12, Hd.one (hh := []) ht (by decide) (by decide) (C.2.2.2.2.1 _ (WS_of 946 (by decide +kernel))) (hK3.1.2.2.2.1 _ (List.mem_of_getElem? (i := 2) rfl)), fun q => ?_⟩
    refine j_astore3 C rfl dL_least_12 ?_
    refine j_iconst C dL_least_13 ?_
    refine j_widen (ce' := k) (sl' := 6 * k) (by omega) (by omega) ?_
    exact j_iret C hrt dL_least_14 ⟨by decide, by decide⟩ (Or.inr (⟨rfl, hE⟩))
  intro v ω1 hv hPo
  refine j_i2l C hv dL_least_7 ?_
  refine j_last C hv dL_least_8 ?_
  refine j_goto C dL_least_9 ?_
  refine j_iconst C dL_least_15 ?_
  refine j_widen (ce' := k) (sl' := 6 * k) (by omega) (by omega) ?_
  exact j_iret C hrt dL_least_16 ⟨by decide, by decide⟩ (Or.inl ⟨rfl, v, ω1, hv, hPo, rfl⟩)
theorem o_w_least : Ow yL_least cL_least 4 [(0, 9, 12, 59)] 3 := ⟨(WS_of 1047 (by decide +kernel)), (WS_of 85 (by decide +kernel)), (WS_of 1048 (by decide +kernel)), ⟨by decide +kernel, by decide +kernel, by decide +kernel⟩⟩
set_option maxRecDepth 100000 in
set_option maxHeartbeats 4000000 in
theorem w_busiest {Γ : Ga} {l : Launch} {ω : Wo} {d k : Nat} {a : Int} {Po : Int → Wo → Prop} {X : String → Wo → Prop} (hd : d ≤ 20) (hM : XI Γ l yX8_busiest cX8_busiest 3 .int d k [.ref (rl Γ 0), .int (iI a)] ω Po X) (hX : ∀ E ω', X E ω' → E = eNo) : CW Γ l yL_busiest cL_busiest 4 [(0, 9, 12, 59)] 21 k [.ref (rl Γ 0), .int (iI a), .ref (rl Γ 252)] ω (fun z ω' => (z = 0 ∧ ∃ v ω1, Rg v ∧ Po v ω1 ∧ ω' = wi ω1 252 0 v) ∨ (z = 1 ∧ X eNo ω')) := by
  refine MetH.ofJ (k := 1) [some (.ref (rl Γ 0)), some (.int (iI a)), some (.ref (rl Γ 252)), none] (by decide) rfl rfl rfl (fun p e s mm args below meth c C hK3 ht hrt => ?_)
  refine j_aload2 C dL_busiest_0 ?_
  refine j_iconst C dL_busiest_1 ?_
  refine j_aload0 C dL_busiest_2 ?_
  refine j_iload1 C dL_busiest_3 ?_
  refine j_tI1 C hK3.1 hM oX8_busiest (show Lk yL_busiest.cls 85 yX8_busiest from (WS_of 1074 (by decide +kernel))) ⟨_, rfl, rfl⟩ at_0 ⟨by omega, by decide⟩ rfl (Nat.le_of_ble_eq_true rfl) ⟨by omega, by omega⟩ dL_busiest_4 (fun E ω1 hE => ?_) ?_
  · have hE9 := hX E ω1 hE
    subst hE9
    refine ⟨12, Hd.one (hh := []) ht (by decide) (by decide) (C.2.2.2.2.1 _ (WS_of 946 (by decide +kernel))) (hK3.1.2.2.2.1 _ (List.mem_of_getElem? (i := 2) rfl)), fun q => ?_⟩
    refine j_astore3 C rfl dL_busiest_12 ?_
    refine j_iconst C dL_busiest_13 ?_
    refine j_widen (ce' := k) (sl' := 6 * k) (by omega) (by omega) ?_
    exact j_iret C hrt dL_busiest_14 ⟨by decide, by decide⟩ (Or.inr (⟨rfl, hE⟩))
  intro v ω1 hv hPo
  refine j_i2l C hv dL_busiest_7 ?_
  refine j_last C hv dL_busiest_8 ?_
  refine j_goto C dL_busiest_9 ?_
  refine j_iconst C dL_busiest_15 ?_
  refine j_widen (ce' := k) (sl' := 6 * k) (by omega) (by omega) ?_
  exact j_iret C hrt dL_busiest_16 ⟨by decide, by decide⟩ (Or.inl ⟨rfl, v, ω1, hv, hPo, rfl⟩)
theorem o_w_busiest : Ow yL_busiest cL_busiest 4 [(0, 9, 12, 59)] 3 := ⟨(WS_of 1072 (by decide +kernel)), (WS_of 85 (by decide +kernel)), (WS_of 1073 (by decide +kernel)), ⟨by decide +kernel, by decide +kernel, by decide +kernel⟩⟩
set_option maxRecDepth 100000 in
set_option maxHeartbeats 4000000 in
theorem w_append {Γ : Ga} {l : Launch} {ω : Wo} {d k : Nat} {a : Int} {Po : Int → Wo → Prop} {X : String → Wo → Prop} (hd : d ≤ 20) (hM : XI Γ l yX8_append cX8_append 2 .int d k [.ref (rl Γ 0), .int (iI a)] ω Po X) (hX : ∀ E ω', X E ω' → E = eSt) : CW Γ l yL_append cL_append 4 [(0, 9, 12, 92)] 21 k [.ref (rl Γ 0), .int (iI a), .ref (rl Γ 252)] ω (fun z ω' => (z = 0 ∧ ∃ v ω1, Rg v ∧ Po v ω1 ∧ ω' = wi ω1 252 0 v) ∨ (z = 1 ∧ X eSt ω')) := by
  refine MetH.ofJ (k := 1) [some (.ref (rl Γ 0)), some (.int (iI a)), some (.ref (rl Γ 252)), none] (by decide) rfl rfl rfl (fun p e s mm args below meth c C hK3 ht hrt => ?_)
  refine j_aload2 C dL_append_0 ?_
  refine j_iconst C dL_append_1 ?_
  refine j_aload0 C dL_append_2 ?_
  refine j_iload1 C dL_append_3 ?_
  refine j_tI1 C hK3.1 hM oX8_append (show Lk yL_append.cls 88 yX8_append from (WS_of 1083 (by decide +kernel))) ⟨_, rfl, rfl⟩ at_0 ⟨by omega, by decide⟩ rfl (Nat.le_of_ble_eq_true rfl) ⟨by omega, by omega⟩ dL_append_4 (fun E ω1 hE => ?_) ?_
  · have hE9 := hX E ω1 hE
    subst hE9
    refine ⟨12, Hd.one (hh := []) ht (by decide) (by decide) (C.2.2.2.2.1 _ (WS_of 1082 (by decide +kernel))) (hK3.1.2.2.2.1 _ (List.mem_of_getElem? (i := 3) rfl)), fun q => ?_⟩
    refine j_astore3 C rfl dL_append_12 ?_
    refine j_iconst C dL_append_13 ?_
    refine j_widen (ce' := k) (sl' := 6 * k) (by omega) (by omega) ?_
    exact j_iret C hrt dL_append_14 ⟨by decide, by decide⟩ (Or.inr (⟨rfl, hE⟩))
  intro v ω1 hv hPo
  refine j_i2l C hv dL_append_7 ?_
  refine j_last C hv dL_append_8 ?_
  refine j_goto C dL_append_9 ?_
  refine j_iconst C dL_append_15 ?_
  refine j_widen (ce' := k) (sl' := 6 * k) (by omega) (by omega) ?_
  exact j_iret C hrt dL_append_16 ⟨by decide, by decide⟩ (Or.inl ⟨rfl, v, ω1, hv, hPo, rfl⟩)
theorem o_w_append : Ow yL_append cL_append 4 [(0, 9, 12, 92)] 3 := ⟨(WS_of 1080 (by decide +kernel)), (WS_of 85 (by decide +kernel)), (WS_of 1081 (by decide +kernel)), ⟨by decide +kernel, by decide +kernel, by decide +kernel⟩⟩
set_option maxRecDepth 100000 in
set_option maxHeartbeats 4000000 in
theorem w_commands {Γ : Ga} {l : Launch} {ω : Wo} {d k : Nat} {Po : Int → Wo → Prop} {X : String → Wo → Prop} (hd : d ≤ 20) (hM : XI Γ l yX8_commands cX8_commands 2 .int d k [.ref (rl Γ 0)] ω Po X) (hX : ∀ E ω', X E ω' → E = eArg ∨ E = eUn) : CW Γ l yL_commands cL_commands 3 [(0, 8, 11, 43), (0, 8, 14, 13)] 21 k [.ref (rl Γ 0), .ref (rl Γ 252)] ω (fun z ω' => (z = 0 ∧ ∃ v ω1, Rg v ∧ Po v ω1 ∧ ω' = wi ω1 252 0 v) ∨ (z = 1 ∧ X eArg ω') ∨ (z = 2 ∧ X eUn ω')) := by
  refine MetH.ofJ (k := 1) [some (.ref (rl Γ 0)), some (.ref (rl Γ 252)), none] (by decide) rfl rfl rfl (fun p e s mm args below meth c C hK3 ht hrt => ?_)
  refine j_aload1 C dL_commands_0 ?_
  refine j_iconst C dL_commands_1 ?_
  refine j_aload0 C dL_commands_2 ?_
  refine j_tI0 C hK3.1 hM oX8_commands (show Lk yL_commands.cls 94 yX8_commands from (WS_of 1110 (by decide +kernel))) ⟨_, rfl, rfl⟩ at_0 ⟨by omega, by decide⟩ rfl (Nat.le_of_ble_eq_true rfl) ⟨by omega, by omega⟩ dL_commands_3 (fun E ω1 hE => ?_) ?_
  · have hE9 := hX E ω1 hE
    rcases hE9 with rfl | rfl
    · refine ⟨11, Hd.fst (q := (0, 8, 14, 13)) ht (by decide) (by decide) (C.2.2.2.2.1 _ (WS_of 850 (by decide +kernel))) (hK3.1.2.2.2.1 _ (List.mem_of_getElem? (i := 0) rfl)), fun q => ?_⟩
      refine j_astore2 C rfl dL_commands_11 ?_
      refine j_iconst C dL_commands_12 ?_
      refine j_widen (ce' := k) (sl' := 6 * k) (by omega) (by omega) ?_
      exact j_iret C hrt dL_commands_13 ⟨by decide, by decide⟩ (Or.inr (Or.inl ⟨rfl, hE⟩))
    · refine ⟨14, Hd.snd ht (by decide) (C.2.2.2.2.1 _ (WS_of 850 (by decide +kernel))) hK3.2.2.2 (by decide) (by decide) (C.2.2.2.2.1 _ (WS_of 470 (by decide +kernel))) (hK3.1.2.2.2.1 _ (List.mem_of_getElem? (i := 4) rfl)), fun q => ?_⟩
      refine j_astore2 C rfl dL_commands_14 ?_
      refine j_iconst C dL_commands_15 ?_
      refine j_widen (ce' := k) (sl' := 6 * k) (by omega) (by omega) ?_
      exact j_iret C hrt dL_commands_16 ⟨by decide, by decide⟩ (Or.inr (Or.inr (⟨rfl, hE⟩)))
  intro v ω1 hv hPo
  refine j_i2l C hv dL_commands_6 ?_
  refine j_last C hv dL_commands_7 ?_
  refine j_goto C dL_commands_8 ?_
  refine j_iconst C dL_commands_17 ?_
  refine j_widen (ce' := k) (sl' := 6 * k) (by omega) (by omega) ?_
  exact j_iret C hrt dL_commands_18 ⟨by decide, by decide⟩ (Or.inl ⟨rfl, v, ω1, hv, hPo, rfl⟩)
theorem o_w_commands : Ow yL_commands cL_commands 3 [(0, 8, 11, 43), (0, 8, 14, 13)] 2 := ⟨(WS_of 1108 (by decide +kernel)), (WS_of 85 (by decide +kernel)), (WS_of 1109 (by decide +kernel)), ⟨by decide +kernel, by decide +kernel, by decide +kernel⟩⟩
set_option maxRecDepth 100000 in
set_option maxHeartbeats 4000000 in
theorem w_reason {Γ : Ga} {l : Launch} {ω : Wo} {d k : Nat} {a : Int} {b : Int} {Po : Int → Wo → Prop} {X : String → Wo → Prop} (hd : d ≤ 20) (hM : XI Γ l yX8_reason cX8_reason 4 .int d k [.ref (rl Γ 0), .int (iI a), .int (iI b)] ω Po X) (hX : ∀ E ω', X E ω' → E = eNo) : CW Γ l yL_reason cL_reason 5 [(0, 10, 13, 59)] 21 k [.ref (rl Γ 0), .int (iI a), .int (iI b), .ref (rl Γ 252)] ω (fun z ω' => (z = 0 ∧ ∃ v ω1, Rg v ∧ Po v ω1 ∧ ω' = wi ω1 252 0 v) ∨ (z = 1 ∧ X eNo ω')) := by
  refine MetH.ofJ (k := 1) [some (.ref (rl Γ 0)), some (.int (iI a)), some (.int (iI b)), some (.ref (rl Γ 252)), none] (by decide) rfl rfl rfl (fun p e s mm args below meth c C hK3 ht hrt => ?_)
  refine j_aload3 C dL_reason_0 ?_
  refine j_iconst C dL_reason_1 ?_
  refine j_aload0 C dL_reason_2 ?_
  refine j_iload1 C dL_reason_3 ?_
  refine j_iload2 C dL_reason_4 ?_
  refine j_tI2 C hK3.1 hM oX8_reason (show Lk yL_reason.cls 98 yX8_reason from (WS_of 1147 (by decide +kernel))) ⟨_, rfl, rfl⟩ at_0 ⟨by omega, by decide⟩ rfl (Nat.le_of_ble_eq_true rfl) ⟨by omega, by omega⟩ dL_reason_5 (fun E ω1 hE => ?_) ?_
  · have hE9 := hX E ω1 hE
    subst hE9
    refine ⟨13, Hd.one (hh := []) ht (by decide) (by decide) (C.2.2.2.2.1 _ (WS_of 946 (by decide +kernel))) (hK3.1.2.2.2.1 _ (List.mem_of_getElem? (i := 2) rfl)), fun q => ?_⟩
    refine j_astore4 C rfl dL_reason_13 ?_
    refine j_iconst C dL_reason_15 ?_
    refine j_widen (ce' := k) (sl' := 6 * k) (by omega) (by omega) ?_
    exact j_iret C hrt dL_reason_16 ⟨by decide, by decide⟩ (Or.inr (⟨rfl, hE⟩))
  intro v ω1 hv hPo
  refine j_i2l C hv dL_reason_8 ?_
  refine j_last C hv dL_reason_9 ?_
  refine j_goto C dL_reason_10 ?_
  refine j_iconst C dL_reason_17 ?_
  refine j_widen (ce' := k) (sl' := 6 * k) (by omega) (by omega) ?_
  exact j_iret C hrt dL_reason_18 ⟨by decide, by decide⟩ (Or.inl ⟨rfl, v, ω1, hv, hPo, rfl⟩)
theorem o_w_reason : Ow yL_reason cL_reason 5 [(0, 10, 13, 59)] 4 := ⟨(WS_of 1145 (by decide +kernel)), (WS_of 85 (by decide +kernel)), (WS_of 1146 (by decide +kernel)), ⟨by decide +kernel, by decide +kernel, by decide +kernel⟩⟩
set_option maxRecDepth 100000 in
set_option maxHeartbeats 4000000 in
theorem w_line {Γ : Ga} {l : Launch} {ω : Wo} {d k : Nat} {a : Int} {Po : Int → Wo → Prop} {X : String → Wo → Prop} (hd : d ≤ 20) (hM : XI Γ l yX8_line cX8_line 3 .int d k [.ref (rl Γ 0), .int (iI a)] ω Po X) (hX : ∀ E ω', X E ω' → E = eIdx) : CW Γ l yL_line cL_line 4 [(0, 9, 12, 48)] 21 k [.ref (rl Γ 0), .int (iI a), .ref (rl Γ 252)] ω (fun z ω' => (z = 0 ∧ ∃ v ω1, Rg v ∧ Po v ω1 ∧ ω' = wi ω1 252 0 v) ∨ (z = 1 ∧ X eIdx ω')) := by
  refine MetH.ofJ (k := 1) [some (.ref (rl Γ 0)), some (.int (iI a)), some (.ref (rl Γ 252)), none] (by decide) rfl rfl rfl (fun p e s mm args below meth c C hK3 ht hrt => ?_)
  refine j_aload2 C dL_line_0 ?_
  refine j_iconst C dL_line_1 ?_
  refine j_aload0 C dL_line_2 ?_
  refine j_iload1 C dL_line_3 ?_
  refine j_tI1 C hK3.1 hM oX8_line (show Lk yL_line.cls 102 yX8_line from (WS_of 1155 (by decide +kernel))) ⟨_, rfl, rfl⟩ at_0 ⟨by omega, by decide⟩ rfl (Nat.le_of_ble_eq_true rfl) ⟨by omega, by omega⟩ dL_line_4 (fun E ω1 hE => ?_) ?_
  · have hE9 := hX E ω1 hE
    subst hE9
    refine ⟨12, Hd.one (hh := []) ht (by decide) (by decide) (C.2.2.2.2.1 _ (WS_of 875 (by decide +kernel))) (hK3.1.2.2.2.1 _ (List.mem_of_getElem? (i := 1) rfl)), fun q => ?_⟩
    refine j_astore3 C rfl dL_line_12 ?_
    refine j_iconst C dL_line_13 ?_
    refine j_widen (ce' := k) (sl' := 6 * k) (by omega) (by omega) ?_
    exact j_iret C hrt dL_line_14 ⟨by decide, by decide⟩ (Or.inr (⟨rfl, hE⟩))
  intro v ω1 hv hPo
  refine j_i2l C hv dL_line_7 ?_
  refine j_last C hv dL_line_8 ?_
  refine j_goto C dL_line_9 ?_
  refine j_iconst C dL_line_15 ?_
  refine j_widen (ce' := k) (sl' := 6 * k) (by omega) (by omega) ?_
  exact j_iret C hrt dL_line_16 ⟨by decide, by decide⟩ (Or.inl ⟨rfl, v, ω1, hv, hPo, rfl⟩)
theorem o_w_line : Ow yL_line cL_line 4 [(0, 9, 12, 48)] 3 := ⟨(WS_of 1153 (by decide +kernel)), (WS_of 85 (by decide +kernel)), (WS_of 1154 (by decide +kernel)), ⟨by decide +kernel, by decide +kernel, by decide +kernel⟩⟩
set_option maxRecDepth 100000 in
set_option maxHeartbeats 4000000 in
theorem w_character {Γ : Ga} {l : Launch} {ω : Wo} {d k : Nat} {a : Int} {Po : Int → Wo → Prop} {X : String → Wo → Prop} (hd : d ≤ 20) (hM : XI Γ l yX8_character cX8_character 2 .char d k [.ref (rl Γ 0), .int (iI a)] ω Po X) (hX : ∀ E ω', X E ω' → E = eIdx) : CW Γ l yL_character cL_character 4 [(0, 9, 12, 48)] 21 k [.ref (rl Γ 0), .int (iI a), .ref (rl Γ 252)] ω (fun z ω' => (z = 0 ∧ ∃ v ω1, Rg v ∧ Po v ω1 ∧ ω' = wi ω1 252 0 v) ∨ (z = 1 ∧ X eIdx ω')) := by
  refine MetH.ofJ (k := 1) [some (.ref (rl Γ 0)), some (.int (iI a)), some (.ref (rl Γ 252)), none] (by decide) rfl rfl rfl (fun p e s mm args below meth c C hK3 ht hrt => ?_)
  refine j_aload2 C dL_character_0 ?_
  refine j_iconst C dL_character_1 ?_
  refine j_aload0 C dL_character_2 ?_
  refine j_iload1 C dL_character_3 ?_
  refine j_tI1 C hK3.1 hM oX8_character (show Lk yL_character.cls 105 yX8_character from (WS_of 1444 (by decide +kernel))) ⟨_, rfl, rfl⟩ at_0 ⟨by omega, by decide⟩ rfl (Nat.le_of_ble_eq_true rfl) ⟨by omega, by omega⟩ dL_character_4 (fun E ω1 hE => ?_) ?_
  · have hE9 := hX E ω1 hE
    subst hE9
    refine ⟨12, Hd.one (hh := []) ht (by decide) (by decide) (C.2.2.2.2.1 _ (WS_of 875 (by decide +kernel))) (hK3.1.2.2.2.1 _ (List.mem_of_getElem? (i := 1) rfl)), fun q => ?_⟩
    refine j_astore3 C rfl dL_character_12 ?_
    refine j_iconst C dL_character_13 ?_
    refine j_widen (ce' := k) (sl' := 6 * k) (by omega) (by omega) ?_
    exact j_iret C hrt dL_character_14 ⟨by decide, by decide⟩ (Or.inr (⟨rfl, hE⟩))
  intro v ω1 hv hPo
  refine j_i2l C hv dL_character_7 ?_
  refine j_last C hv dL_character_8 ?_
  refine j_goto C dL_character_9 ?_
  refine j_iconst C dL_character_15 ?_
  refine j_widen (ce' := k) (sl' := 6 * k) (by omega) (by omega) ?_
  exact j_iret C hrt dL_character_16 ⟨by decide, by decide⟩ (Or.inl ⟨rfl, v, ω1, hv, hPo, rfl⟩)
theorem o_w_character : Ow yL_character cL_character 4 [(0, 9, 12, 48)] 3 := ⟨(WS_of 1442 (by decide +kernel)), (WS_of 85 (by decide +kernel)), (WS_of 1443 (by decide +kernel)), ⟨by decide +kernel, by decide +kernel, by decide +kernel⟩⟩
set_option maxRecDepth 100000 in
set_option maxHeartbeats 4000000 in
theorem w_meanWeariness {Γ : Ga} {l : Launch} {ω : Wo} {d k : Nat} {Po : UInt64 → Wo → Prop} {X : String → Wo → Prop} (hd : d ≤ 20) (hM : XD Γ l yX8_meanWeariness cX8_meanWeariness 2 .double d k [.ref (rl Γ 0)] ω Po X) (hX : ∀ E ω', X E ω' → E = eAr) : CW Γ l yL_meanWeariness cL_meanWeariness 3 [(0, 7, 10, 113)] 21 k [.ref (rl Γ 0), .ref (rl Γ 253)] ω (fun z ω' => (z = 0 ∧ ∃ v ω1, Po v ω1 ∧ ω' = wd ω1 v) ∨ (z = 1 ∧ X eAr ω')) := by
  refine MetH.ofJ (k := 1) [some (.ref (rl Γ 0)), some (.ref (rl Γ 253)), none] (by decide) rfl rfl rfl (fun p e s mm args below meth c C hK3 ht hrt => ?_)
  refine j_aload1 C dL_meanWeariness_0 ?_
  refine j_iconst C dL_meanWeariness_1 ?_
  refine j_aload0 C dL_meanWeariness_2 ?_
  refine j_tD0 C hK3.1 hM oX8_meanWeariness (show Lk yL_meanWeariness.cls 109 yX8_meanWeariness from (WS_of 1476 (by decide +kernel))) ⟨_, rfl, rfl⟩ at_0 ⟨by omega, by decide⟩ rfl (Nat.le_of_ble_eq_true rfl) ⟨by omega, by omega⟩ dL_meanWeariness_3 (fun E ω1 hE => ?_) ?_
  · have hE9 := hX E ω1 hE
    subst hE9
    refine ⟨10, Hd.one (hh := []) ht (by decide) (by decide) (C.2.2.2.2.1 _ (WS_of 1462 (by decide +kernel))) (hK3.1.2.2.2.1 _ (List.mem_of_getElem? (i := 5) rfl)), fun q => ?_⟩
    refine j_astore2 C rfl dL_meanWeariness_10 ?_
    refine j_iconst C dL_meanWeariness_11 ?_
    refine j_widen (ce' := k) (sl' := 6 * k) (by omega) (by omega) ?_
    exact j_iret C hrt dL_meanWeariness_12 ⟨by decide, by decide⟩ (Or.inr (⟨rfl, hE⟩))
  intro v ω1 hPo
  refine j_dast C dL_meanWeariness_6 ?_
  refine j_goto C dL_meanWeariness_7 ?_
  refine j_iconst C dL_meanWeariness_13 ?_
  refine j_widen (ce' := k) (sl' := 6 * k) (by omega) (by omega) ?_
  exact j_iret C hrt dL_meanWeariness_14 ⟨by decide, by decide⟩ (Or.inl ⟨rfl, v, ω1, hPo, rfl⟩)
theorem o_w_meanWeariness : Ow yL_meanWeariness cL_meanWeariness 3 [(0, 7, 10, 113)] 2 := ⟨(WS_of 1460 (by decide +kernel)), (WS_of 85 (by decide +kernel)), (WS_of 1461 (by decide +kernel)), ⟨by decide +kernel, by decide +kernel, by decide +kernel⟩⟩
set_option maxRecDepth 100000 in
set_option maxHeartbeats 4000000 in
theorem w_account {Γ : Ga} {l : Launch} {ω : Wo} {d k : Nat} {a : Int} {Po : Int → Wo → Prop} {X : String → Wo → Prop} (hd : d ≤ 20) (hM : XI Γ l yX8_account cX8_account 2 .int d k [.ref (rl Γ 0), .int (iI a)] ω Po X) (hX : ∀ E ω', X E ω' → E = eArg) : CW Γ l yL_account cL_account 4 [(0, 9, 12, 43)] 21 k [.ref (rl Γ 0), .int (iI a), .ref (rl Γ 252)] ω (fun z ω' => (z = 0 ∧ ∃ v ω1, Rg v ∧ Po v ω1 ∧ ω' = wi ω1 252 0 v) ∨ (z = 1 ∧ X eArg ω')) := by
  refine MetH.ofJ (k := 1) [some (.ref (rl Γ 0)), some (.int (iI a)), some (.ref (rl Γ 252)), none] (by decide) rfl rfl rfl (fun p e s mm args below meth c C hK3 ht hrt => ?_)
  refine j_aload2 C dL_account_0 ?_
  refine j_iconst C dL_account_1 ?_
  refine j_aload0 C dL_account_2 ?_
  refine j_iload1 C dL_account_3 ?_
  refine j_tI1 C hK3.1 hM oX8_account (show Lk yL_account.cls 115 yX8_account from (WS_of 1487 (by decide +kernel))) ⟨_, rfl, rfl⟩ at_0 ⟨by omega, by decide⟩ rfl (Nat.le_of_ble_eq_true rfl) ⟨by omega, by omega⟩ dL_account_4 (fun E ω1 hE => ?_) ?_
  · have hE9 := hX E ω1 hE
    subst hE9
    refine ⟨12, Hd.one (hh := []) ht (by decide) (by decide) (C.2.2.2.2.1 _ (WS_of 850 (by decide +kernel))) (hK3.1.2.2.2.1 _ (List.mem_of_getElem? (i := 0) rfl)), fun q => ?_⟩
    refine j_astore3 C rfl dL_account_12 ?_
    refine j_iconst C dL_account_13 ?_
    refine j_widen (ce' := k) (sl' := 6 * k) (by omega) (by omega) ?_
    exact j_iret C hrt dL_account_14 ⟨by decide, by decide⟩ (Or.inr (⟨rfl, hE⟩))
  intro v ω1 hv hPo
  refine j_i2l C hv dL_account_7 ?_
  refine j_last C hv dL_account_8 ?_
  refine j_goto C dL_account_9 ?_
  refine j_iconst C dL_account_15 ?_
  refine j_widen (ce' := k) (sl' := 6 * k) (by omega) (by omega) ?_
  exact j_iret C hrt dL_account_16 ⟨by decide, by decide⟩ (Or.inl ⟨rfl, v, ω1, hv, hPo, rfl⟩)
theorem o_w_account : Ow yL_account cL_account 4 [(0, 9, 12, 43)] 3 := ⟨(WS_of 1485 (by decide +kernel)), (WS_of 85 (by decide +kernel)), (WS_of 1486 (by decide +kernel)), ⟨by decide +kernel, by decide +kernel, by decide +kernel⟩⟩
set_option maxRecDepth 100000 in
set_option maxHeartbeats 4000000 in
theorem w_undo {Γ : Ga} {l : Launch} {ω : Wo} {d k : Nat} {Po : Int → Wo → Prop} {X : String → Wo → Prop} (hd : d ≤ 20) (hM : XI Γ l yX8_undo cX8_undo 1 .int d k [.ref (rl Γ 0)] ω Po X) (hX : ∀ E ω', X E ω' → E = eSt) : CW Γ l yL_undo cL_undo 3 [(0, 8, 11, 92)] 21 k [.ref (rl Γ 0), .ref (rl Γ 252)] ω (fun z ω' => (z = 0 ∧ ∃ v ω1, Rg v ∧ Po v ω1 ∧ ω' = wi ω1 252 0 v) ∨ (z = 1 ∧ X eSt ω')) := by
  refine MetH.ofJ (k := 1) [some (.ref (rl Γ 0)), some (.ref (rl Γ 252)), none] (by decide) rfl rfl rfl (fun p e s mm args below meth c C hK3 ht hrt => ?_)
  refine j_aload1 C dL_undo_0 ?_
  refine j_iconst C dL_undo_1 ?_
  refine j_aload0 C dL_undo_2 ?_
  refine j_tI0 C hK3.1 hM oX8_undo (show Lk yL_undo.cls 118 yX8_undo from (WS_of 1499 (by decide +kernel))) ⟨_, rfl, rfl⟩ at_0 ⟨by omega, by decide⟩ rfl (Nat.le_of_ble_eq_true rfl) ⟨by omega, by omega⟩ dL_undo_3 (fun E ω1 hE => ?_) ?_
  · have hE9 := hX E ω1 hE
    subst hE9
    refine ⟨11, Hd.one (hh := []) ht (by decide) (by decide) (C.2.2.2.2.1 _ (WS_of 1082 (by decide +kernel))) (hK3.1.2.2.2.1 _ (List.mem_of_getElem? (i := 3) rfl)), fun q => ?_⟩
    refine j_astore2 C rfl dL_undo_11 ?_
    refine j_iconst C dL_undo_12 ?_
    refine j_widen (ce' := k) (sl' := 6 * k) (by omega) (by omega) ?_
    exact j_iret C hrt dL_undo_13 ⟨by decide, by decide⟩ (Or.inr (⟨rfl, hE⟩))
  intro v ω1 hv hPo
  refine j_i2l C hv dL_undo_6 ?_
  refine j_last C hv dL_undo_7 ?_
  refine j_goto C dL_undo_8 ?_
  refine j_iconst C dL_undo_14 ?_
  refine j_widen (ce' := k) (sl' := 6 * k) (by omega) (by omega) ?_
  exact j_iret C hrt dL_undo_15 ⟨by decide, by decide⟩ (Or.inl ⟨rfl, v, ω1, hv, hPo, rfl⟩)
theorem o_w_undo : Ow yL_undo cL_undo 3 [(0, 8, 11, 92)] 2 := ⟨(WS_of 1497 (by decide +kernel)), (WS_of 85 (by decide +kernel)), (WS_of 1498 (by decide +kernel)), ⟨by decide +kernel, by decide +kernel, by decide +kernel⟩⟩
set_option maxRecDepth 100000 in
set_option maxHeartbeats 4000000 in
theorem w_restore {Γ : Ga} {l : Launch} {ω : Wo} {d k : Nat} {Po : Int → Wo → Prop} {X : String → Wo → Prop} (hd : d ≤ 20) (hM : XI Γ l yX8_restore cX8_restore 1 .int d k [.ref (rl Γ 0)] ω Po X) (hX : ∀ E ω', X E ω' → E = eSt) : CW Γ l yL_restore cL_restore 3 [(0, 8, 11, 92)] 21 k [.ref (rl Γ 0), .ref (rl Γ 252)] ω (fun z ω' => (z = 0 ∧ ∃ v ω1, Rg v ∧ Po v ω1 ∧ ω' = wi ω1 252 0 v) ∨ (z = 1 ∧ X eSt ω')) := by
  refine MetH.ofJ (k := 1) [some (.ref (rl Γ 0)), some (.ref (rl Γ 252)), none] (by decide) rfl rfl rfl (fun p e s mm args below meth c C hK3 ht hrt => ?_)
  refine j_aload1 C dL_restore_0 ?_
  refine j_iconst C dL_restore_1 ?_
  refine j_aload0 C dL_restore_2 ?_
  refine j_tI0 C hK3.1 hM oX8_restore (show Lk yL_restore.cls 121 yX8_restore from (WS_of 1507 (by decide +kernel))) ⟨_, rfl, rfl⟩ at_0 ⟨by omega, by decide⟩ rfl (Nat.le_of_ble_eq_true rfl) ⟨by omega, by omega⟩ dL_restore_3 (fun E ω1 hE => ?_) ?_
  · have hE9 := hX E ω1 hE
    subst hE9
    refine ⟨11, Hd.one (hh := []) ht (by decide) (by decide) (C.2.2.2.2.1 _ (WS_of 1082 (by decide +kernel))) (hK3.1.2.2.2.1 _ (List.mem_of_getElem? (i := 3) rfl)), fun q => ?_⟩
    refine j_astore2 C rfl dL_restore_11 ?_
    refine j_iconst C dL_restore_12 ?_
    refine j_widen (ce' := k) (sl' := 6 * k) (by omega) (by omega) ?_
    exact j_iret C hrt dL_restore_13 ⟨by decide, by decide⟩ (Or.inr (⟨rfl, hE⟩))
  intro v ω1 hv hPo
  refine j_i2l C hv dL_restore_6 ?_
  refine j_last C hv dL_restore_7 ?_
  refine j_goto C dL_restore_8 ?_
  refine j_iconst C dL_restore_14 ?_
  refine j_widen (ce' := k) (sl' := 6 * k) (by omega) (by omega) ?_
  exact j_iret C hrt dL_restore_15 ⟨by decide, by decide⟩ (Or.inl ⟨rfl, v, ω1, hv, hPo, rfl⟩)
theorem o_w_restore : Ow yL_restore cL_restore 3 [(0, 8, 11, 92)] 2 := ⟨(WS_of 1505 (by decide +kernel)), (WS_of 85 (by decide +kernel)), (WS_of 1506 (by decide +kernel)), ⟨by decide +kernel, by decide +kernel, by decide +kernel⟩⟩
