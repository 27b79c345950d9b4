set_option maxRecDepth 100000 in
set_option maxHeartbeats 4000000 in
theorem c_X8_member {Γ : Ga} {l : Launch} {ω : Wo} (hsl : l.stackTraces = false) (hR : CR ω) {σ : Row} (hS : St ω 1 σ) {M : Int} (hI : RI M σ) (hWI : WI σ)  {a : Int} (ha : Rg a) (hM : M + 3200 ≤ 100000000) {n : Nat} {hh : Nat → Row} (hPA : PA M ω n hh) : XI Γ l yX8_member cX8_member 2 .int 8 1 [.ref (rl Γ 0), .int (iI a)] ω (fun z ω' => (jd 0 σ a 0).1 = 0 ∧ z = (ad 0 σ a 0).1 ∧ St ω' 1 (ad 0 σ a 0).2 ∧ PA M ω' (rmN n) (rmH n hh σ) ∧ CR ω' ∧ KQ ω ω') (fun E ω' => E = eUn ∧ (jd 0 σ a 0).1 ≠ 0 ∧ ω' = RF (RF (RF ω 67 (jd 0 σ a 0).1 (jd 0 σ a 0).2) 65 (jd 0 σ a 0).1 (jd 0 σ a 0).2) 66 0 0) := by
  refine MetX.ofJ (k := 0) [some (.ref (rl Γ 0)), some (.int (iI a))] (by decide) rfl rfl rfl (fun p e s mm args below meth c C hK2 hxt hrt => ?_)
  have hB := bs1
  have g := hI.s
  have gc := hI.c
  have gM := hI.2.1
  refine j_aload0 C dX8_member_0 ?_
  refine j_deed (i := 0) C (by decide) (WS_of 904 (by decide +kernel)) dX8_member_1 ?_
  refine j_iload1 C dX8_member_4 ?_
  refine j_iconst C dX8_member_5 ?_
  refine j_xVI3 C hK2 hxt (c_X8_change hsl (by exact hR) (by exact hS) (by exact hI) (by exact hWI) (by decide) ⟨by omega, by omega⟩ ⟨by omega, by omega⟩ hM hPA) oX8_change kX8_70 ⟨_, rfl, rfl⟩ at_0 ⟨by decide, by decide⟩ rfl (Nat.le_of_ble_eq_true rfl) ⟨by decide, by decide⟩ ⟨by decide, by decide⟩ dX8_member_6 (by intro E ω1 hE; exact hE) ?_
  intro z9 W9 hz9 hp9
  refine j_xr (by decide) ?_
  refine j_iret C hrt dX8_member_9 hz9 ?_
  exact hp9
set_option maxRecDepth 100000 in
set_option maxHeartbeats 4000000 in
theorem c_X8_leave {Γ : Ga} {l : Launch} {ω : Wo} (hsl : l.stackTraces = false) (hR : CR ω) {σ : Row} (hS : St ω 1 σ) {M : Int} (hI : RI M σ) (hWI : WI σ)  {a : Int} (ha : Rg a) (hM : M + 3200 ≤ 100000000) {n : Nat} {hh : Nat → Row} (hPA : PA M ω n hh) : XI Γ l yX8_leave cX8_leave 2 .int 8 1 [.ref (rl Γ 0), .int (iI a)] ω (fun z ω' => (jd 1 σ a 0).1 = 0 ∧ z = (ad 1 σ a 0).1 ∧ St ω' 1 (ad 1 σ a 0).2 ∧ PA M ω' (rmN n) (rmH n hh σ) ∧ CR ω' ∧ KQ ω ω') (fun E ω' => E = eUn ∧ (jd 1 σ a 0).1 ≠ 0 ∧ ω' = RF (RF (RF ω 67 (jd 1 σ a 0).1 (jd 1 σ a 0).2) 65 (jd 1 σ a 0).1 (jd 1 σ a 0).2) 66 0 0) := by
  refine MetX.ofJ (k := 0) [some (.ref (rl Γ 0)), some (.int (iI a))] (by decide) rfl rfl rfl (fun p e s mm args below meth c C hK2 hxt hrt => ?_)
  have hB := bs1
  have g := hI.s
  have gc := hI.c
  have gM := hI.2.1
  refine j_aload0 C dX8_leave_0 ?_
  refine j_deed (i := 1) C (by decide) (WS_of 935 (by decide +kernel)) dX8_leave_1 ?_
  refine j_iload1 C dX8_leave_4 ?_
  refine j_iconst C dX8_leave_5 ?_
  refine j_xVI3 C hK2 hxt (c_X8_change hsl (by exact hR) (by exact hS) (by exact hI) (by exact hWI) (by decide) ⟨by omega, by omega⟩ ⟨by omega, by omega⟩ hM hPA) oX8_change kX8_70 ⟨_, rfl, rfl⟩ at_0 ⟨by decide, by decide⟩ rfl (Nat.le_of_ble_eq_true rfl) ⟨by decide, by decide⟩ ⟨by decide, by decide⟩ dX8_leave_6 (by intro E ω1 hE; exact hE) ?_
  intro z9 W9 hz9 hp9
  refine j_xr (by decide) ?_
  refine j_iret C hrt dX8_leave_9 hz9 ?_
  exact hp9
set_option maxRecDepth 100000 in
set_option maxHeartbeats 4000000 in
theorem c_X8_train {Γ : Ga} {l : Launch} {ω : Wo} (hsl : l.stackTraces = false) (hR : CR ω) {σ : Row} (hS : St ω 1 σ) {M : Int} (hI : RI M σ) (hWI : WI σ)  {a : Int} (ha : Rg a) (hM : M + 3200 ≤ 100000000) {n : Nat} {hh : Nat → Row} (hPA : PA M ω n hh) : XI Γ l yX8_train cX8_train 2 .int 8 1 [.ref (rl Γ 0), .int (iI a)] ω (fun z ω' => (jd 2 σ a 0).1 = 0 ∧ z = (ad 2 σ a 0).1 ∧ St ω' 1 (ad 2 σ a 0).2 ∧ PA M ω' (rmN n) (rmH n hh σ) ∧ CR ω' ∧ KQ ω ω') (fun E ω' => E = eUn ∧ (jd 2 σ a 0).1 ≠ 0 ∧ ω' = RF (RF (RF ω 67 (jd 2 σ a 0).1 (jd 2 σ a 0).2) 65 (jd 2 σ a 0).1 (jd 2 σ a 0).2) 66 0 0) := by
  refine MetX.ofJ (k := 0) [some (.ref (rl Γ 0)), some (.int (iI a))] (by decide) rfl rfl rfl (fun p e s mm args below meth c C hK2 hxt hrt => ?_)
  have hB := bs1
  have g := hI.s
  have gc := hI.c
  have gM := hI.2.1
  refine j_aload0 C dX8_train_0 ?_
  refine j_deed (i := 2) C (by decide) (WS_of 944 (by decide +kernel)) dX8_train_1 ?_
  refine j_iload1 C dX8_train_4 ?_
  refine j_iconst C dX8_train_5 ?_
  refine j_xVI3 C hK2 hxt (c_X8_change hsl (by exact hR) (by exact hS) (by exact hI) (by exact hWI) (by decide) ⟨by omega, by omega⟩ ⟨by omega, by omega⟩ hM hPA) oX8_change kX8_70 ⟨_, rfl, rfl⟩ at_0 ⟨by decide, by decide⟩ rfl (Nat.le_of_ble_eq_true rfl) ⟨by decide, by decide⟩ ⟨by decide, by decide⟩ dX8_train_6 (by intro E ω1 hE; exact hE) ?_
  intro z9 W9 hz9 hp9
  refine j_xr (by decide) ?_
  refine j_iret C hrt dX8_train_9 hz9 ?_
  exact hp9
set_option maxRecDepth 100000 in
set_option maxHeartbeats 4000000 in
theorem c_X8_boat {Γ : Ga} {l : Launch} {ω : Wo} (hsl : l.stackTraces = false) (hR : CR ω) {σ : Row} (hS : St ω 1 σ) {M : Int} (hI : RI M σ) (hWI : WI σ)  {a b : Int} (ha : Rg a) (hb : Rg b) (hM : M + 3200 ≤ 100000000) {n : Nat} {hh : Nat → Row} (hPA : PA M ω n hh) : XI Γ l yX8_boat cX8_boat 3 .int 8 1 [.ref (rl Γ 0), .int (iI a), .int (iI b)] ω (fun z ω' => (jd 3 σ a b).1 = 0 ∧ z = (ad 3 σ a b).1 ∧ St ω' 1 (ad 3 σ a b).2 ∧ PA M ω' (rmN n) (rmH n hh σ) ∧ CR ω' ∧ KQ ω ω') (fun E ω' => E = eUn ∧ (jd 3 σ a b).1 ≠ 0 ∧ ω' = RF (RF (RF ω 67 (jd 3 σ a b).1 (jd 3 σ a b).2) 65 (jd 3 σ a b).1 (jd 3 σ a b).2) 66 0 0) := by
  refine MetX.ofJ (k := 0) [some (.ref (rl Γ 0)), some (.int (iI a)), some (.int (iI b))] (by decide) rfl rfl rfl (fun p e s mm args below meth c C hK2 hxt hrt => ?_)
  have hB := bs1
  have g := hI.s
  have gc := hI.c
  have gM := hI.2.1
  refine j_aload0 C dX8_boat_0 ?_
  refine j_deed (i := 3) C (by decide) (WS_of 913 (by decide +kernel)) dX8_boat_1 ?_
  refine j_iload1 C dX8_boat_4 ?_
  refine j_iload2 C dX8_boat_5 ?_
  refine j_xVI3 C hK2 hxt (c_X8_change hsl (by exact hR) (by exact hS) (by exact hI) (by exact hWI) (by decide) ⟨by omega, by omega⟩ ⟨by omega, by omega⟩ hM hPA) oX8_change kX8_70 ⟨_, rfl, rfl⟩ at_0 ⟨by decide, by decide⟩ rfl (Nat.le_of_ble_eq_true rfl) ⟨by decide, by decide⟩ ⟨by decide, by decide⟩ dX8_boat_6 (by intro E ω1 hE; exact hE) ?_
  intro z9 W9 hz9 hp9
  refine j_xr (by decide) ?_
  refine j_iret C hrt dX8_boat_9 hz9 ?_
  exact hp9
set_option maxRecDepth 100000 in
set_option maxHeartbeats 4000000 in
theorem c_X8_call {Γ : Ga} {l : Launch} {ω : Wo} (hsl : l.stackTraces = false) (hR : CR ω) {σ : Row} (hS : St ω 1 σ) {M : Int} (hI : RI M σ) (hWI : WI σ)  {a b : Int} (ha : Rg a) (hb : Rg b) (hM : M + 3200 ≤ 100000000) {n : Nat} {hh : Nat → Row} (hPA : PA M ω n hh) : XI Γ l yX8_call cX8_call 3 .int 8 1 [.ref (rl Γ 0), .int (iI a), .int (iI b)] ω (fun z ω' => (jd 4 σ a b).1 = 0 ∧ z = (ad 4 σ a b).1 ∧ St ω' 1 (ad 4 σ a b).2 ∧ PA M ω' (rmN n) (rmH n hh σ) ∧ CR ω' ∧ KQ ω ω') (fun E ω' => E = eUn ∧ (jd 4 σ a b).1 ≠ 0 ∧ ω' = RF (RF (RF ω 67 (jd 4 σ a b).1 (jd 4 σ a b).2) 65 (jd 4 σ a b).1 (jd 4 σ a b).2) 66 0 0) := by
  refine MetX.ofJ (k := 0) [some (.ref (rl Γ 0)), some (.int (iI a)), some (.int (iI b))] (by decide) rfl rfl rfl (fun p e s mm args below meth c C hK2 hxt hrt => ?_)
  have hB := bs1
  have g := hI.s
  have gc := hI.c
  have gM := hI.2.1
  refine j_aload0 C dX8_call_0 ?_
  refine j_deed (i := 4) C (by decide) (WS_of 271 (by decide +kernel)) dX8_call_1 ?_
  refine j_iload1 C dX8_call_4 ?_
  refine j_iload2 C dX8_call_5 ?_
  refine j_xVI3 C hK2 hxt (c_X8_change hsl (by exact hR) (by exact hS) (by exact hI) (by exact hWI) (by decide) ⟨by omega, by omega⟩ ⟨by omega, by omega⟩ hM hPA) oX8_change kX8_70 ⟨_, rfl, rfl⟩ at_0 ⟨by decide, by decide⟩ rfl (Nat.le_of_ble_eq_true rfl) ⟨by decide, by decide⟩ ⟨by decide, by decide⟩ dX8_call_6 (by intro E ω1 hE; exact hE) ?_
  intro z9 W9 hz9 hp9
  refine j_xr (by decide) ?_
  refine j_iret C hrt dX8_call_9 hz9 ?_
  exact hp9
set_option maxRecDepth 100000 in
set_option maxHeartbeats 4000000 in
theorem c_X8_borrow {Γ : Ga} {l : Launch} {ω : Wo} (hsl : l.stackTraces = false) (hR : CR ω) {σ : Row} (hS : St ω 1 σ) {M : Int} (hI : RI M σ) (hWI : WI σ)  {a b : Int} (ha : Rg a) (hb : Rg b) (hM : M + 3200 ≤ 100000000) {n : Nat} {hh : Nat → Row} (hPA : PA M ω n hh) : XI Γ l yX8_borrow cX8_borrow 3 .int 8 1 [.ref (rl Γ 0), .int (iI a), .int (iI b)] ω (fun z ω' => (jd 5 σ a b).1 = 0 ∧ z = (ad 5 σ a b).1 ∧ St ω' 1 (ad 5 σ a b).2 ∧ PA M ω' (rmN n) (rmH n hh σ) ∧ CR ω' ∧ KQ ω ω') (fun E ω' => E = eUn ∧ (jd 5 σ a b).1 ≠ 0 ∧ ω' = RF (RF (RF ω 67 (jd 5 σ a b).1 (jd 5 σ a b).2) 65 (jd 5 σ a b).1 (jd 5 σ a b).2) 66 0 0) := by
  refine MetX.ofJ (k := 0) [some (.ref (rl Γ 0)), some (.int (iI a)), some (.int (iI b))] (by decide) rfl rfl rfl (fun p e s mm args below meth c C hK2 hxt hrt => ?_)
  have hB := bs1
  have g := hI.s
  have gc := hI.c
  have gM := hI.2.1
  refine j_aload0 C dX8_borrow_0 ?_
  refine j_deed (i := 5) C (by decide) (WS_of 922 (by decide +kernel)) dX8_borrow_1 ?_
  refine j_iload1 C dX8_borrow_4 ?_
  refine j_iload2 C dX8_borrow_5 ?_
  refine j_xVI3 C hK2 hxt (c_X8_change hsl (by exact hR) (by exact hS) (by exact hI) (by exact hWI) (by decide) ⟨by omega, by omega⟩ ⟨by omega, by omega⟩ hM hPA) oX8_change kX8_70 ⟨_, rfl, rfl⟩ at_0 ⟨by decide, by decide⟩ rfl (Nat.le_of_ble_eq_true rfl) ⟨by decide, by decide⟩ ⟨by decide, by decide⟩ dX8_borrow_6 (by intro E ω1 hE; exact hE) ?_
  intro z9 W9 hz9 hp9
  refine j_xr (by decide) ?_
  refine j_iret C hrt dX8_borrow_9 hz9 ?_
  exact hp9
set_option maxRecDepth 100000 in
set_option maxHeartbeats 4000000 in
theorem c_X8_giveBack {Γ : Ga} {l : Launch} {ω : Wo} (hsl : l.stackTraces = false) (hR : CR ω) {σ : Row} (hS : St ω 1 σ) {M : Int} (hI : RI M σ) (hWI : WI σ)  {a : Int} (ha : Rg a) (hM : M + 3200 ≤ 100000000) {n : Nat} {hh : Nat → Row} (hPA : PA M ω n hh) : XI Γ l yX8_giveBack cX8_giveBack 2 .int 8 1 [.ref (rl Γ 0), .int (iI a)] ω (fun z ω' => (jd 6 σ a 0).1 = 0 ∧ z = (ad 6 σ a 0).1 ∧ St ω' 1 (ad 6 σ a 0).2 ∧ PA M ω' (rmN n) (rmH n hh σ) ∧ CR ω' ∧ KQ ω ω') (fun E ω' => E = eUn ∧ (jd 6 σ a 0).1 ≠ 0 ∧ ω' = RF (RF (RF ω 67 (jd 6 σ a 0).1 (jd 6 σ a 0).2) 65 (jd 6 σ a 0).1 (jd 6 σ a 0).2) 66 0 0) := by
  refine MetX.ofJ (k := 0) [some (.ref (rl Γ 0)), some (.int (iI a))] (by decide) rfl rfl rfl (fun p e s mm args below meth c C hK2 hxt hrt => ?_)
  have hB := bs1
  have g := hI.s
  have gc := hI.c
  have gM := hI.2.1
  refine j_aload0 C dX8_giveBack_0 ?_
  refine j_deed (i := 6) C (by decide) (WS_of 953 (by decide +kernel)) dX8_giveBack_1 ?_
  refine j_iload1 C dX8_giveBack_4 ?_
  refine j_iconst C dX8_giveBack_5 ?_
  refine j_xVI3 C hK2 hxt (c_X8_change hsl (by exact hR) (by exact hS) (by exact hI) (by exact hWI) (by decide) ⟨by omega, by omega⟩ ⟨by omega, by omega⟩ hM hPA) oX8_change kX8_70 ⟨_, rfl, rfl⟩ at_0 ⟨by decide, by decide⟩ rfl (Nat.le_of_ble_eq_true rfl) ⟨by decide, by decide⟩ ⟨by decide, by decide⟩ dX8_giveBack_6 (by intro E ω1 hE; exact hE) ?_
  intro z9 W9 hz9 hp9
  refine j_xr (by decide) ?_
  refine j_iret C hrt dX8_giveBack_9 hz9 ?_
  exact hp9
set_option maxRecDepth 100000 in
set_option maxHeartbeats 4000000 in
theorem c_X8_limit {Γ : Ga} {l : Launch} {ω : Wo} (hsl : l.stackTraces = false) (hR : CR ω) {σ : Row} (hS : St ω 1 σ) {M : Int} (hI : RI M σ) (hWI : WI σ)  {a : Int} (ha : Rg a) (hM : M + 3200 ≤ 100000000) {n : Nat} {hh : Nat → Row} (hPA : PA M ω n hh) : XI Γ l yX8_limit cX8_limit 2 .int 8 1 [.ref (rl Γ 0), .int (iI a)] ω (fun z ω' => (jd 7 σ a 0).1 = 0 ∧ z = (ad 7 σ a 0).1 ∧ St ω' 1 (ad 7 σ a 0).2 ∧ PA M ω' (rmN n) (rmH n hh σ) ∧ CR ω' ∧ KQ ω ω') (fun E ω' => E = eUn ∧ (jd 7 σ a 0).1 ≠ 0 ∧ ω' = RF (RF (RF ω 67 (jd 7 σ a 0).1 (jd 7 σ a 0).2) 65 (jd 7 σ a 0).1 (jd 7 σ a 0).2) 66 0 0) := by
  refine MetX.ofJ (k := 0) [some (.ref (rl Γ 0)), some (.int (iI a))] (by decide) rfl rfl rfl (fun p e s mm args below meth c C hK2 hxt hrt => ?_)
  have hB := bs1
  have g := hI.s
  have gc := hI.c
  have gM := hI.2.1
  refine j_aload0 C dX8_limit_0 ?_
  refine j_deed (i := 7) C (by decide) (WS_of 476 (by decide +kernel)) dX8_limit_1 ?_
  refine j_iload1 C dX8_limit_4 ?_
  refine j_iconst C dX8_limit_5 ?_
  refine j_xVI3 C hK2 hxt (c_X8_change hsl (by exact hR) (by exact hS) (by exact hI) (by exact hWI) (by decide) ⟨by omega, by omega⟩ ⟨by omega, by omega⟩ hM hPA) oX8_change kX8_70 ⟨_, rfl, rfl⟩ at_0 ⟨by decide, by decide⟩ rfl (Nat.le_of_ble_eq_true rfl) ⟨by decide, by decide⟩ ⟨by decide, by decide⟩ dX8_limit_6 (by intro E ω1 hE; exact hE) ?_
  intro z9 W9 hz9 hp9
  refine j_xr (by decide) ?_
  refine j_iret C hrt dX8_limit_9 hz9 ?_
  exact hp9
set_option maxRecDepth 100000 in
set_option maxHeartbeats 4000000 in
theorem c_X8_pass {Γ : Ga} {l : Launch} {ω : Wo} (hsl : l.stackTraces = false) (hR : CR ω) {σ : Row} (hS : St ω 1 σ) {M : Int} (hI : RI M σ) (hWI : WI σ)  {a : Int} (ha : Rg a) (hM : M + 3200 ≤ 100000000) {n : Nat} {hh : Nat → Row} (hPA : PA M ω n hh) : XI Γ l yX8_pass cX8_pass 2 .int 8 1 [.ref (rl Γ 0), .int (iI a)] ω (fun z ω' => (jd 8 σ a 0).1 = 0 ∧ z = (ad 8 σ a 0).1 ∧ St ω' 1 (ad 8 σ a 0).2 ∧ PA M ω' (rmN n) (rmH n hh σ) ∧ CR ω' ∧ KQ ω ω') (fun E ω' => E = eUn ∧ (jd 8 σ a 0).1 ≠ 0 ∧ ω' = RF (RF (RF ω 67 (jd 8 σ a 0).1 (jd 8 σ a 0).2) 65 (jd 8 σ a 0).1 (jd 8 σ a 0).2) 66 0 0) := by
  refine MetX.ofJ (k := 0) [some (.ref (rl Γ 0)), some (.int (iI a))] (by decide) rfl rfl rfl (fun p e s mm args below meth c C hK2 hxt hrt => ?_)
  have hB := bs1
  have g := hI.s
  have gc := hI.c
  have gM := hI.2.1
  refine j_aload0 C dX8_pass_0 ?_
  refine j_deed (i := 8) C (by decide) (WS_of 485 (by decide +kernel)) dX8_pass_1 ?_
  refine j_iload1 C dX8_pass_4 ?_
  refine j_iconst C dX8_pass_5 ?_
  refine j_xVI3 C hK2 hxt (c_X8_change hsl (by exact hR) (by exact hS) (by exact hI) (by exact hWI) (by decide) ⟨by omega, by omega⟩ ⟨by omega, by omega⟩ hM hPA) oX8_change kX8_70 ⟨_, rfl, rfl⟩ at_0 ⟨by decide, by decide⟩ rfl (Nat.le_of_ble_eq_true rfl) ⟨by decide, by decide⟩ ⟨by decide, by decide⟩ dX8_pass_6 (by intro E ω1 hE; exact hE) ?_
  intro z9 W9 hz9 hp9
  refine j_xr (by decide) ?_
  refine j_iret C hrt dX8_pass_9 hz9 ?_
  exact hp9
