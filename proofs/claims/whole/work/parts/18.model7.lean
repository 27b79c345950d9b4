set_option maxRecDepth 100000 in
set_option maxHeartbeats 4000000 in
theorem c_X9_height {Γ : Ga} {l : Launch} {ω : Wo} (hw : WM ω.2.1) {M : Int} (hI : RI M (ω.1 244))  {a : Int} (ha : Rg a) : CI Γ l yX9_height cX9_height 2 .int 1 [.ref (rl Γ 243), .int (iI a)] ω (fun z ω' => z = (qHeight (ω.1 244) a).2 ∧ ω' = wf ω 243 (up (ω.1 243) 6 (qHeight (ω.1 244) a).1)) := by
  refine Met.ofJ (k := 0) [some (.ref (rl Γ 243)), some (.int (iI a))] (by decide) rfl rfl rfl (fun p e s mm args below meth c C hrt => ?_)
  have g := hI.s
  have gc := hI.c
  have gM := hI.2.1
  have gh := hgt_rg
  refine j_aload0 C dX9_height_0 ?_
  refine j_iload1 C dX9_height_1 ?_
  refine j_iconst C dX9_height_2 ?_
  refine j_bipush C (by decide) dX9_height_3 ?_
  refine j_cSI3 C (c_X9_isIn ⟨by omega, by omega⟩ ⟨by omega, by omega⟩ ⟨by omega, by omega⟩) oX9_isIn kX9_60 ⟨by decide, by decide⟩ rfl (Nat.le_of_ble_eq_true rfl) ⟨by decide, by decide⟩ dX9_height_5 ?_
  rintro _ _ hz5 ⟨rfl, rfl⟩
  try simp only [wi_wf, wf_same, wf_wf, tM0, tM1, tM2, tM3, tM4, tM5, tM6, tB0, tB1, tB2, tB3, tB4, tB5, tB6, tL0, tL1, tL2, up_up, wn_243_244, wn_243_245, wn_243_246, wn_243_247, wn_243_248, wn_243_249, wn_243_250, wn_243_251, wn_244_243, wn_244_245, wn_244_246, wn_244_247, wn_244_248, wn_244_249, wn_244_250, wn_244_251, wn_245_243, wn_245_244, wn_245_246, wn_245_247, wn_245_248, wn_245_249, wn_245_250, wn_245_251, wn_246_243, wn_246_244, wn_246_245, wn_246_247, wn_246_248, wn_246_249, wn_246_250, wn_246_251, wn_247_243, wn_247_244, wn_247_245, wn_247_246, wn_247_248, wn_247_249, wn_247_250, wn_247_251, wn_248_243, wn_248_244, wn_248_245, wn_248_246, wn_248_247, wn_248_249, wn_248_250, wn_248_251, wn_249_243, wn_249_244, wn_249_245, wn_249_246, wn_249_247, wn_249_248, wn_249_250, wn_249_251, wn_250_243, wn_250_244, wn_250_245, wn_250_246, wn_250_247, wn_250_248, wn_250_249, wn_250_251, wn_251_243, wn_251_244, wn_251_245, wn_251_246, wn_251_247, wn_251_248, wn_251_249, wn_251_250] at hz5 ⊢
  refine j_ifneb C dX9_height_8 (fun hc8 => ?_) (fun hc8 => ?_)
  · -- 8 T
    refine j_iconst C dX9_height_15 ?_
    refine j_iconst C dX9_height_16 ?_
    refine j_cVI2 C (c_X9_isThrown_0 (by exact hw) ⟨by omega, by omega⟩) oX9_isThrown kX9_207 ⟨_, rfl, rfl⟩ at_243 ⟨by decide, by decide⟩ rfl (Nat.le_of_ble_eq_true rfl) ⟨by decide, by decide⟩ dX9_height_17 ?_
    rintro _ _ hz17 ⟨rfl, rfl⟩
    try simp only [wi_wf, wf_same, wf_wf, tM0, tM1, tM2, tM3, tM4, tM5, tM6, tB0, tB1, tB2, tB3, tB4, tB5, tB6, tL0, tL1, tL2, up_up, wn_243_244, wn_243_245, wn_243_246, wn_243_247, wn_243_248, wn_243_249, wn_243_250, wn_243_251, wn_244_243, wn_244_245, wn_244_246, wn_244_247, wn_244_248, wn_244_249, wn_244_250, wn_244_251, wn_245_243, wn_245_244, wn_245_246, wn_245_247, wn_245_248, wn_245_249, wn_245_250, wn_245_251, wn_246_243, wn_246_244, wn_246_245, wn_246_247, wn_246_248, wn_246_249, wn_246_250, wn_246_251, wn_247_243, wn_247_244, wn_247_245, wn_247_246, wn_247_248, wn_247_249, wn_247_250, wn_247_251, wn_248_243, wn_248_244, wn_248_245, wn_248_246, wn_248_247, wn_248_249, wn_248_250, wn_248_251, wn_249_243, wn_249_244, wn_249_245, wn_249_246, wn_249_247, wn_249_248, wn_249_250, wn_249_251, wn_250_243, wn_250_244, wn_250_245, wn_250_246, wn_250_247, wn_250_248, wn_250_249, wn_250_251, wn_251_243, wn_251_244, wn_251_245, wn_251_246, wn_251_247, wn_251_248, wn_251_249, wn_251_250] at hz17 ⊢
    refine j_if_eq C (by decide) dX9_height_20 (fun _ => ?_) (fun hc => absurd hc (by decide))
    refine j_aload0 C dX9_height_27 ?_
    refine j_aload0 C dX9_height_28 ?_
    refine j_getr C fX9_9 at_243 rfl hw.r0 dX9_height_29 ?_
    refine j_iconst C dX9_height_32 ?_
    refine j_ialdK C at_244 ⟨rfl, rfl⟩ (N := 111) rfl (by decide) (k := 0) rfl (by decide) dX9_height_33 (fun hr33 => ?_)
    try simp only [wf_same, wn_243_244, wn_243_245, wn_243_246, wn_243_247, wn_243_248, wn_243_249, wn_243_250, wn_243_251, wn_244_243, wn_244_245, wn_244_246, wn_244_247, wn_244_248, wn_244_249, wn_244_250, wn_244_251, wn_245_243, wn_245_244, wn_245_246, wn_245_247, wn_245_248, wn_245_249, wn_245_250, wn_245_251, wn_246_243, wn_246_244, wn_246_245, wn_246_247, wn_246_248, wn_246_249, wn_246_250, wn_246_251, wn_247_243, wn_247_244, wn_247_245, wn_247_246, wn_247_248, wn_247_249, wn_247_250, wn_247_251, wn_248_243, wn_248_244, wn_248_245, wn_248_246, wn_248_247, wn_248_249, wn_248_250, wn_248_251, wn_249_243, wn_249_244, wn_249_245, wn_249_246, wn_249_247, wn_249_248, wn_249_250, wn_249_251, wn_250_243, wn_250_244, wn_250_245, wn_250_246, wn_250_247, wn_250_248, wn_250_249, wn_250_251, wn_251_243, wn_251_244, wn_251_245, wn_251_246, wn_251_247, wn_251_248, wn_251_249, wn_251_250] at hr33 ⊢
    refine j_iload1 C dX9_height_34 ?_
    refine j_iadd C dX9_height_35 ?_
    refine j_cVI1 C (c_X9_heightAt (by exact hw) (by omega)) oX9_heightAt kX9_68 ⟨_, rfl, rfl⟩ at_243 ⟨by decide, by decide⟩ rfl (Nat.le_of_ble_eq_true rfl) ⟨by decide, by decide⟩ dX9_height_36 ?_
    rintro _ _ hz36 ⟨rfl, rfl⟩
    try simp only [wi_wf, wf_same, wf_wf, tM0, tM1, tM2, tM3, tM4, tM5, tM6, tB0, tB1, tB2, tB3, tB4, tB5, tB6, tL0, tL1, tL2, up_up, wn_243_244, wn_243_245, wn_243_246, wn_243_247, wn_243_248, wn_243_249, wn_243_250, wn_243_251, wn_244_243, wn_244_245, wn_244_246, wn_244_247, wn_244_248, wn_244_249, wn_244_250, wn_244_251, wn_245_243, wn_245_244, wn_245_246, wn_245_247, wn_245_248, wn_245_249, wn_245_250, wn_245_251, wn_246_243, wn_246_244, wn_246_245, wn_246_247, wn_246_248, wn_246_249, wn_246_250, wn_246_251, wn_247_243, wn_247_244, wn_247_245, wn_247_246, wn_247_248, wn_247_249, wn_247_250, wn_247_251, wn_248_243, wn_248_244, wn_248_245, wn_248_246, wn_248_247, wn_248_249, wn_248_250, wn_248_251, wn_249_243, wn_249_244, wn_249_245, wn_249_246, wn_249_247, wn_249_248, wn_249_250, wn_249_251, wn_250_243, wn_250_244, wn_250_245, wn_250_246, wn_250_247, wn_250_248, wn_250_249, wn_250_251, wn_251_243, wn_251_244, wn_251_245, wn_251_246, wn_251_247, wn_251_248, wn_251_249, wn_251_250] at hz36 ⊢
    refine j_iret C hrt dX9_height_39 (by have := hgt_rg ((ω.1 244) 0 + a); first | exact ⟨by omega, by omega⟩ | decide) ?_
    refine ⟨?_, ?_⟩
    · simp only [qHeight]
      repeat (first | rw [if_pos (by omega)] | rw [if_neg (by omega)])
    · simp only [qHeight]
      repeat (first | rw [if_pos (by omega)] | rw [if_neg (by omega)])
  · -- 8 F
    refine j_iconst C dX9_height_11 ?_
    refine j_goto C dX9_height_12 ?_
    refine j_iconst C dX9_height_16 ?_
    refine j_cVI2 C (c_X9_isThrown_1 (by exact hw) ⟨by omega, by omega⟩) oX9_isThrown kX9_207 ⟨_, rfl, rfl⟩ at_243 ⟨by decide, by decide⟩ rfl (Nat.le_of_ble_eq_true rfl) ⟨by decide, by decide⟩ dX9_height_17 ?_
    rintro _ _ hz17 ⟨rfl, rfl⟩
    try simp only [wi_wf, wf_same, wf_wf, tM0, tM1, tM2, tM3, tM4, tM5, tM6, tB0, tB1, tB2, tB3, tB4, tB5, tB6, tL0, tL1, tL2, up_up, wn_243_244, wn_243_245, wn_243_246, wn_243_247, wn_243_248, wn_243_249, wn_243_250, wn_243_251, wn_244_243, wn_244_245, wn_244_246, wn_244_247, wn_244_248, wn_244_249, wn_244_250, wn_244_251, wn_245_243, wn_245_244, wn_245_246, wn_245_247, wn_245_248, wn_245_249, wn_245_250, wn_245_251, wn_246_243, wn_246_244, wn_246_245, wn_246_247, wn_246_248, wn_246_249, wn_246_250, wn_246_251, wn_247_243, wn_247_244, wn_247_245, wn_247_246, wn_247_248, wn_247_249, wn_247_250, wn_247_251, wn_248_243, wn_248_244, wn_248_245, wn_248_246, wn_248_247, wn_248_249, wn_248_250, wn_248_251, wn_249_243, wn_249_244, wn_249_245, wn_249_246, wn_249_247, wn_249_248, wn_249_250, wn_249_251, wn_250_243, wn_250_244, wn_250_245, wn_250_246, wn_250_247, wn_250_248, wn_250_249, wn_250_251, wn_251_243, wn_251_244, wn_251_245, wn_251_246, wn_251_247, wn_251_248, wn_251_249, wn_251_250] at hz17 ⊢
    refine j_if_eq C (by decide) dX9_height_20 (fun hc => absurd hc (by decide)) (fun _ => ?_)
    refine j_iconst C dX9_height_23 ?_
    refine j_goto C dX9_height_24 ?_
    refine j_iret C hrt dX9_height_39 (by have := hgt_rg ((ω.1 244) 0 + a); first | exact ⟨by omega, by omega⟩ | decide) ?_
    refine ⟨?_, ?_⟩
    · simp only [qHeight]
      repeat (first | rw [if_pos (by omega)] | rw [if_neg (by omega)])
    · simp only [qHeight]
      repeat (first | rw [if_pos (by omega)] | rw [if_neg (by omega)])
set_option maxRecDepth 100000 in
set_option maxHeartbeats 4000000 in
theorem c_X9_memberOf {Γ : Ga} {l : Launch} {ω : Wo} (hw : WM ω.2.1) {M : Int} (hI : RI M (ω.1 244))  {a b : Int} (ha : Rg a) (hb : Rg b) : CI Γ l yX9_memberOf cX9_memberOf 3 .int 2 [.ref (rl Γ 243), .int (iI a), .int (iI b)] ω (fun z ω' => z = (qMember (ω.1 244) a b).2 ∧ ω' = wf ω 243 (up (ω.1 243) 6 (qMember (ω.1 244) a b).1)) := by
  refine Met.ofJ (k := 0) [some (.ref (rl Γ 243)), some (.int (iI a)), some (.int (iI b))] (by decide) rfl rfl rfl (fun p e s mm args below meth c C hrt => ?_)
  have g := hI.s
  have gc := hI.c
  have gM := hI.2.1
  refine j_aload0 C dX9_memberOf_0 ?_
  refine j_aload0 C dX9_memberOf_1 ?_
  refine j_iload1 C dX9_memberOf_2 ?_
  refine j_cVI1 C (c_X9_isMember (by exact hw) ⟨by omega, by omega⟩ (by exact hI)) oX9_isMember kX9_106 ⟨_, rfl, rfl⟩ at_243 ⟨by decide, by decide⟩ rfl (Nat.le_of_ble_eq_true rfl) ⟨by decide, by decide⟩ dX9_memberOf_3 ?_
  rintro _ _ hz3 ⟨rfl, rfl⟩
  try simp only [wi_wf, wf_same, wf_wf, tM0, tM1, tM2, tM3, tM4, tM5, tM6, tB0, tB1, tB2, tB3, tB4, tB5, tB6, tL0, tL1, tL2, up_up, wn_243_244, wn_243_245, wn_243_246, wn_243_247, wn_243_248, wn_243_249, wn_243_250, wn_243_251, wn_244_243, wn_244_245, wn_244_246, wn_244_247, wn_244_248, wn_244_249, wn_244_250, wn_244_251, wn_245_243, wn_245_244, wn_245_246, wn_245_247, wn_245_248, wn_245_249, wn_245_250, wn_245_251, wn_246_243, wn_246_244, wn_246_245, wn_246_247, wn_246_248, wn_246_249, wn_246_250, wn_246_251, wn_247_243, wn_247_244, wn_247_245, wn_247_246, wn_247_248, wn_247_249, wn_247_250, wn_247_251, wn_248_243, wn_248_244, wn_248_245, wn_248_246, wn_248_247, wn_248_249, wn_248_250, wn_248_251, wn_249_243, wn_249_244, wn_249_245, wn_249_246, wn_249_247, wn_249_248, wn_249_250, wn_249_251, wn_250_243, wn_250_244, wn_250_245, wn_250_246, wn_250_247, wn_250_248, wn_250_249, wn_250_251, wn_251_243, wn_251_244, wn_251_245, wn_251_246, wn_251_247, wn_251_248, wn_251_249, wn_251_250] at hz3 ⊢
  refine j_ifneb C dX9_memberOf_6 (fun hc6 => ?_) (fun hc6 => ?_)
  · -- 6 T
    refine j_iconst C dX9_memberOf_13 ?_
    refine j_iconst C dX9_memberOf_14 ?_
    refine j_cVI2 C (c_X9_isThrown_0 (by exact hw) ⟨by omega, by omega⟩) oX9_isThrown kX9_207 ⟨_, rfl, rfl⟩ at_243 ⟨by decide, by decide⟩ rfl (Nat.le_of_ble_eq_true rfl) ⟨by decide, by decide⟩ dX9_memberOf_15 ?_
    rintro _ _ hz15 ⟨rfl, rfl⟩
    try simp only [wi_wf, wf_same, wf_wf, tM0, tM1, tM2, tM3, tM4, tM5, tM6, tB0, tB1, tB2, tB3, tB4, tB5, tB6, tL0, tL1, tL2, up_up, wn_243_244, wn_243_245, wn_243_246, wn_243_247, wn_243_248, wn_243_249, wn_243_250, wn_243_251, wn_244_243, wn_244_245, wn_244_246, wn_244_247, wn_244_248, wn_244_249, wn_244_250, wn_244_251, wn_245_243, wn_245_244, wn_245_246, wn_245_247, wn_245_248, wn_245_249, wn_245_250, wn_245_251, wn_246_243, wn_246_244, wn_246_245, wn_246_247, wn_246_248, wn_246_249, wn_246_250, wn_246_251, wn_247_243, wn_247_244, wn_247_245, wn_247_246, wn_247_248, wn_247_249, wn_247_250, wn_247_251, wn_248_243, wn_248_244, wn_248_245, wn_248_246, wn_248_247, wn_248_249, wn_248_250, wn_248_251, wn_249_243, wn_249_244, wn_249_245, wn_249_246, wn_249_247, wn_249_248, wn_249_250, wn_249_251, wn_250_243, wn_250_244, wn_250_245, wn_250_246, wn_250_247, wn_250_248, wn_250_249, wn_250_251, wn_251_243, wn_251_244, wn_251_245, wn_251_246, wn_251_247, wn_251_248, wn_251_249, wn_251_250] at hz15 ⊢
    refine j_if_ne C (by decide) dX9_memberOf_18 (fun hc => absurd hc (by decide)) (fun _ => ?_)
    refine j_aload0 C dX9_memberOf_21 ?_
    refine j_iload2 C dX9_memberOf_22 ?_
    refine j_iconst C dX9_memberOf_23 ?_
    refine j_bipush C (by decide) dX9_memberOf_24 ?_
    refine j_cSI3 C (c_X9_isIn ⟨by omega, by omega⟩ ⟨by omega, by omega⟩ ⟨by omega, by omega⟩) oX9_isIn kX9_60 ⟨by decide, by decide⟩ rfl (Nat.le_of_ble_eq_true rfl) ⟨by decide, by decide⟩ dX9_memberOf_26 ?_
    rintro _ _ hz26 ⟨rfl, rfl⟩
    try simp only [wi_wf, wf_same, wf_wf, tM0, tM1, tM2, tM3, tM4, tM5, tM6, tB0, tB1, tB2, tB3, tB4, tB5, tB6, tL0, tL1, tL2, up_up, wn_243_244, wn_243_245, wn_243_246, wn_243_247, wn_243_248, wn_243_249, wn_243_250, wn_243_251, wn_244_243, wn_244_245, wn_244_246, wn_244_247, wn_244_248, wn_244_249, wn_244_250, wn_244_251, wn_245_243, wn_245_244, wn_245_246, wn_245_247, wn_245_248, wn_245_249, wn_245_250, wn_245_251, wn_246_243, wn_246_244, wn_246_245, wn_246_247, wn_246_248, wn_246_249, wn_246_250, wn_246_251, wn_247_243, wn_247_244, wn_247_245, wn_247_246, wn_247_248, wn_247_249, wn_247_250, wn_247_251, wn_248_243, wn_248_244, wn_248_245, wn_248_246, wn_248_247, wn_248_249, wn_248_250, wn_248_251, wn_249_243, wn_249_244, wn_249_245, wn_249_246, wn_249_247, wn_249_248, wn_249_250, wn_249_251, wn_250_243, wn_250_244, wn_250_245, wn_250_246, wn_250_247, wn_250_248, wn_250_249, wn_250_251, wn_251_243, wn_251_244, wn_251_245, wn_251_246, wn_251_247, wn_251_248, wn_251_249, wn_251_250] at hz26 ⊢
    refine j_ifneb C dX9_memberOf_29 (fun hc29 => ?_) (fun hc29 => ?_)
    · -- 29 T
      refine j_iconst C dX9_memberOf_36 ?_
      refine j_iconst C dX9_memberOf_37 ?_
      refine j_cVI2 C (c_X9_isThrown_0 (by exact hw) ⟨by omega, by omega⟩) oX9_isThrown kX9_207 ⟨_, rfl, rfl⟩ at_243 ⟨by decide, by decide⟩ rfl (Nat.le_of_ble_eq_true rfl) ⟨by decide, by decide⟩ dX9_memberOf_38 ?_
      rintro _ _ hz38 ⟨rfl, rfl⟩
      try simp only [wi_wf, wf_same, wf_wf, tM0, tM1, tM2, tM3, tM4, tM5, tM6, tB0, tB1, tB2, tB3, tB4, tB5, tB6, tL0, tL1, tL2, up_up, wn_243_244, wn_243_245, wn_243_246, wn_243_247, wn_243_248, wn_243_249, wn_243_250, wn_243_251, wn_244_243, wn_244_245, wn_244_246, wn_244_247, wn_244_248, wn_244_249, wn_244_250, wn_244_251, wn_245_243, wn_245_244, wn_245_246, wn_245_247, wn_245_248, wn_245_249, wn_245_250, wn_245_251, wn_246_243, wn_246_244, wn_246_245, wn_246_247, wn_246_248, wn_246_249, wn_246_250, wn_246_251, wn_247_243, wn_247_244, wn_247_245, wn_247_246, wn_247_248, wn_247_249, wn_247_250, wn_247_251, wn_248_243, wn_248_244, wn_248_245, wn_248_246, wn_248_247, wn_248_249, wn_248_250, wn_248_251, wn_249_243, wn_249_244, wn_249_245, wn_249_246, wn_249_247, wn_249_248, wn_249_250, wn_249_251, wn_250_243, wn_250_244, wn_250_245, wn_250_246, wn_250_247, wn_250_248, wn_250_249, wn_250_251, wn_251_243, wn_251_244, wn_251_245, wn_251_246, wn_251_247, wn_251_248, wn_251_249, wn_251_250] at hz38 ⊢
      refine j_if_eq C (by decide) dX9_memberOf_41 (fun _ => ?_) (fun hc => absurd hc (by decide))
      refine j_iload2 C dX9_memberOf_46 ?_
      refine j_iconst C dX9_memberOf_47 ?_
      refine j_icmp_ne C ⟨by omega, by omega⟩ ⟨by omega, by omega⟩ dX9_memberOf_48 (fun hc48 => ?_) (fun hc48 => ?_)
      · -- 48 T
        refine j_aload0 C dX9_memberOf_67 ?_
        refine j_iload1 C dX9_memberOf_68 ?_
        refine j_iload2 C dX9_memberOf_69 ?_
        refine j_iconst C dX9_memberOf_70 ?_
        refine j_icmp_le C ⟨by omega, by omega⟩ ⟨by omega, by omega⟩ dX9_memberOf_71 (fun hc71 => ?_) (fun hc71 => ?_)
        · -- 71 T
          refine j_iload2 C dX9_memberOf_80 ?_
          refine j_cVI2 C (c_X9_of (by exact hw) (by omega) (by omega)) oX9_of kX9_103 ⟨_, rfl, rfl⟩ at_243 ⟨by decide, by decide⟩ rfl (Nat.le_of_ble_eq_true rfl) ⟨by decide, by decide⟩ dX9_memberOf_81 ?_
          rintro _ _ hz81 ⟨rfl, rfl⟩
          try simp only [wi_wf, wf_same, wf_wf, tM0, tM1, tM2, tM3, tM4, tM5, tM6, tB0, tB1, tB2, tB3, tB4, tB5, tB6, tL0, tL1, tL2, up_up, wn_243_244, wn_243_245, wn_243_246, wn_243_247, wn_243_248, wn_243_249, wn_243_250, wn_243_251, wn_244_243, wn_244_245, wn_244_246, wn_244_247, wn_244_248, wn_244_249, wn_244_250, wn_244_251, wn_245_243, wn_245_244, wn_245_246, wn_245_247, wn_245_248, wn_245_249, wn_245_250, wn_245_251, wn_246_243, wn_246_244, wn_246_245, wn_246_247, wn_246_248, wn_246_249, wn_246_250, wn_246_251, wn_247_243, wn_247_244, wn_247_245, wn_247_246, wn_247_248, wn_247_249, wn_247_250, wn_247_251, wn_248_243, wn_248_244, wn_248_245, wn_248_246, wn_248_247, wn_248_249, wn_248_250, wn_248_251, wn_249_243, wn_249_244, wn_249_245, wn_249_246, wn_249_247, wn_249_248, wn_249_250, wn_249_251, wn_250_243, wn_250_244, wn_250_245, wn_250_246, wn_250_247, wn_250_248, wn_250_249, wn_250_251, wn_251_243, wn_251_244, wn_251_245, wn_251_246, wn_251_247, wn_251_248, wn_251_249, wn_251_250] at hz81 ⊢
          refine j_iret C hrt dX9_memberOf_84 ⟨by omega, by omega⟩ ?_
          refine ⟨?_, ?_⟩
          · simp only [qMember]
            repeat (first | rw [if_pos (by omega)] | rw [if_neg (by omega)])
          · simp only [qMember]
            repeat (first | rw [if_pos (by omega)] | rw [if_neg (by omega)])
        · -- 71 F
          refine j_iload2 C dX9_memberOf_74 ?_
          refine j_iconst C dX9_memberOf_75 ?_
          refine j_isub C dX9_memberOf_76 ?_
          refine j_goto C dX9_memberOf_77 ?_
          refine j_cVI2 C (c_X9_of (by exact hw) (by omega) (by omega)) oX9_of kX9_103 ⟨_, rfl, rfl⟩ at_243 ⟨by decide, by decide⟩ rfl (Nat.le_of_ble_eq_true rfl) ⟨by decide, by decide⟩ dX9_memberOf_81 ?_
          rintro _ _ hz81 ⟨rfl, rfl⟩
          try simp only [wi_wf, wf_same, wf_wf, tM0, tM1, tM2, tM3, tM4, tM5, tM6, tB0, tB1, tB2, tB3, tB4, tB5, tB6, tL0, tL1, tL2, up_up, wn_243_244, wn_243_245, wn_243_246, wn_243_247, wn_243_248, wn_243_249, wn_243_250, wn_243_251, wn_244_243, wn_244_245, wn_244_246, wn_244_247, wn_244_248, wn_244_249, wn_244_250, wn_244_251, wn_245_243, wn_245_244, wn_245_246, wn_245_247, wn_245_248, wn_245_249, wn_245_250, wn_245_251, wn_246_243, wn_246_244, wn_246_245, wn_246_247, wn_246_248, wn_246_249, wn_246_250, wn_246_251, wn_247_243, wn_247_244, wn_247_245, wn_247_246, wn_247_248, wn_247_249, wn_247_250, wn_247_251, wn_248_243, wn_248_244, wn_248_245, wn_248_246, wn_248_247, wn_248_249, wn_248_250, wn_248_251, wn_249_243, wn_249_244, wn_249_245, wn_249_246, wn_249_247, wn_249_248, wn_249_250, wn_249_251, wn_250_243, wn_250_244, wn_250_245, wn_250_246, wn_250_247, wn_250_248, wn_250_249, wn_250_251, wn_251_243, wn_251_244, wn_251_245, wn_251_246, wn_251_247, wn_251_248, wn_251_249, wn_251_250] at hz81 ⊢
          refine j_iret C hrt dX9_memberOf_84 ⟨by omega, by omega⟩ ?_
          refine ⟨?_, ?_⟩
          · simp only [qMember]
            repeat (first | rw [if_pos (by omega)] | rw [if_neg (by omega)])
          · simp only [qMember]
            repeat (first | rw [if_pos (by omega)] | rw [if_neg (by omega)])
      · -- 48 F
        refine j_aload0 C dX9_memberOf_51 ?_
        refine j_iload1 C dX9_memberOf_52 ?_
        refine j_cVI1 C (c_X9_isAble (by exact hw) (by omega) (by exact hI)) oX9_isAble kX9_122 ⟨_, rfl, rfl⟩ at_243 ⟨by decide, by decide⟩ rfl (Nat.le_of_ble_eq_true rfl) ⟨by decide, by decide⟩ dX9_memberOf_53 ?_
        rintro _ _ hz53 ⟨rfl, rfl⟩
        try simp only [wi_wf, wf_same, wf_wf, tM0, tM1, tM2, tM3, tM4, tM5, tM6, tB0, tB1, tB2, tB3, tB4, tB5, tB6, tL0, tL1, tL2, up_up, wn_243_244, wn_243_245, wn_243_246, wn_243_247, wn_243_248, wn_243_249, wn_243_250, wn_243_251, wn_244_243, wn_244_245, wn_244_246, wn_244_247, wn_244_248, wn_244_249, wn_244_250, wn_244_251, wn_245_243, wn_245_244, wn_245_246, wn_245_247, wn_245_248, wn_245_249, wn_245_250, wn_245_251, wn_246_243, wn_246_244, wn_246_245, wn_246_247, wn_246_248, wn_246_249, wn_246_250, wn_246_251, wn_247_243, wn_247_244, wn_247_245, wn_247_246, wn_247_248, wn_247_249, wn_247_250, wn_247_251, wn_248_243, wn_248_244, wn_248_245, wn_248_246, wn_248_247, wn_248_249, wn_248_250, wn_248_251, wn_249_243, wn_249_244, wn_249_245, wn_249_246, wn_249_247, wn_249_248, wn_249_250, wn_249_251, wn_250_243, wn_250_244, wn_250_245, wn_250_246, wn_250_247, wn_250_248, wn_250_249, wn_250_251, wn_251_243, wn_251_244, wn_251_245, wn_251_246, wn_251_247, wn_251_248, wn_251_249, wn_251_250] at hz53 ⊢
        refine j_ifeqb C dX9_memberOf_56 (fun hc56 => ?_) (fun hc56 => ?_)
        · -- 56 T
          refine j_iconst C dX9_memberOf_59 ?_
          refine j_goto C dX9_memberOf_60 ?_
          refine j_iret C hrt dX9_memberOf_84 ⟨by omega, by omega⟩ ?_
          refine ⟨?_, ?_⟩
          · simp only [qMember]
            repeat (first | rw [if_pos (by omega)] | rw [if_neg (by omega)])
          · simp only [qMember]
            repeat (first | rw [if_pos (by omega)] | rw [if_neg (by omega)])
        · -- 56 F
          refine j_iconst C dX9_memberOf_63 ?_
          refine j_goto C dX9_memberOf_64 ?_
          refine j_iret C hrt dX9_memberOf_84 ⟨by omega, by omega⟩ ?_
          refine ⟨?_, ?_⟩
          · simp only [qMember]
            repeat (first | rw [if_pos (by omega)] | rw [if_neg (by omega)])
          · simp only [qMember]
            repeat (first | rw [if_pos (by omega)] | rw [if_neg (by omega)])
    · -- 29 F
      refine j_iconst C dX9_memberOf_32 ?_
      refine j_goto C dX9_memberOf_33 ?_
      refine j_iconst C dX9_memberOf_37 ?_
      refine j_cVI2 C (c_X9_isThrown_1 (by exact hw) ⟨by omega, by omega⟩) oX9_isThrown kX9_207 ⟨_, rfl, rfl⟩ at_243 ⟨by decide, by decide⟩ rfl (Nat.le_of_ble_eq_true rfl) ⟨by decide, by decide⟩ dX9_memberOf_38 ?_
      rintro _ _ hz38 ⟨rfl, rfl⟩
      try simp only [wi_wf, wf_same, wf_wf, tM0, tM1, tM2, tM3, tM4, tM5, tM6, tB0, tB1, tB2, tB3, tB4, tB5, tB6, tL0, tL1, tL2, up_up, wn_243_244, wn_243_245, wn_243_246, wn_243_247, wn_243_248, wn_243_249, wn_243_250, wn_243_251, wn_244_243, wn_244_245, wn_244_246, wn_244_247, wn_244_248, wn_244_249, wn_244_250, wn_244_251, wn_245_243, wn_245_244, wn_245_246, wn_245_247, wn_245_248, wn_245_249, wn_245_250, wn_245_251, wn_246_243, wn_246_244, wn_246_245, wn_246_247, wn_246_248, wn_246_249, wn_246_250, wn_246_251, wn_247_243, wn_247_244, wn_247_245, wn_247_246, wn_247_248, wn_247_249, wn_247_250, wn_247_251, wn_248_243, wn_248_244, wn_248_245, wn_248_246, wn_248_247, wn_248_249, wn_248_250, wn_248_251, wn_249_243, wn_249_244, wn_249_245, wn_249_246, wn_249_247, wn_249_248, wn_249_250, wn_249_251, wn_250_243, wn_250_244, wn_250_245, wn_250_246, wn_250_247, wn_250_248, wn_250_249, wn_250_251, wn_251_243, wn_251_244, wn_251_245, wn_251_246, wn_251_247, wn_251_248, wn_251_249, wn_251_250] at hz38 ⊢
      refine j_if_eq C (by decide) dX9_memberOf_41 (fun hc => absurd hc (by decide)) (fun _ => ?_)
      refine j_iconst C dX9_memberOf_44 ?_
      refine j_iret C hrt dX9_memberOf_45 ⟨by omega, by omega⟩ ?_
      refine ⟨?_, ?_⟩
      · simp only [qMember]
        repeat (first | rw [if_pos (by omega)] | rw [if_neg (by omega)])
      · simp only [qMember]
        repeat (first | rw [if_pos (by omega)] | rw [if_neg (by omega)])
  · -- 6 F
    refine j_iconst C dX9_memberOf_9 ?_
    refine j_goto C dX9_memberOf_10 ?_
    refine j_iconst C dX9_memberOf_14 ?_
    refine j_cVI2 C (c_X9_isThrown_1 (by exact hw) ⟨by omega, by omega⟩) oX9_isThrown kX9_207 ⟨_, rfl, rfl⟩ at_243 ⟨by decide, by decide⟩ rfl (Nat.le_of_ble_eq_true rfl) ⟨by decide, by decide⟩ dX9_memberOf_15 ?_
    rintro _ _ hz15 ⟨rfl, rfl⟩
    try simp only [wi_wf, wf_same, wf_wf, tM0, tM1, tM2, tM3, tM4, tM5, tM6, tB0, tB1, tB2, tB3, tB4, tB5, tB6, tL0, tL1, tL2, up_up, wn_243_244, wn_243_245, wn_243_246, wn_243_247, wn_243_248, wn_243_249, wn_243_250, wn_243_251, wn_244_243, wn_244_245, wn_244_246, wn_244_247, wn_244_248, wn_244_249, wn_244_250, wn_244_251, wn_245_243, wn_245_244, wn_245_246, wn_245_247, wn_245_248, wn_245_249, wn_245_250, wn_245_251, wn_246_243, wn_246_244, wn_246_245, wn_246_247, wn_246_248, wn_246_249, wn_246_250, wn_246_251, wn_247_243, wn_247_244, wn_247_245, wn_247_246, wn_247_248, wn_247_249, wn_247_250, wn_247_251, wn_248_243, wn_248_244, wn_248_245, wn_248_246, wn_248_247, wn_248_249, wn_248_250, wn_248_251, wn_249_243, wn_249_244, wn_249_245, wn_249_246, wn_249_247, wn_249_248, wn_249_250, wn_249_251, wn_250_243, wn_250_244, wn_250_245, wn_250_246, wn_250_247, wn_250_248, wn_250_249, wn_250_251, wn_251_243, wn_251_244, wn_251_245, wn_251_246, wn_251_247, wn_251_248, wn_251_249, wn_251_250] at hz15 ⊢
    refine j_if_ne C (by decide) dX9_memberOf_18 (fun _ => ?_) (fun hc => absurd hc (by decide))
    refine j_iconst C dX9_memberOf_44 ?_
    refine j_iret C hrt dX9_memberOf_45 ⟨by omega, by omega⟩ ?_
    refine ⟨?_, ?_⟩
    · simp only [qMember]
      repeat (first | rw [if_pos (by omega)] | rw [if_neg (by omega)])
    · simp only [qMember]
      repeat (first | rw [if_pos (by omega)] | rw [if_neg (by omega)])
set_option maxRecDepth 100000 in
set_option maxHeartbeats 4000000 in
theorem c_X9_boatOf {Γ : Ga} {l : Launch} {ω : Wo} (hw : WM ω.2.1) {M : Int} (hI : RI M (ω.1 244))  {a b : Int} (ha : Rg a) (hb : Rg b) : CI Γ l yX9_boatOf cX9_boatOf 3 .int 2 [.ref (rl Γ 243), .int (iI a), .int (iI b)] ω (fun z ω' => z = (qBoat (ω.1 244) a b).2 ∧ ω' = wf ω 243 (up (ω.1 243) 6 (qBoat (ω.1 244) a b).1)) := by
  refine Met.ofJ (k := 0) [some (.ref (rl Γ 243)), some (.int (iI a)), some (.int (iI b))] (by decide) rfl rfl rfl (fun p e s mm args below meth c C hrt => ?_)
  have g := hI.s
  have gc := hI.c
  refine j_aload0 C dX9_boatOf_0 ?_
  refine j_aload0 C dX9_boatOf_1 ?_
  refine j_iload1 C dX9_boatOf_2 ?_
  refine j_cVI1 C (c_X9_isBoat (by exact hw) ⟨by omega, by omega⟩ (by exact hI)) oX9_isBoat kX9_155 ⟨_, rfl, rfl⟩ at_243 ⟨by decide, by decide⟩ rfl (Nat.le_of_ble_eq_true rfl) ⟨by decide, by decide⟩ dX9_boatOf_3 ?_
  rintro _ _ hz3 ⟨rfl, rfl⟩
  try simp only [wi_wf, wf_same, wf_wf, tM0, tM1, tM2, tM3, tM4, tM5, tM6, tB0, tB1, tB2, tB3, tB4, tB5, tB6, tL0, tL1, tL2, up_up, wn_243_244, wn_243_245, wn_243_246, wn_243_247, wn_243_248, wn_243_249, wn_243_250, wn_243_251, wn_244_243, wn_244_245, wn_244_246, wn_244_247, wn_244_248, wn_244_249, wn_244_250, wn_244_251, wn_245_243, wn_245_244, wn_245_246, wn_245_247, wn_245_248, wn_245_249, wn_245_250, wn_245_251, wn_246_243, wn_246_244, wn_246_245, wn_246_247, wn_246_248, wn_246_249, wn_246_250, wn_246_251, wn_247_243, wn_247_244, wn_247_245, wn_247_246, wn_247_248, wn_247_249, wn_247_250, wn_247_251, wn_248_243, wn_248_244, wn_248_245, wn_248_246, wn_248_247, wn_248_249, wn_248_250, wn_248_251, wn_249_243, wn_249_244, wn_249_245, wn_249_246, wn_249_247, wn_249_248, wn_249_250, wn_249_251, wn_250_243, wn_250_244, wn_250_245, wn_250_246, wn_250_247, wn_250_248, wn_250_249, wn_250_251, wn_251_243, wn_251_244, wn_251_245, wn_251_246, wn_251_247, wn_251_248, wn_251_249, wn_251_250] at hz3 ⊢
  refine j_ifneb C dX9_boatOf_6 (fun hc6 => ?_) (fun hc6 => ?_)
  · -- 6 T
    refine j_iconst C dX9_boatOf_13 ?_
    refine j_iconst C dX9_boatOf_14 ?_
    refine j_cVI2 C (c_X9_isThrown_0 (by exact hw) ⟨by omega, by omega⟩) oX9_isThrown kX9_207 ⟨_, rfl, rfl⟩ at_243 ⟨by decide, by decide⟩ rfl (Nat.le_of_ble_eq_true rfl) ⟨by decide, by decide⟩ dX9_boatOf_15 ?_
    rintro _ _ hz15 ⟨rfl, rfl⟩
    try simp only [wi_wf, wf_same, wf_wf, tM0, tM1, tM2, tM3, tM4, tM5, tM6, tB0, tB1, tB2, tB3, tB4, tB5, tB6, tL0, tL1, tL2, up_up, wn_243_244, wn_243_245, wn_243_246, wn_243_247, wn_243_248, wn_243_249, wn_243_250, wn_243_251, wn_244_243, wn_244_245, wn_244_246, wn_244_247, wn_244_248, wn_244_249, wn_244_250, wn_244_251, wn_245_243, wn_245_244, wn_245_246, wn_245_247, wn_245_248, wn_245_249, wn_245_250, wn_245_251, wn_246_243, wn_246_244, wn_246_245, wn_246_247, wn_246_248, wn_246_249, wn_246_250, wn_246_251, wn_247_243, wn_247_244, wn_247_245, wn_247_246, wn_247_248, wn_247_249, wn_247_250, wn_247_251, wn_248_243, wn_248_244, wn_248_245, wn_248_246, wn_248_247, wn_248_249, wn_248_250, wn_248_251, wn_249_243, wn_249_244, wn_249_245, wn_249_246, wn_249_247, wn_249_248, wn_249_250, wn_249_251, wn_250_243, wn_250_244, wn_250_245, wn_250_246, wn_250_247, wn_250_248, wn_250_249, wn_250_251, wn_251_243, wn_251_244, wn_251_245, wn_251_246, wn_251_247, wn_251_248, wn_251_249, wn_251_250] at hz15 ⊢
    refine j_if_ne C (by decide) dX9_boatOf_18 (fun hc => absurd hc (by decide)) (fun _ => ?_)
    refine j_aload0 C dX9_boatOf_21 ?_
    refine j_iload2 C dX9_boatOf_22 ?_
    refine j_iconst C dX9_boatOf_23 ?_
    refine j_bipush C (by decide) dX9_boatOf_24 ?_
    refine j_cSI3 C (c_X9_isIn ⟨by omega, by omega⟩ ⟨by omega, by omega⟩ ⟨by omega, by omega⟩) oX9_isIn kX9_60 ⟨by decide, by decide⟩ rfl (Nat.le_of_ble_eq_true rfl) ⟨by decide, by decide⟩ dX9_boatOf_26 ?_
    rintro _ _ hz26 ⟨rfl, rfl⟩
    try simp only [wi_wf, wf_same, wf_wf, tM0, tM1, tM2, tM3, tM4, tM5, tM6, tB0, tB1, tB2, tB3, tB4, tB5, tB6, tL0, tL1, tL2, up_up, wn_243_244, wn_243_245, wn_243_246, wn_243_247, wn_243_248, wn_243_249, wn_243_250, wn_243_251, wn_244_243, wn_244_245, wn_244_246, wn_244_247, wn_244_248, wn_244_249, wn_244_250, wn_244_251, wn_245_243, wn_245_244, wn_245_246, wn_245_247, wn_245_248, wn_245_249, wn_245_250, wn_245_251, wn_246_243, wn_246_244, wn_246_245, wn_246_247, wn_246_248, wn_246_249, wn_246_250, wn_246_251, wn_247_243, wn_247_244, wn_247_245, wn_247_246, wn_247_248, wn_247_249, wn_247_250, wn_247_251, wn_248_243, wn_248_244, wn_248_245, wn_248_246, wn_248_247, wn_248_249, wn_248_250, wn_248_251, wn_249_243, wn_249_244, wn_249_245, wn_249_246, wn_249_247, wn_249_248, wn_249_250, wn_249_251, wn_250_243, wn_250_244, wn_250_245, wn_250_246, wn_250_247, wn_250_248, wn_250_249, wn_250_251, wn_251_243, wn_251_244, wn_251_245, wn_251_246, wn_251_247, wn_251_248, wn_251_249, wn_251_250] at hz26 ⊢
    refine j_ifneb C dX9_boatOf_29 (fun hc29 => ?_) (fun hc29 => ?_)
    · -- 29 T
      refine j_iconst C dX9_boatOf_36 ?_
      refine j_iconst C dX9_boatOf_37 ?_
      refine j_cVI2 C (c_X9_isThrown_0 (by exact hw) ⟨by omega, by omega⟩) oX9_isThrown kX9_207 ⟨_, rfl, rfl⟩ at_243 ⟨by decide, by decide⟩ rfl (Nat.le_of_ble_eq_true rfl) ⟨by decide, by decide⟩ dX9_boatOf_38 ?_
      rintro _ _ hz38 ⟨rfl, rfl⟩
      try simp only [wi_wf, wf_same, wf_wf, tM0, tM1, tM2, tM3, tM4, tM5, tM6, tB0, tB1, tB2, tB3, tB4, tB5, tB6, tL0, tL1, tL2, up_up, wn_243_244, wn_243_245, wn_243_246, wn_243_247, wn_243_248, wn_243_249, wn_243_250, wn_243_251, wn_244_243, wn_244_245, wn_244_246, wn_244_247, wn_244_248, wn_244_249, wn_244_250, wn_244_251, wn_245_243, wn_245_244, wn_245_246, wn_245_247, wn_245_248, wn_245_249, wn_245_250, wn_245_251, wn_246_243, wn_246_244, wn_246_245, wn_246_247, wn_246_248, wn_246_249, wn_246_250, wn_246_251, wn_247_243, wn_247_244, wn_247_245, wn_247_246, wn_247_248, wn_247_249, wn_247_250, wn_247_251, wn_248_243, wn_248_244, wn_248_245, wn_248_246, wn_248_247, wn_248_249, wn_248_250, wn_248_251, wn_249_243, wn_249_244, wn_249_245, wn_249_246, wn_249_247, wn_249_248, wn_249_250, wn_249_251, wn_250_243, wn_250_244, wn_250_245, wn_250_246, wn_250_247, wn_250_248, wn_250_249, wn_250_251, wn_251_243, wn_251_244, wn_251_245, wn_251_246, wn_251_247, wn_251_248, wn_251_249, wn_251_250] at hz38 ⊢
      refine j_if_eq C (by decide) dX9_boatOf_41 (fun _ => ?_) (fun hc => absurd hc (by decide))
      refine j_aload0 C dX9_boatOf_46 ?_
      refine j_iload1 C dX9_boatOf_47 ?_
      refine j_iload2 C dX9_boatOf_48 ?_
      refine j_cVI2 C (c_X9_ofBoat (by exact hw) (by omega) (by omega)) oX9_ofBoat kX9_72 ⟨_, rfl, rfl⟩ at_243 ⟨by decide, by decide⟩ rfl (Nat.le_of_ble_eq_true rfl) ⟨by decide, by decide⟩ dX9_boatOf_49 ?_
      rintro _ _ hz49 ⟨rfl, rfl⟩
      try simp only [wi_wf, wf_same, wf_wf, tM0, tM1, tM2, tM3, tM4, tM5, tM6, tB0, tB1, tB2, tB3, tB4, tB5, tB6, tL0, tL1, tL2, up_up, wn_243_244, wn_243_245, wn_243_246, wn_243_247, wn_243_248, wn_243_249, wn_243_250, wn_243_251, wn_244_243, wn_244_245, wn_244_246, wn_244_247, wn_244_248, wn_244_249, wn_244_250, wn_244_251, wn_245_243, wn_245_244, wn_245_246, wn_245_247, wn_245_248, wn_245_249, wn_245_250, wn_245_251, wn_246_243, wn_246_244, wn_246_245, wn_246_247, wn_246_248, wn_246_249, wn_246_250, wn_246_251, wn_247_243, wn_247_244, wn_247_245, wn_247_246, wn_247_248, wn_247_249, wn_247_250, wn_247_251, wn_248_243, wn_248_244, wn_248_245, wn_248_246, wn_248_247, wn_248_249, wn_248_250, wn_248_251, wn_249_243, wn_249_244, wn_249_245, wn_249_246, wn_249_247, wn_249_248, wn_249_250, wn_249_251, wn_250_243, wn_250_244, wn_250_245, wn_250_246, wn_250_247, wn_250_248, wn_250_249, wn_250_251, wn_251_243, wn_251_244, wn_251_245, wn_251_246, wn_251_247, wn_251_248, wn_251_249, wn_251_250] at hz49 ⊢
      refine j_iret C hrt dX9_boatOf_52 ⟨by omega, by omega⟩ ?_
      refine ⟨?_, ?_⟩
      · simp only [qBoat]
        repeat (first | rw [if_pos (by omega)] | rw [if_neg (by omega)])
      · simp only [qBoat]
        repeat (first | rw [if_pos (by omega)] | rw [if_neg (by omega)])
    · -- 29 F
      refine j_iconst C dX9_boatOf_32 ?_
      refine j_goto C dX9_boatOf_33 ?_
      refine j_iconst C dX9_boatOf_37 ?_
      refine j_cVI2 C (c_X9_isThrown_1 (by exact hw) ⟨by omega, by omega⟩) oX9_isThrown kX9_207 ⟨_, rfl, rfl⟩ at_243 ⟨by decide, by decide⟩ rfl (Nat.le_of_ble_eq_true rfl) ⟨by decide, by decide⟩ dX9_boatOf_38 ?_
      rintro _ _ hz38 ⟨rfl, rfl⟩
      try simp only [wi_wf, wf_same, wf_wf, tM0, tM1, tM2, tM3, tM4, tM5, tM6, tB0, tB1, tB2, tB3, tB4, tB5, tB6, tL0, tL1, tL2, up_up, wn_243_244, wn_243_245, wn_243_246, wn_243_247, wn_243_248, wn_243_249, wn_243_250, wn_243_251, wn_244_243, wn_244_245, wn_244_246, wn_244_247, wn_244_248, wn_244_249, wn_244_250, wn_244_251, wn_245_243, wn_245_244, wn_245_246, wn_245_247, wn_245_248, wn_245_249, wn_245_250, wn_245_251, wn_246_243, wn_246_244, wn_246_245, wn_246_247, wn_246_248, wn_246_249, wn_246_250, wn_246_251, wn_247_243, wn_247_244, wn_247_245, wn_247_246, wn_247_248, wn_247_249, wn_247_250, wn_247_251, wn_248_243, wn_248_244, wn_248_245, wn_248_246, wn_248_247, wn_248_249, wn_248_250, wn_248_251, wn_249_243, wn_249_244, wn_249_245, wn_249_246, wn_249_247, wn_249_248, wn_249_250, wn_249_251, wn_250_243, wn_250_244, wn_250_245, wn_250_246, wn_250_247, wn_250_248, wn_250_249, wn_250_251, wn_251_243, wn_251_244, wn_251_245, wn_251_246, wn_251_247, wn_251_248, wn_251_249, wn_251_250] at hz38 ⊢
      refine j_if_eq C (by decide) dX9_boatOf_41 (fun hc => absurd hc (by decide)) (fun _ => ?_)
      refine j_iconst C dX9_boatOf_44 ?_
      refine j_iret C hrt dX9_boatOf_45 ⟨by omega, by omega⟩ ?_
      refine ⟨?_, ?_⟩
      · simp only [qBoat]
        repeat (first | rw [if_pos (by omega)] | rw [if_neg (by omega)])
      · simp only [qBoat]
        repeat (first | rw [if_pos (by omega)] | rw [if_neg (by omega)])
  · -- 6 F
    refine j_iconst C dX9_boatOf_9 ?_
    refine j_goto C dX9_boatOf_10 ?_
    refine j_iconst C dX9_boatOf_14 ?_
    refine j_cVI2 C (c_X9_isThrown_1 (by exact hw) ⟨by omega, by omega⟩) oX9_isThrown kX9_207 ⟨_, rfl, rfl⟩ at_243 ⟨by decide, by decide⟩ rfl (Nat.le_of_ble_eq_true rfl) ⟨by decide, by decide⟩ dX9_boatOf_15 ?_
    rintro _ _ hz15 ⟨rfl, rfl⟩
    try simp only [wi_wf, wf_same, wf_wf, tM0, tM1, tM2, tM3, tM4, tM5, tM6, tB0, tB1, tB2, tB3, tB4, tB5, tB6, tL0, tL1, tL2, up_up, wn_243_244, wn_243_245, wn_243_246, wn_243_247, wn_243_248, wn_243_249, wn_243_250, wn_243_251, wn_244_243, wn_244_245, wn_244_246, wn_244_247, wn_244_248, wn_244_249, wn_244_250, wn_244_251, wn_245_243, wn_245_244, wn_245_246, wn_245_247, wn_245_248, wn_245_249, wn_245_250, wn_245_251, wn_246_243, wn_246_244, wn_246_245, wn_246_247, wn_246_248, wn_246_249, wn_246_250, wn_246_251, wn_247_243, wn_247_244, wn_247_245, wn_247_246, wn_247_248, wn_247_249, wn_247_250, wn_247_251, wn_248_243, wn_248_244, wn_248_245, wn_248_246, wn_248_247, wn_248_249, wn_248_250, wn_248_251, wn_249_243, wn_249_244, wn_249_245, wn_249_246, wn_249_247, wn_249_248, wn_249_250, wn_249_251, wn_250_243, wn_250_244, wn_250_245, wn_250_246, wn_250_247, wn_250_248, wn_250_249, wn_250_251, wn_251_243, wn_251_244, wn_251_245, wn_251_246, wn_251_247, wn_251_248, wn_251_249, wn_251_250] at hz15 ⊢
    refine j_if_ne C (by decide) dX9_boatOf_18 (fun _ => ?_) (fun hc => absurd hc (by decide))
    refine j_iconst C dX9_boatOf_44 ?_
    refine j_iret C hrt dX9_boatOf_45 ⟨by omega, by omega⟩ ?_
    refine ⟨?_, ?_⟩
    · simp only [qBoat]
      repeat (first | rw [if_pos (by omega)] | rw [if_neg (by omega)])
    · simp only [qBoat]
      repeat (first | rw [if_pos (by omega)] | rw [if_neg (by omega)])
set_option maxRecDepth 100000 in
set_option maxHeartbeats 4000000 in
theorem c_X9_loanOf {Γ : Ga} {l : Launch} {ω : Wo} (hw : WM ω.2.1) {M : Int} (hI : RI M (ω.1 244))  {a b : Int} (ha : Rg a) (hb : Rg b) : CI Γ l yX9_loanOf cX9_loanOf 3 .int 2 [.ref (rl Γ 243), .int (iI a), .int (iI b)] ω (fun z ω' => z = (qLoan (ω.1 244) a b).2 ∧ ω' = wf ω 243 (up (ω.1 243) 6 (qLoan (ω.1 244) a b).1)) := by
  refine Met.ofJ (k := 0) [some (.ref (rl Γ 243)), some (.int (iI a)), some (.int (iI b))] (by decide) rfl rfl rfl (fun p e s mm args below meth c C hrt => ?_)
  have g := hI.s
  have gc := hI.c
  refine j_aload0 C dX9_loanOf_0 ?_
  refine j_aload0 C dX9_loanOf_1 ?_
  refine j_iload1 C dX9_loanOf_2 ?_
  refine j_cVI1 C (c_X9_isLoan (by exact hw) ⟨by omega, by omega⟩ (by exact hI)) oX9_isLoan kX9_173 ⟨_, rfl, rfl⟩ at_243 ⟨by decide, by decide⟩ rfl (Nat.le_of_ble_eq_true rfl) ⟨by decide, by decide⟩ dX9_loanOf_3 ?_
  rintro _ _ hz3 ⟨rfl, rfl⟩
  try simp only [wi_wf, wf_same, wf_wf, tM0, tM1, tM2, tM3, tM4, tM5, tM6, tB0, tB1, tB2, tB3, tB4, tB5, tB6, tL0, tL1, tL2, up_up, wn_243_244, wn_243_245, wn_243_246, wn_243_247, wn_243_248, wn_243_249, wn_243_250, wn_243_251, wn_244_243, wn_244_245, wn_244_246, wn_244_247, wn_244_248, wn_244_249, wn_244_250, wn_244_251, wn_245_243, wn_245_244, wn_245_246, wn_245_247, wn_245_248, wn_245_249, wn_245_250, wn_245_251, wn_246_243, wn_246_244, wn_246_245, wn_246_247, wn_246_248, wn_246_249, wn_246_250, wn_246_251, wn_247_243, wn_247_244, wn_247_245, wn_247_246, wn_247_248, wn_247_249, wn_247_250, wn_247_251, wn_248_243, wn_248_244, wn_248_245, wn_248_246, wn_248_247, wn_248_249, wn_248_250, wn_248_251, wn_249_243, wn_249_244, wn_249_245, wn_249_246, wn_249_247, wn_249_248, wn_249_250, wn_249_251, wn_250_243, wn_250_244, wn_250_245, wn_250_246, wn_250_247, wn_250_248, wn_250_249, wn_250_251, wn_251_243, wn_251_244, wn_251_245, wn_251_246, wn_251_247, wn_251_248, wn_251_249, wn_251_250] at hz3 ⊢
  refine j_ifneb C dX9_loanOf_6 (fun hc6 => ?_) (fun hc6 => ?_)
  · -- 6 T
    refine j_iconst C dX9_loanOf_13 ?_
    refine j_iconst C dX9_loanOf_14 ?_
    refine j_cVI2 C (c_X9_isThrown_0 (by exact hw) ⟨by omega, by omega⟩) oX9_isThrown kX9_207 ⟨_, rfl, rfl⟩ at_243 ⟨by decide, by decide⟩ rfl (Nat.le_of_ble_eq_true rfl) ⟨by decide, by decide⟩ dX9_loanOf_15 ?_
    rintro _ _ hz15 ⟨rfl, rfl⟩
    try simp only [wi_wf, wf_same, wf_wf, tM0, tM1, tM2, tM3, tM4, tM5, tM6, tB0, tB1, tB2, tB3, tB4, tB5, tB6, tL0, tL1, tL2, up_up, wn_243_244, wn_243_245, wn_243_246, wn_243_247, wn_243_248, wn_243_249, wn_243_250, wn_243_251, wn_244_243, wn_244_245, wn_244_246, wn_244_247, wn_244_248, wn_244_249, wn_244_250, wn_244_251, wn_245_243, wn_245_244, wn_245_246, wn_245_247, wn_245_248, wn_245_249, wn_245_250, wn_245_251, wn_246_243, wn_246_244, wn_246_245, wn_246_247, wn_246_248, wn_246_249, wn_246_250, wn_246_251, wn_247_243, wn_247_244, wn_247_245, wn_247_246, wn_247_248, wn_247_249, wn_247_250, wn_247_251, wn_248_243, wn_248_244, wn_248_245, wn_248_246, wn_248_247, wn_248_249, wn_248_250, wn_248_251, wn_249_243, wn_249_244, wn_249_245, wn_249_246, wn_249_247, wn_249_248, wn_249_250, wn_249_251, wn_250_243, wn_250_244, wn_250_245, wn_250_246, wn_250_247, wn_250_248, wn_250_249, wn_250_251, wn_251_243, wn_251_244, wn_251_245, wn_251_246, wn_251_247, wn_251_248, wn_251_249, wn_251_250] at hz15 ⊢
    refine j_if_ne C (by decide) dX9_loanOf_18 (fun hc => absurd hc (by decide)) (fun _ => ?_)
    refine j_aload0 C dX9_loanOf_21 ?_
    refine j_iload2 C dX9_loanOf_22 ?_
    refine j_iconst C dX9_loanOf_23 ?_
    refine j_iconst C dX9_loanOf_24 ?_
    refine j_cSI3 C (c_X9_isIn ⟨by omega, by omega⟩ ⟨by omega, by omega⟩ ⟨by omega, by omega⟩) oX9_isIn kX9_60 ⟨by decide, by decide⟩ rfl (Nat.le_of_ble_eq_true rfl) ⟨by decide, by decide⟩ dX9_loanOf_25 ?_
    rintro _ _ hz25 ⟨rfl, rfl⟩
    try simp only [wi_wf, wf_same, wf_wf, tM0, tM1, tM2, tM3, tM4, tM5, tM6, tB0, tB1, tB2, tB3, tB4, tB5, tB6, tL0, tL1, tL2, up_up, wn_243_244, wn_243_245, wn_243_246, wn_243_247, wn_243_248, wn_243_249, wn_243_250, wn_243_251, wn_244_243, wn_244_245, wn_244_246, wn_244_247, wn_244_248, wn_244_249, wn_244_250, wn_244_251, wn_245_243, wn_245_244, wn_245_246, wn_245_247, wn_245_248, wn_245_249, wn_245_250, wn_245_251, wn_246_243, wn_246_244, wn_246_245, wn_246_247, wn_246_248, wn_246_249, wn_246_250, wn_246_251, wn_247_243, wn_247_244, wn_247_245, wn_247_246, wn_247_248, wn_247_249, wn_247_250, wn_247_251, wn_248_243, wn_248_244, wn_248_245, wn_248_246, wn_248_247, wn_248_249, wn_248_250, wn_248_251, wn_249_243, wn_249_244, wn_249_245, wn_249_246, wn_249_247, wn_249_248, wn_249_250, wn_249_251, wn_250_243, wn_250_244, wn_250_245, wn_250_246, wn_250_247, wn_250_248, wn_250_249, wn_250_251, wn_251_243, wn_251_244, wn_251_245, wn_251_246, wn_251_247, wn_251_248, wn_251_249, wn_251_250] at hz25 ⊢
    refine j_ifneb C dX9_loanOf_28 (fun hc28 => ?_) (fun hc28 => ?_)
    · -- 28 T
      refine j_iconst C dX9_loanOf_35 ?_
      refine j_iconst C dX9_loanOf_36 ?_
      refine j_cVI2 C (c_X9_isThrown_0 (by exact hw) ⟨by omega, by omega⟩) oX9_isThrown kX9_207 ⟨_, rfl, rfl⟩ at_243 ⟨by decide, by decide⟩ rfl (Nat.le_of_ble_eq_true rfl) ⟨by decide, by decide⟩ dX9_loanOf_37 ?_
      rintro _ _ hz37 ⟨rfl, rfl⟩
      try simp only [wi_wf, wf_same, wf_wf, tM0, tM1, tM2, tM3, tM4, tM5, tM6, tB0, tB1, tB2, tB3, tB4, tB5, tB6, tL0, tL1, tL2, up_up, wn_243_244, wn_243_245, wn_243_246, wn_243_247, wn_243_248, wn_243_249, wn_243_250, wn_243_251, wn_244_243, wn_244_245, wn_244_246, wn_244_247, wn_244_248, wn_244_249, wn_244_250, wn_244_251, wn_245_243, wn_245_244, wn_245_246, wn_245_247, wn_245_248, wn_245_249, wn_245_250, wn_245_251, wn_246_243, wn_246_244, wn_246_245, wn_246_247, wn_246_248, wn_246_249, wn_246_250, wn_246_251, wn_247_243, wn_247_244, wn_247_245, wn_247_246, wn_247_248, wn_247_249, wn_247_250, wn_247_251, wn_248_243, wn_248_244, wn_248_245, wn_248_246, wn_248_247, wn_248_249, wn_248_250, wn_248_251, wn_249_243, wn_249_244, wn_249_245, wn_249_246, wn_249_247, wn_249_248, wn_249_250, wn_249_251, wn_250_243, wn_250_244, wn_250_245, wn_250_246, wn_250_247, wn_250_248, wn_250_249, wn_250_251, wn_251_243, wn_251_244, wn_251_245, wn_251_246, wn_251_247, wn_251_248, wn_251_249, wn_251_250] at hz37 ⊢
      refine j_if_eq C (by decide) dX9_loanOf_40 (fun _ => ?_) (fun hc => absurd hc (by decide))
      refine j_aload0 C dX9_loanOf_45 ?_
      refine j_iload1 C dX9_loanOf_46 ?_
      refine j_iload2 C dX9_loanOf_47 ?_
      refine j_cVI2 C (c_X9_ofLoan (by exact hw) (by omega) (by omega)) oX9_ofLoan kX9_76 ⟨_, rfl, rfl⟩ at_243 ⟨by decide, by decide⟩ rfl (Nat.le_of_ble_eq_true rfl) ⟨by decide, by decide⟩ dX9_loanOf_48 ?_
      rintro _ _ hz48 ⟨rfl, rfl⟩
      try simp only [wi_wf, wf_same, wf_wf, tM0, tM1, tM2, tM3, tM4, tM5, tM6, tB0, tB1, tB2, tB3, tB4, tB5, tB6, tL0, tL1, tL2, up_up, wn_243_244, wn_243_245, wn_243_246, wn_243_247, wn_243_248, wn_243_249, wn_243_250, wn_243_251, wn_244_243, wn_244_245, wn_244_246, wn_244_247, wn_244_248, wn_244_249, wn_244_250, wn_244_251, wn_245_243, wn_245_244, wn_245_246, wn_245_247, wn_245_248, wn_245_249, wn_245_250, wn_245_251, wn_246_243, wn_246_244, wn_246_245, wn_246_247, wn_246_248, wn_246_249, wn_246_250, wn_246_251, wn_247_243, wn_247_244, wn_247_245, wn_247_246, wn_247_248, wn_247_249, wn_247_250, wn_247_251, wn_248_243, wn_248_244, wn_248_245, wn_248_246, wn_248_247, wn_248_249, wn_248_250, wn_248_251, wn_249_243, wn_249_244, wn_249_245, wn_249_246, wn_249_247, wn_249_248, wn_249_250, wn_249_251, wn_250_243, wn_250_244, wn_250_245, wn_250_246, wn_250_247, wn_250_248, wn_250_249, wn_250_251, wn_251_243, wn_251_244, wn_251_245, wn_251_246, wn_251_247, wn_251_248, wn_251_249, wn_251_250] at hz48 ⊢
      refine j_iret C hrt dX9_loanOf_51 ⟨by omega, by omega⟩ ?_
      refine ⟨?_, ?_⟩
      · simp only [qLoan]
        repeat (first | rw [if_pos (by omega)] | rw [if_neg (by omega)])
      · simp only [qLoan]
        repeat (first | rw [if_pos (by omega)] | rw [if_neg (by omega)])
    · -- 28 F
      refine j_iconst C dX9_loanOf_31 ?_
      refine j_goto C dX9_loanOf_32 ?_
      refine j_iconst C dX9_loanOf_36 ?_
      refine j_cVI2 C (c_X9_isThrown_1 (by exact hw) ⟨by omega, by omega⟩) oX9_isThrown kX9_207 ⟨_, rfl, rfl⟩ at_243 ⟨by decide, by decide⟩ rfl (Nat.le_of_ble_eq_true rfl) ⟨by decide, by decide⟩ dX9_loanOf_37 ?_
      rintro _ _ hz37 ⟨rfl, rfl⟩
      try simp only [wi_wf, wf_same, wf_wf, tM0, tM1, tM2, tM3, tM4, tM5, tM6, tB0, tB1, tB2, tB3, tB4, tB5, tB6, tL0, tL1, tL2, up_up, wn_243_244, wn_243_245, wn_243_246, wn_243_247, wn_243_248, wn_243_249, wn_243_250, wn_243_251, wn_244_243, wn_244_245, wn_244_246, wn_244_247, wn_244_248, wn_244_249, wn_244_250, wn_244_251, wn_245_243, wn_245_244, wn_245_246, wn_245_247, wn_245_248, wn_245_249, wn_245_250, wn_245_251, wn_246_243, wn_246_244, wn_246_245, wn_246_247, wn_246_248, wn_246_249, wn_246_250, wn_246_251, wn_247_243, wn_247_244, wn_247_245, wn_247_246, wn_247_248, wn_247_249, wn_247_250, wn_247_251, wn_248_243, wn_248_244, wn_248_245, wn_248_246, wn_248_247, wn_248_249, wn_248_250, wn_248_251, wn_249_243, wn_249_244, wn_249_245, wn_249_246, wn_249_247, wn_249_248, wn_249_250, wn_249_251, wn_250_243, wn_250_244, wn_250_245, wn_250_246, wn_250_247, wn_250_248, wn_250_249, wn_250_251, wn_251_243, wn_251_244, wn_251_245, wn_251_246, wn_251_247, wn_251_248, wn_251_249, wn_251_250] at hz37 ⊢
      refine j_if_eq C (by decide) dX9_loanOf_40 (fun hc => absurd hc (by decide)) (fun _ => ?_)
      refine j_iconst C dX9_loanOf_43 ?_
      refine j_iret C hrt dX9_loanOf_44 ⟨by omega, by omega⟩ ?_
      refine ⟨?_, ?_⟩
      · simp only [qLoan]
        repeat (first | rw [if_pos (by omega)] | rw [if_neg (by omega)])
      · simp only [qLoan]
        repeat (first | rw [if_pos (by omega)] | rw [if_neg (by omega)])
  · -- 6 F
    refine j_iconst C dX9_loanOf_9 ?_
    refine j_goto C dX9_loanOf_10 ?_
    refine j_iconst C dX9_loanOf_14 ?_
    refine j_cVI2 C (c_X9_isThrown_1 (by exact hw) ⟨by omega, by omega⟩) oX9_isThrown kX9_207 ⟨_, rfl, rfl⟩ at_243 ⟨by decide, by decide⟩ rfl (Nat.le_of_ble_eq_true rfl) ⟨by decide, by decide⟩ dX9_loanOf_15 ?_
    rintro _ _ hz15 ⟨rfl, rfl⟩
    try simp only [wi_wf, wf_same, wf_wf, tM0, tM1, tM2, tM3, tM4, tM5, tM6, tB0, tB1, tB2, tB3, tB4, tB5, tB6, tL0, tL1, tL2, up_up, wn_243_244, wn_243_245, wn_243_246, wn_243_247, wn_243_248, wn_243_249, wn_243_250, wn_243_251, wn_244_243, wn_244_245, wn_244_246, wn_244_247, wn_244_248, wn_244_249, wn_244_250, wn_244_251, wn_245_243, wn_245_244, wn_245_246, wn_245_247, wn_245_248, wn_245_249, wn_245_250, wn_245_251, wn_246_243, wn_246_244, wn_246_245, wn_246_247, wn_246_248, wn_246_249, wn_246_250, wn_246_251, wn_247_243, wn_247_244, wn_247_245, wn_247_246, wn_247_248, wn_247_249, wn_247_250, wn_247_251, wn_248_243, wn_248_244, wn_248_245, wn_248_246, wn_248_247, wn_248_249, wn_248_250, wn_248_251, wn_249_243, wn_249_244, wn_249_245, wn_249_246, wn_249_247, wn_249_248, wn_249_250, wn_249_251, wn_250_243, wn_250_244, wn_250_245, wn_250_246, wn_250_247, wn_250_248, wn_250_249, wn_250_251, wn_251_243, wn_251_244, wn_251_245, wn_251_246, wn_251_247, wn_251_248, wn_251_249, wn_251_250] at hz15 ⊢
    refine j_if_ne C (by decide) dX9_loanOf_18 (fun _ => ?_) (fun hc => absurd hc (by decide))
    refine j_iconst C dX9_loanOf_43 ?_
    refine j_iret C hrt dX9_loanOf_44 ⟨by omega, by omega⟩ ?_
    refine ⟨?_, ?_⟩
    · simp only [qLoan]
      repeat (first | rw [if_pos (by omega)] | rw [if_neg (by omega)])
    · simp only [qLoan]
      repeat (first | rw [if_pos (by omega)] | rw [if_neg (by omega)])
set_option maxRecDepth 100000 in
set_option maxHeartbeats 4000000 in
theorem c_X9_crewOf {Γ : Ga} {l : Launch} {ω : Wo} (hw : WM ω.2.1)  {b : Int} (hb : Rg b) {M : Int} (hI : RI M (ω.1 244)) : CI Γ l yX9_crewOf cX9_crewOf 4 .int 1 [.ref (rl Γ 243), .int (iI b)] ω (fun z ω' => z = (crewO (ω.1 244) b : Int) ∧ ω = ω') := by
  refine Met.ofJ (k := 2) [some (.ref (rl Γ 243)), some (.int (iI b)), none, none] (by decide) rfl rfl rfl (fun p e s mm args below meth c C hrt => ?_)
  have g := hI.s
  have gc := hI.c
  refine j_iconst C dX9_crewOf_0 ?_
  refine j_istore2 C rfl dX9_crewOf_1 ?_
  refine j_iconst C dX9_crewOf_2 ?_
  refine j_istore3 C rfl dX9_crewOf_3 ?_
  have loop4 : ∀ (N : Nat) (k : Nat), (cM (ω.1 244) - k) < N → (k ≤ cM (ω.1 244)) → J Γ p l e (rmk 1 0 0) s mm args below meth c (MQ below (QI Γ (fun z ω' => z = (crewO (ω.1 244) b : Int) ∧ ω = ω')) args s 0 0 (gA Γ)) 254 0 0 4 [some (.ref (rl Γ 243)), some (.int (iI b)), some (.int (iI ((crewUp (ω.1 244) b k : Nat) : Int))), some (.int (iI ((k : Nat) : Int)))] [] ω := by
    intro N
    induction N with
    | zero => intro k hN; exact absurd hN (Nat.not_lt_zero _)
    | succ N ih4 =>
      intro k hN hi0
      have gl := hI.m k
      have go := fun h => crewUp_lt2 hI b (n := k) h
      refine j_iload3 C dX9_crewOf_4 ?_
      refine j_aload0 C dX9_crewOf_5 ?_
      refine j_getr C fX9_9 at_243 rfl hw.r0 dX9_crewOf_6 ?_
      refine j_iconst C dX9_crewOf_9 ?_
      refine j_ialdK C at_244 ⟨rfl, rfl⟩ (N := 111) rfl (by decide) (k := 1) rfl (by decide) dX9_crewOf_10 (fun hr10 => ?_)
      try simp only [wf_same, wn_243_244, wn_243_245, wn_243_246, wn_243_247, wn_243_248, wn_243_249, wn_243_250, wn_243_251, wn_244_243, wn_244_245, wn_244_246, wn_244_247, wn_244_248, wn_244_249, wn_244_250, wn_244_251, wn_245_243, wn_245_244, wn_245_246, wn_245_247, wn_245_248, wn_245_249, wn_245_250, wn_245_251, wn_246_243, wn_246_244, wn_246_245, wn_246_247, wn_246_248, wn_246_249, wn_246_250, wn_246_251, wn_247_243, wn_247_244, wn_247_245, wn_247_246, wn_247_248, wn_247_249, wn_247_250, wn_247_251, wn_248_243, wn_248_244, wn_248_245, wn_248_246, wn_248_247, wn_248_249, wn_248_250, wn_248_251, wn_249_243, wn_249_244, wn_249_245, wn_249_246, wn_249_247, wn_249_248, wn_249_250, wn_249_251, wn_250_243, wn_250_244, wn_250_245, wn_250_246, wn_250_247, wn_250_248, wn_250_249, wn_250_251, wn_251_243, wn_251_244, wn_251_245, wn_251_246, wn_251_247, wn_251_248, wn_251_249, wn_251_250] at hr10 ⊢
      refine j_icmp_ge C ⟨by omega, by omega⟩ ⟨by omega, by omega⟩ dX9_crewOf_11 (fun hc11 => ?_) (fun hc11 => ?_)
      · -- 11 T
        refine j_iload2 C dX9_crewOf_50 ?_
        refine j_iret C hrt dX9_crewOf_51 ⟨by omega, by omega⟩ ?_
        have : k = cM (ω.1 244) := by omega
        subst this
        exact ⟨rfl, rfl⟩
      · -- 11 F
        refine j_iload2 C dX9_crewOf_14 ?_
        refine j_aload0 C dX9_crewOf_15 ?_
        refine j_iload3 C dX9_crewOf_16 ?_
        refine j_iconst C dX9_crewOf_17 ?_
        refine j_cVI2 C (c_X9_of (by exact hw) (by omega) (by omega)) oX9_of kX9_103 ⟨_, rfl, rfl⟩ at_243 ⟨by decide, by decide⟩ rfl (Nat.le_of_ble_eq_true rfl) ⟨by decide, by decide⟩ dX9_crewOf_18 ?_
        rintro _ _ hz18 ⟨rfl, rfl⟩
        try simp only [wi_wf, wf_same, wf_wf, tM0, tM1, tM2, tM3, tM4, tM5, tM6, tB0, tB1, tB2, tB3, tB4, tB5, tB6, tL0, tL1, tL2, up_up, wn_243_244, wn_243_245, wn_243_246, wn_243_247, wn_243_248, wn_243_249, wn_243_250, wn_243_251, wn_244_243, wn_244_245, wn_244_246, wn_244_247, wn_244_248, wn_244_249, wn_244_250, wn_244_251, wn_245_243, wn_245_244, wn_245_246, wn_245_247, wn_245_248, wn_245_249, wn_245_250, wn_245_251, wn_246_243, wn_246_244, wn_246_245, wn_246_247, wn_246_248, wn_246_249, wn_246_250, wn_246_251, wn_247_243, wn_247_244, wn_247_245, wn_247_246, wn_247_248, wn_247_249, wn_247_250, wn_247_251, wn_248_243, wn_248_244, wn_248_245, wn_248_246, wn_248_247, wn_248_249, wn_248_250, wn_248_251, wn_249_243, wn_249_244, wn_249_245, wn_249_246, wn_249_247, wn_249_248, wn_249_250, wn_249_251, wn_250_243, wn_250_244, wn_250_245, wn_250_246, wn_250_247, wn_250_248, wn_250_249, wn_250_251, wn_251_243, wn_251_244, wn_251_245, wn_251_246, wn_251_247, wn_251_248, wn_251_249, wn_251_250] at hz18 ⊢
        refine j_iconst C dX9_crewOf_21 ?_
        refine j_icmp_ne C ⟨by omega, by omega⟩ ⟨by omega, by omega⟩ dX9_crewOf_22 (fun hc22 => ?_) (fun hc22 => ?_)
        · -- 22 T
          refine j_iconstN C (k := 0) rfl dX9_crewOf_41 ?_
          refine j_ior C dX9_crewOf_42 ?_
          refine j_istore2 C rfl dX9_crewOf_43 ?_
          refine j_iinc3n C rfl dX9_crewOf_44 ?_
          refine j_goto C dX9_crewOf_47 ?_
          exact j_fg (ih4 (k + 1) (by omega) (by omega)) ⟨Or.inr rfl, Or.inr rfl, Or.inr (sN (by simp only [crewUp]; first | rw [if_pos (by omega)] | rw [if_neg (by omega)])), Or.inr rfl, trivial⟩ rfl
        · -- 22 F
          refine j_aload0 C dX9_crewOf_25 ?_
          refine j_iload3 C dX9_crewOf_26 ?_
          refine j_iconst C dX9_crewOf_27 ?_
          refine j_cVI2 C (c_X9_of (by exact hw) (by omega) (by omega)) oX9_of kX9_103 ⟨_, rfl, rfl⟩ at_243 ⟨by decide, by decide⟩ rfl (Nat.le_of_ble_eq_true rfl) ⟨by decide, by decide⟩ dX9_crewOf_28 ?_
          rintro _ _ hz28 ⟨rfl, rfl⟩
          try simp only [wi_wf, wf_same, wf_wf, tM0, tM1, tM2, tM3, tM4, tM5, tM6, tB0, tB1, tB2, tB3, tB4, tB5, tB6, tL0, tL1, tL2, up_up, wn_243_244, wn_243_245, wn_243_246, wn_243_247, wn_243_248, wn_243_249, wn_243_250, wn_243_251, wn_244_243, wn_244_245, wn_244_246, wn_244_247, wn_244_248, wn_244_249, wn_244_250, wn_244_251, wn_245_243, wn_245_244, wn_245_246, wn_245_247, wn_245_248, wn_245_249, wn_245_250, wn_245_251, wn_246_243, wn_246_244, wn_246_245, wn_246_247, wn_246_248, wn_246_249, wn_246_250, wn_246_251, wn_247_243, wn_247_244, wn_247_245, wn_247_246, wn_247_248, wn_247_249, wn_247_250, wn_247_251, wn_248_243, wn_248_244, wn_248_245, wn_248_246, wn_248_247, wn_248_249, wn_248_250, wn_248_251, wn_249_243, wn_249_244, wn_249_245, wn_249_246, wn_249_247, wn_249_248, wn_249_250, wn_249_251, wn_250_243, wn_250_244, wn_250_245, wn_250_246, wn_250_247, wn_250_248, wn_250_249, wn_250_251, wn_251_243, wn_251_244, wn_251_245, wn_251_246, wn_251_247, wn_251_248, wn_251_249, wn_251_250] at hz28 ⊢
          refine j_iload1 C dX9_crewOf_31 ?_
          refine j_icmp_ne C ⟨by omega, by omega⟩ ⟨by omega, by omega⟩ dX9_crewOf_32 (fun hc32 => ?_) (fun hc32 => ?_)
          · -- 32 T
            refine j_iconstN C (k := 0) rfl dX9_crewOf_41 ?_
            refine j_ior C dX9_crewOf_42 ?_
            refine j_istore2 C rfl dX9_crewOf_43 ?_
            refine j_iinc3n C rfl dX9_crewOf_44 ?_
            refine j_goto C dX9_crewOf_47 ?_
            exact j_fg (ih4 (k + 1) (by omega) (by omega)) ⟨Or.inr rfl, Or.inr rfl, Or.inr (sN (by simp only [crewUp]; first | rw [if_pos (by omega)] | rw [if_neg (by omega)])), Or.inr rfl, trivial⟩ rfl
          · -- 32 F
            refine j_iconstN C (k := 1) rfl dX9_crewOf_35 ?_
            refine j_iload3 C dX9_crewOf_36 ?_
            refine j_ishl1 C (by omega) dX9_crewOf_37 ?_
            refine j_goto C dX9_crewOf_38 ?_
            refine j_ior C dX9_crewOf_42 ?_
            refine j_istore2 C rfl dX9_crewOf_43 ?_
            refine j_iinc3n C rfl dX9_crewOf_44 ?_
            refine j_goto C dX9_crewOf_47 ?_
            exact j_fg (ih4 (k + 1) (by omega) (by omega)) ⟨Or.inr rfl, Or.inr rfl, Or.inr (sN (by simp only [crewUp]; first | rw [if_pos (by omega)] | rw [if_neg (by omega)])), Or.inr rfl, trivial⟩ rfl
  exact loop4 _ 0 (Nat.lt_succ_self _) (Nat.zero_le _)
set_option maxRecDepth 100000 in
set_option maxHeartbeats 4000000 in
theorem c_X9_crew {Γ : Ga} {l : Launch} {ω : Wo} (hw : WM ω.2.1) {M : Int} (hI : RI M (ω.1 244))  {a : Int} (ha : Rg a) : CI Γ l yX9_crew cX9_crew 2 .int 2 [.ref (rl Γ 243), .int (iI a)] ω (fun z ω' => z = (qCrew (ω.1 244) a).2 ∧ ω' = wf ω 243 (up (ω.1 243) 6 (qCrew (ω.1 244) a).1)) := by
  refine Met.ofJ (k := 0) [some (.ref (rl Γ 243)), some (.int (iI a))] (by decide) rfl rfl rfl (fun p e s mm args below meth c C hrt => ?_)
  have g := hI.s
  have gc := hI.c
  have gw := crewO_lt hI a
  refine j_aload0 C dX9_crew_0 ?_
  refine j_aload0 C dX9_crew_1 ?_
  refine j_iload1 C dX9_crew_2 ?_
  refine j_cVI1 C (c_X9_isBoat (by exact hw) ⟨by omega, by omega⟩ (by exact hI)) oX9_isBoat kX9_155 ⟨_, rfl, rfl⟩ at_243 ⟨by decide, by decide⟩ rfl (Nat.le_of_ble_eq_true rfl) ⟨by decide, by decide⟩ dX9_crew_3 ?_
  rintro _ _ hz3 ⟨rfl, rfl⟩
  try simp only [wi_wf, wf_same, wf_wf, tM0, tM1, tM2, tM3, tM4, tM5, tM6, tB0, tB1, tB2, tB3, tB4, tB5, tB6, tL0, tL1, tL2, up_up, wn_243_244, wn_243_245, wn_243_246, wn_243_247, wn_243_248, wn_243_249, wn_243_250, wn_243_251, wn_244_243, wn_244_245, wn_244_246, wn_244_247, wn_244_248, wn_244_249, wn_244_250, wn_244_251, wn_245_243, wn_245_244, wn_245_246, wn_245_247, wn_245_248, wn_245_249, wn_245_250, wn_245_251, wn_246_243, wn_246_244, wn_246_245, wn_246_247, wn_246_248, wn_246_249, wn_246_250, wn_246_251, wn_247_243, wn_247_244, wn_247_245, wn_247_246, wn_247_248, wn_247_249, wn_247_250, wn_247_251, wn_248_243, wn_248_244, wn_248_245, wn_248_246, wn_248_247, wn_248_249, wn_248_250, wn_248_251, wn_249_243, wn_249_244, wn_249_245, wn_249_246, wn_249_247, wn_249_248, wn_249_250, wn_249_251, wn_250_243, wn_250_244, wn_250_245, wn_250_246, wn_250_247, wn_250_248, wn_250_249, wn_250_251, wn_251_243, wn_251_244, wn_251_245, wn_251_246, wn_251_247, wn_251_248, wn_251_249, wn_251_250] at hz3 ⊢
  refine j_ifneb C dX9_crew_6 (fun hc6 => ?_) (fun hc6 => ?_)
  · -- 6 T
    refine j_iconst C dX9_crew_13 ?_
    refine j_iconst C dX9_crew_14 ?_
    refine j_cVI2 C (c_X9_isThrown_0 (by exact hw) ⟨by omega, by omega⟩) oX9_isThrown kX9_207 ⟨_, rfl, rfl⟩ at_243 ⟨by decide, by decide⟩ rfl (Nat.le_of_ble_eq_true rfl) ⟨by decide, by decide⟩ dX9_crew_15 ?_
    rintro _ _ hz15 ⟨rfl, rfl⟩
    try simp only [wi_wf, wf_same, wf_wf, tM0, tM1, tM2, tM3, tM4, tM5, tM6, tB0, tB1, tB2, tB3, tB4, tB5, tB6, tL0, tL1, tL2, up_up, wn_243_244, wn_243_245, wn_243_246, wn_243_247, wn_243_248, wn_243_249, wn_243_250, wn_243_251, wn_244_243, wn_244_245, wn_244_246, wn_244_247, wn_244_248, wn_244_249, wn_244_250, wn_244_251, wn_245_243, wn_245_244, wn_245_246, wn_245_247, wn_245_248, wn_245_249, wn_245_250, wn_245_251, wn_246_243, wn_246_244, wn_246_245, wn_246_247, wn_246_248, wn_246_249, wn_246_250, wn_246_251, wn_247_243, wn_247_244, wn_247_245, wn_247_246, wn_247_248, wn_247_249, wn_247_250, wn_247_251, wn_248_243, wn_248_244, wn_248_245, wn_248_246, wn_248_247, wn_248_249, wn_248_250, wn_248_251, wn_249_243, wn_249_244, wn_249_245, wn_249_246, wn_249_247, wn_249_248, wn_249_250, wn_249_251, wn_250_243, wn_250_244, wn_250_245, wn_250_246, wn_250_247, wn_250_248, wn_250_249, wn_250_251, wn_251_243, wn_251_244, wn_251_245, wn_251_246, wn_251_247, wn_251_248, wn_251_249, wn_251_250] at hz15 ⊢
    refine j_if_eq C (by decide) dX9_crew_18 (fun _ => ?_) (fun hc => absurd hc (by decide))
    refine j_aload0 C dX9_crew_25 ?_
    refine j_iload1 C dX9_crew_26 ?_
    refine j_cVI1 C (c_X9_crewOf (by exact hw) ⟨by omega, by omega⟩ (by exact hI)) oX9_crewOf kX9_211 ⟨_, rfl, rfl⟩ at_243 ⟨by decide, by decide⟩ rfl (Nat.le_of_ble_eq_true rfl) ⟨by decide, by decide⟩ dX9_crew_27 ?_
    rintro _ _ hz27 ⟨rfl, rfl⟩
    try simp only [wi_wf, wf_same, wf_wf, tM0, tM1, tM2, tM3, tM4, tM5, tM6, tB0, tB1, tB2, tB3, tB4, tB5, tB6, tL0, tL1, tL2, up_up, wn_243_244, wn_243_245, wn_243_246, wn_243_247, wn_243_248, wn_243_249, wn_243_250, wn_243_251, wn_244_243, wn_244_245, wn_244_246, wn_244_247, wn_244_248, wn_244_249, wn_244_250, wn_244_251, wn_245_243, wn_245_244, wn_245_246, wn_245_247, wn_245_248, wn_245_249, wn_245_250, wn_245_251, wn_246_243, wn_246_244, wn_246_245, wn_246_247, wn_246_248, wn_246_249, wn_246_250, wn_246_251, wn_247_243, wn_247_244, wn_247_245, wn_247_246, wn_247_248, wn_247_249, wn_247_250, wn_247_251, wn_248_243, wn_248_244, wn_248_245, wn_248_246, wn_248_247, wn_248_249, wn_248_250, wn_248_251, wn_249_243, wn_249_244, wn_249_245, wn_249_246, wn_249_247, wn_249_248, wn_249_250, wn_249_251, wn_250_243, wn_250_244, wn_250_245, wn_250_246, wn_250_247, wn_250_248, wn_250_249, wn_250_251, wn_251_243, wn_251_244, wn_251_245, wn_251_246, wn_251_247, wn_251_248, wn_251_249, wn_251_250] at hz27 ⊢
    refine j_iret C hrt dX9_crew_30 ⟨by omega, by omega⟩ ?_
    refine ⟨?_, ?_⟩
    · simp only [qCrew]
      repeat (first | rw [if_pos (by omega)] | rw [if_neg (by omega)])
    · simp only [qCrew]
      repeat (first | rw [if_pos (by omega)] | rw [if_neg (by omega)])
  · -- 6 F
    refine j_iconst C dX9_crew_9 ?_
    refine j_goto C dX9_crew_10 ?_
    refine j_iconst C dX9_crew_14 ?_
    refine j_cVI2 C (c_X9_isThrown_1 (by exact hw) ⟨by omega, by omega⟩) oX9_isThrown kX9_207 ⟨_, rfl, rfl⟩ at_243 ⟨by decide, by decide⟩ rfl (Nat.le_of_ble_eq_true rfl) ⟨by decide, by decide⟩ dX9_crew_15 ?_
    rintro _ _ hz15 ⟨rfl, rfl⟩
    try simp only [wi_wf, wf_same, wf_wf, tM0, tM1, tM2, tM3, tM4, tM5, tM6, tB0, tB1, tB2, tB3, tB4, tB5, tB6, tL0, tL1, tL2, up_up, wn_243_244, wn_243_245, wn_243_246, wn_243_247, wn_243_248, wn_243_249, wn_243_250, wn_243_251, wn_244_243, wn_244_245, wn_244_246, wn_244_247, wn_244_248, wn_244_249, wn_244_250, wn_244_251, wn_245_243, wn_245_244, wn_245_246, wn_245_247, wn_245_248, wn_245_249, wn_245_250, wn_245_251, wn_246_243, wn_246_244, wn_246_245, wn_246_247, wn_246_248, wn_246_249, wn_246_250, wn_246_251, wn_247_243, wn_247_244, wn_247_245, wn_247_246, wn_247_248, wn_247_249, wn_247_250, wn_247_251, wn_248_243, wn_248_244, wn_248_245, wn_248_246, wn_248_247, wn_248_249, wn_248_250, wn_248_251, wn_249_243, wn_249_244, wn_249_245, wn_249_246, wn_249_247, wn_249_248, wn_249_250, wn_249_251, wn_250_243, wn_250_244, wn_250_245, wn_250_246, wn_250_247, wn_250_248, wn_250_249, wn_250_251, wn_251_243, wn_251_244, wn_251_245, wn_251_246, wn_251_247, wn_251_248, wn_251_249, wn_251_250] at hz15 ⊢
    refine j_if_eq C (by decide) dX9_crew_18 (fun hc => absurd hc (by decide)) (fun _ => ?_)
    refine j_iconst C dX9_crew_21 ?_
    refine j_goto C dX9_crew_22 ?_
    refine j_iret C hrt dX9_crew_30 ⟨by omega, by omega⟩ ?_
    refine ⟨?_, ?_⟩
    · simp only [qCrew]
      repeat (first | rw [if_pos (by omega)] | rw [if_neg (by omega)])
    · simp only [qCrew]
      repeat (first | rw [if_pos (by omega)] | rw [if_neg (by omega)])
set_option maxRecDepth 100000 in
set_option maxHeartbeats 4000000 in
theorem c_X9_able {Γ : Ga} {l : Launch} {ω : Wo} (hw : WM ω.2.1) {M : Int} (hI : RI M (ω.1 244))   : CI Γ l yX9_able cX9_able 1 .int 3 [.ref (rl Γ 243)] ω (fun z ω' => z = (ableS (ω.1 244) : Int) ∧ ω' = wf ω 243 (up (ω.1 243) 6 0)) := by
  refine Met.ofJ (k := 0) [some (.ref (rl Γ 243))] (by decide) rfl rfl rfl (fun p e s mm args below meth c C hrt => ?_)
  have ga := ableS_lt hI
  refine j_aload0 C dX9_able_0 ?_
  refine j_iconst C dX9_able_1 ?_
  refine j_putI C fX9_38 at_243 rfl ty_7_6 ⟨by omega, by omega⟩ dX9_able_2 ?_
  try simp only [wi_wf, wf_same, wf_wf, tM0, tM1, tM2, tM3, tM4, tM5, tM6, tB0, tB1, tB2, tB3, tB4, tB5, tB6, tL0, tL1, tL2, up_up, wn_243_244, wn_243_245, wn_243_246, wn_243_247, wn_243_248, wn_243_249, wn_243_250, wn_243_251, wn_244_243, wn_244_245, wn_244_246, wn_244_247, wn_244_248, wn_244_249, wn_244_250, wn_244_251, wn_245_243, wn_245_244, wn_245_246, wn_245_247, wn_245_248, wn_245_249, wn_245_250, wn_245_251, wn_246_243, wn_246_244, wn_246_245, wn_246_247, wn_246_248, wn_246_249, wn_246_250, wn_246_251, wn_247_243, wn_247_244, wn_247_245, wn_247_246, wn_247_248, wn_247_249, wn_247_250, wn_247_251, wn_248_243, wn_248_244, wn_248_245, wn_248_246, wn_248_247, wn_248_249, wn_248_250, wn_248_251, wn_249_243, wn_249_244, wn_249_245, wn_249_246, wn_249_247, wn_249_248, wn_249_250, wn_249_251, wn_250_243, wn_250_244, wn_250_245, wn_250_246, wn_250_247, wn_250_248, wn_250_249, wn_250_251, wn_251_243, wn_251_244, wn_251_245, wn_251_246, wn_251_247, wn_251_248, wn_251_249, wn_251_250]
  refine j_aload0 C dX9_able_5 ?_
  refine j_cVI0 C (c_X9_ableSet (by exact hw) (by exact hI)) oX9_ableSet kX9_131 ⟨_, rfl, rfl⟩ at_243 ⟨by decide, by decide⟩ rfl (Nat.le_of_ble_eq_true rfl) ⟨by decide, by decide⟩ dX9_able_6 ?_
  rintro _ _ hz6 ⟨rfl, rfl⟩
  try simp only [wi_wf, wf_same, wf_wf, tM0, tM1, tM2, tM3, tM4, tM5, tM6, tB0, tB1, tB2, tB3, tB4, tB5, tB6, tL0, tL1, tL2, up_up, wn_243_244, wn_243_245, wn_243_246, wn_243_247, wn_243_248, wn_243_249, wn_243_250, wn_243_251, wn_244_243, wn_244_245, wn_244_246, wn_244_247, wn_244_248, wn_244_249, wn_244_250, wn_244_251, wn_245_243, wn_245_244, wn_245_246, wn_245_247, wn_245_248, wn_245_249, wn_245_250, wn_245_251, wn_246_243, wn_246_244, wn_246_245, wn_246_247, wn_246_248, wn_246_249, wn_246_250, wn_246_251, wn_247_243, wn_247_244, wn_247_245, wn_247_246, wn_247_248, wn_247_249, wn_247_250, wn_247_251, wn_248_243, wn_248_244, wn_248_245, wn_248_246, wn_248_247, wn_248_249, wn_248_250, wn_248_251, wn_249_243, wn_249_244, wn_249_245, wn_249_246, wn_249_247, wn_249_248, wn_249_250, wn_249_251, wn_250_243, wn_250_244, wn_250_245, wn_250_246, wn_250_247, wn_250_248, wn_250_249, wn_250_251, wn_251_243, wn_251_244, wn_251_245, wn_251_246, wn_251_247, wn_251_248, wn_251_249, wn_251_250] at hz6 ⊢
  refine j_iret C hrt dX9_able_9 ⟨by omega, by omega⟩ ?_
  exact ⟨rfl, rfl⟩
set_option maxRecDepth 100000 in
set_option maxHeartbeats 4000000 in
theorem c_X9_free {Γ : Ga} {l : Launch} {ω : Wo} (hw : WM ω.2.1) {M : Int} (hI : RI M (ω.1 244))   : CI Γ l yX9_free cX9_free 1 .int 3 [.ref (rl Γ 243)] ω (fun z ω' => z = freeO (ω.1 244) ∧ ω' = wf ω 243 (up (ω.1 243) 6 0)) := by
  refine Met.ofJ (k := 0) [some (.ref (rl Γ 243))] (by decide) rfl rfl rfl (fun p e s mm args below meth c C hrt => ?_)
  have gc := hI.c
  refine j_aload0 C dX9_free_0 ?_
  refine j_iconst C dX9_free_1 ?_
  refine j_putI C fX9_38 at_243 rfl ty_7_6 ⟨by omega, by omega⟩ dX9_free_2 ?_
  try simp only [wi_wf, wf_same, wf_wf, tM0, tM1, tM2, tM3, tM4, tM5, tM6, tB0, tB1, tB2, tB3, tB4, tB5, tB6, tL0, tL1, tL2, up_up, wn_243_244, wn_243_245, wn_243_246, wn_243_247, wn_243_248, wn_243_249, wn_243_250, wn_243_251, wn_244_243, wn_244_245, wn_244_246, wn_244_247, wn_244_248, wn_244_249, wn_244_250, wn_244_251, wn_245_243, wn_245_244, wn_245_246, wn_245_247, wn_245_248, wn_245_249, wn_245_250, wn_245_251, wn_246_243, wn_246_244, wn_246_245, wn_246_247, wn_246_248, wn_246_249, wn_246_250, wn_246_251, wn_247_243, wn_247_244, wn_247_245, wn_247_246, wn_247_248, wn_247_249, wn_247_250, wn_247_251, wn_248_243, wn_248_244, wn_248_245, wn_248_246, wn_248_247, wn_248_249, wn_248_250, wn_248_251, wn_249_243, wn_249_244, wn_249_245, wn_249_246, wn_249_247, wn_249_248, wn_249_250, wn_249_251, wn_250_243, wn_250_244, wn_250_245, wn_250_246, wn_250_247, wn_250_248, wn_250_249, wn_250_251, wn_251_243, wn_251_244, wn_251_245, wn_251_246, wn_251_247, wn_251_248, wn_251_249, wn_251_250]
  refine j_aload0 C dX9_free_5 ?_
  refine j_cVI0 C (c_X9_freeOars (by exact hw) (by exact hI)) oX9_freeOars kX9_152 ⟨_, rfl, rfl⟩ at_243 ⟨by decide, by decide⟩ rfl (Nat.le_of_ble_eq_true rfl) ⟨by decide, by decide⟩ dX9_free_6 ?_
  rintro _ _ hz6 ⟨rfl, rfl⟩
  try simp only [wi_wf, wf_same, wf_wf, tM0, tM1, tM2, tM3, tM4, tM5, tM6, tB0, tB1, tB2, tB3, tB4, tB5, tB6, tL0, tL1, tL2, up_up, wn_243_244, wn_243_245, wn_243_246, wn_243_247, wn_243_248, wn_243_249, wn_243_250, wn_243_251, wn_244_243, wn_244_245, wn_244_246, wn_244_247, wn_244_248, wn_244_249, wn_244_250, wn_244_251, wn_245_243, wn_245_244, wn_245_246, wn_245_247, wn_245_248, wn_245_249, wn_245_250, wn_245_251, wn_246_243, wn_246_244, wn_246_245, wn_246_247, wn_246_248, wn_246_249, wn_246_250, wn_246_251, wn_247_243, wn_247_244, wn_247_245, wn_247_246, wn_247_248, wn_247_249, wn_247_250, wn_247_251, wn_248_243, wn_248_244, wn_248_245, wn_248_246, wn_248_247, wn_248_249, wn_248_250, wn_248_251, wn_249_243, wn_249_244, wn_249_245, wn_249_246, wn_249_247, wn_249_248, wn_249_250, wn_249_251, wn_250_243, wn_250_244, wn_250_245, wn_250_246, wn_250_247, wn_250_248, wn_250_249, wn_250_251, wn_251_243, wn_251_244, wn_251_245, wn_251_246, wn_251_247, wn_251_248, wn_251_249, wn_251_250] at hz6 ⊢
  refine j_iret C hrt dX9_free_9 ⟨by omega, by omega⟩ ?_
  exact ⟨rfl, rfl⟩
set_option maxRecDepth 100000 in
set_option maxHeartbeats 4000000 in
theorem c_X9_faultPosition {Γ : Ga} {l : Launch} {ω : Wo} (hw : WM ω.2.1)   : CI Γ l yX9_faultPosition cX9_faultPosition 1 .int 0 [.ref (rl Γ 243)] ω (fun z ω' => z = ω.1 243 11 ∧ ω' = wf ω 243 (up (ω.1 243) 6 0)) := by
  refine Met.ofJ (k := 0) [some (.ref (rl Γ 243))] (by decide) rfl rfl rfl (fun p e s mm args below meth c C hrt => ?_)
  refine j_aload0 C dX9_faultPosition_0 ?_
  refine j_iconst C dX9_faultPosition_1 ?_
  refine j_putI C fX9_38 at_243 rfl ty_7_6 ⟨by omega, by omega⟩ dX9_faultPosition_2 ?_
  try simp only [wi_wf, wf_same, wf_wf, tM0, tM1, tM2, tM3, tM4, tM5, tM6, tB0, tB1, tB2, tB3, tB4, tB5, tB6, tL0, tL1, tL2, up_up, wn_243_244, wn_243_245, wn_243_246, wn_243_247, wn_243_248, wn_243_249, wn_243_250, wn_243_251, wn_244_243, wn_244_245, wn_244_246, wn_244_247, wn_244_248, wn_244_249, wn_244_250, wn_244_251, wn_245_243, wn_245_244, wn_245_246, wn_245_247, wn_245_248, wn_245_249, wn_245_250, wn_245_251, wn_246_243, wn_246_244, wn_246_245, wn_246_247, wn_246_248, wn_246_249, wn_246_250, wn_246_251, wn_247_243, wn_247_244, wn_247_245, wn_247_246, wn_247_248, wn_247_249, wn_247_250, wn_247_251, wn_248_243, wn_248_244, wn_248_245, wn_248_246, wn_248_247, wn_248_249, wn_248_250, wn_248_251, wn_249_243, wn_249_244, wn_249_245, wn_249_246, wn_249_247, wn_249_248, wn_249_250, wn_249_251, wn_250_243, wn_250_244, wn_250_245, wn_250_246, wn_250_247, wn_250_248, wn_250_249, wn_250_251, wn_251_243, wn_251_244, wn_251_245, wn_251_246, wn_251_247, wn_251_248, wn_251_249, wn_251_250]
  refine j_aload0 C dX9_faultPosition_5 ?_
  refine j_geti C fX9_25 at_243 rfl rfl dX9_faultPosition_6 (fun hr6 => ?_)
  try simp only [wf_same, wn_243_244, wn_243_245, wn_243_246, wn_243_247, wn_243_248, wn_243_249, wn_243_250, wn_243_251, wn_244_243, wn_244_245, wn_244_246, wn_244_247, wn_244_248, wn_244_249, wn_244_250, wn_244_251, wn_245_243, wn_245_244, wn_245_246, wn_245_247, wn_245_248, wn_245_249, wn_245_250, wn_245_251, wn_246_243, wn_246_244, wn_246_245, wn_246_247, wn_246_248, wn_246_249, wn_246_250, wn_246_251, wn_247_243, wn_247_244, wn_247_245, wn_247_246, wn_247_248, wn_247_249, wn_247_250, wn_247_251, wn_248_243, wn_248_244, wn_248_245, wn_248_246, wn_248_247, wn_248_249, wn_248_250, wn_248_251, wn_249_243, wn_249_244, wn_249_245, wn_249_246, wn_249_247, wn_249_248, wn_249_250, wn_249_251, wn_250_243, wn_250_244, wn_250_245, wn_250_246, wn_250_247, wn_250_248, wn_250_249, wn_250_251, wn_251_243, wn_251_244, wn_251_245, wn_251_246, wn_251_247, wn_251_248, wn_251_249, wn_251_250] at hr6 ⊢
  refine j_iret C hrt dX9_faultPosition_9 ⟨by omega, by omega⟩ ?_
  exact ⟨rfl, rfl⟩
set_option maxRecDepth 100000 in
set_option maxHeartbeats 4000000 in
theorem c_X9_wouldGo {Γ : Ga} {l : Launch} {ω : Wo} (hw : WM ω.2.1) {M : Int} (hI : RI M (ω.1 244))  {a : Int} (ha : Rg a) (hW2 : W2 (ω.1 244))  : CI Γ l yX9_wouldGo cX9_wouldGo 2 .int 4 [.ref (rl Γ 243), .int (iI a)] ω (fun z ω' => z = (qGo (ω.1 244) a).2 ∧ ω' = wf ω 243 (up (ω.1 243) 6 (qGo (ω.1 244) a).1)) := by
  refine Met.ofJ (k := 0) [some (.ref (rl Γ 243)), some (.int (iI a))] (by decide) rfl rfl rfl (fun p e s mm args below meth c C hrt => ?_)
  have g := hI.s
  have gc := hI.c
  have gr := whyC_rg (ω.1 244) a
  refine j_aload0 C dX9_wouldGo_0 ?_
  refine j_aload0 C dX9_wouldGo_1 ?_
  refine j_iload1 C dX9_wouldGo_2 ?_
  refine j_cVI1 C (c_X9_isBoat (by exact hw) ⟨by omega, by omega⟩ (by exact hI)) oX9_isBoat kX9_155 ⟨_, rfl, rfl⟩ at_243 ⟨by decide, by decide⟩ rfl (Nat.le_of_ble_eq_true rfl) ⟨by decide, by decide⟩ dX9_wouldGo_3 ?_
  rintro _ _ hz3 ⟨rfl, rfl⟩
  try simp only [wi_wf, wf_same, wf_wf, tM0, tM1, tM2, tM3, tM4, tM5, tM6, tB0, tB1, tB2, tB3, tB4, tB5, tB6, tL0, tL1, tL2, up_up, wn_243_244, wn_243_245, wn_243_246, wn_243_247, wn_243_248, wn_243_249, wn_243_250, wn_243_251, wn_244_243, wn_244_245, wn_244_246, wn_244_247, wn_244_248, wn_244_249, wn_244_250, wn_244_251, wn_245_243, wn_245_244, wn_245_246, wn_245_247, wn_245_248, wn_245_249, wn_245_250, wn_245_251, wn_246_243, wn_246_244, wn_246_245, wn_246_247, wn_246_248, wn_246_249, wn_246_250, wn_246_251, wn_247_243, wn_247_244, wn_247_245, wn_247_246, wn_247_248, wn_247_249, wn_247_250, wn_247_251, wn_248_243, wn_248_244, wn_248_245, wn_248_246, wn_248_247, wn_248_249, wn_248_250, wn_248_251, wn_249_243, wn_249_244, wn_249_245, wn_249_246, wn_249_247, wn_249_248, wn_249_250, wn_249_251, wn_250_243, wn_250_244, wn_250_245, wn_250_246, wn_250_247, wn_250_248, wn_250_249, wn_250_251, wn_251_243, wn_251_244, wn_251_245, wn_251_246, wn_251_247, wn_251_248, wn_251_249, wn_251_250] at hz3 ⊢
  refine j_ifneb C dX9_wouldGo_6 (fun hc6 => ?_) (fun hc6 => ?_)
  · -- 6 T
    refine j_iconst C dX9_wouldGo_13 ?_
    refine j_iconst C dX9_wouldGo_14 ?_
    refine j_cVI2 C (c_X9_isThrown_0 (by exact hw) ⟨by omega, by omega⟩) oX9_isThrown kX9_207 ⟨_, rfl, rfl⟩ at_243 ⟨by decide, by decide⟩ rfl (Nat.le_of_ble_eq_true rfl) ⟨by decide, by decide⟩ dX9_wouldGo_15 ?_
    rintro _ _ hz15 ⟨rfl, rfl⟩
    try simp only [wi_wf, wf_same, wf_wf, tM0, tM1, tM2, tM3, tM4, tM5, tM6, tB0, tB1, tB2, tB3, tB4, tB5, tB6, tL0, tL1, tL2, up_up, wn_243_244, wn_243_245, wn_243_246, wn_243_247, wn_243_248, wn_243_249, wn_243_250, wn_243_251, wn_244_243, wn_244_245, wn_244_246, wn_244_247, wn_244_248, wn_244_249, wn_244_250, wn_244_251, wn_245_243, wn_245_244, wn_245_246, wn_245_247, wn_245_248, wn_245_249, wn_245_250, wn_245_251, wn_246_243, wn_246_244, wn_246_245, wn_246_247, wn_246_248, wn_246_249, wn_246_250, wn_246_251, wn_247_243, wn_247_244, wn_247_245, wn_247_246, wn_247_248, wn_247_249, wn_247_250, wn_247_251, wn_248_243, wn_248_244, wn_248_245, wn_248_246, wn_248_247, wn_248_249, wn_248_250, wn_248_251, wn_249_243, wn_249_244, wn_249_245, wn_249_246, wn_249_247, wn_249_248, wn_249_250, wn_249_251, wn_250_243, wn_250_244, wn_250_245, wn_250_246, wn_250_247, wn_250_248, wn_250_249, wn_250_251, wn_251_243, wn_251_244, wn_251_245, wn_251_246, wn_251_247, wn_251_248, wn_251_249, wn_251_250] at hz15 ⊢
    refine j_if_ne C (by decide) dX9_wouldGo_18 (fun hc => absurd hc (by decide)) (fun _ => ?_)
    refine j_aload0 C dX9_wouldGo_21 ?_
    refine j_aload0 C dX9_wouldGo_22 ?_
    refine j_iload1 C dX9_wouldGo_23 ?_
    have hs2 := hW2.i (b := a) (by omega)
    refine j_cVI1 C (c_X9_whyNoCrew (by exact hw) (by omega) (by exact hs2) (by exact hI)) oX9_whyNoCrew kX9_149 ⟨_, rfl, rfl⟩ at_243 ⟨by decide, by decide⟩ rfl (Nat.le_of_ble_eq_true rfl) ⟨by decide, by decide⟩ dX9_wouldGo_24 ?_
    rintro _ _ hz24 ⟨rfl, rfl⟩
    try simp only [wi_wf, wf_same, wf_wf, tM0, tM1, tM2, tM3, tM4, tM5, tM6, tB0, tB1, tB2, tB3, tB4, tB5, tB6, tL0, tL1, tL2, up_up, wn_243_244, wn_243_245, wn_243_246, wn_243_247, wn_243_248, wn_243_249, wn_243_250, wn_243_251, wn_244_243, wn_244_245, wn_244_246, wn_244_247, wn_244_248, wn_244_249, wn_244_250, wn_244_251, wn_245_243, wn_245_244, wn_245_246, wn_245_247, wn_245_248, wn_245_249, wn_245_250, wn_245_251, wn_246_243, wn_246_244, wn_246_245, wn_246_247, wn_246_248, wn_246_249, wn_246_250, wn_246_251, wn_247_243, wn_247_244, wn_247_245, wn_247_246, wn_247_248, wn_247_249, wn_247_250, wn_247_251, wn_248_243, wn_248_244, wn_248_245, wn_248_246, wn_248_247, wn_248_249, wn_248_250, wn_248_251, wn_249_243, wn_249_244, wn_249_245, wn_249_246, wn_249_247, wn_249_248, wn_249_250, wn_249_251, wn_250_243, wn_250_244, wn_250_245, wn_250_246, wn_250_247, wn_250_248, wn_250_249, wn_250_251, wn_251_243, wn_251_244, wn_251_245, wn_251_246, wn_251_247, wn_251_248, wn_251_249, wn_251_250] at hz24 ⊢
    refine j_if_le C ⟨by omega, by omega⟩ dX9_wouldGo_27 (fun hc27 => ?_) (fun hc27 => ?_)
    · -- 27 T
      refine j_iconst C dX9_wouldGo_34 ?_
      refine j_iconst C dX9_wouldGo_35 ?_
      refine j_cVI2 C (c_X9_isThrown_0 (by exact hw) ⟨by omega, by omega⟩) oX9_isThrown kX9_207 ⟨_, rfl, rfl⟩ at_243 ⟨by decide, by decide⟩ rfl (Nat.le_of_ble_eq_true rfl) ⟨by decide, by decide⟩ dX9_wouldGo_36 ?_
      rintro _ _ hz36 ⟨rfl, rfl⟩
      try simp only [wi_wf, wf_same, wf_wf, tM0, tM1, tM2, tM3, tM4, tM5, tM6, tB0, tB1, tB2, tB3, tB4, tB5, tB6, tL0, tL1, tL2, up_up, wn_243_244, wn_243_245, wn_243_246, wn_243_247, wn_243_248, wn_243_249, wn_243_250, wn_243_251, wn_244_243, wn_244_245, wn_244_246, wn_244_247, wn_244_248, wn_244_249, wn_244_250, wn_244_251, wn_245_243, wn_245_244, wn_245_246, wn_245_247, wn_245_248, wn_245_249, wn_245_250, wn_245_251, wn_246_243, wn_246_244, wn_246_245, wn_246_247, wn_246_248, wn_246_249, wn_246_250, wn_246_251, wn_247_243, wn_247_244, wn_247_245, wn_247_246, wn_247_248, wn_247_249, wn_247_250, wn_247_251, wn_248_243, wn_248_244, wn_248_245, wn_248_246, wn_248_247, wn_248_249, wn_248_250, wn_248_251, wn_249_243, wn_249_244, wn_249_245, wn_249_246, wn_249_247, wn_249_248, wn_249_250, wn_249_251, wn_250_243, wn_250_244, wn_250_245, wn_250_246, wn_250_247, wn_250_248, wn_250_249, wn_250_251, wn_251_243, wn_251_244, wn_251_245, wn_251_246, wn_251_247, wn_251_248, wn_251_249, wn_251_250] at hz36 ⊢
      refine j_if_eq C (by decide) dX9_wouldGo_39 (fun _ => ?_) (fun hc => absurd hc (by decide))
      refine j_aload0 C dX9_wouldGo_44 ?_
      refine j_iload1 C dX9_wouldGo_45 ?_
      have hok := crOk_of hI (b := a) (by omega) hs2 (by omega)
      have gcl := crw_lt hI a
      refine j_cVI1 C (c_X9_crewFor (by exact hw) (by omega) (by exact hs2) (by exact hok) (by exact hI)) oX9_crewFor kX9_164 ⟨_, rfl, rfl⟩ at_243 ⟨by decide, by decide⟩ rfl (Nat.le_of_ble_eq_true rfl) ⟨by decide, by decide⟩ dX9_wouldGo_46 ?_
      rintro _ _ hz46 ⟨rfl, rfl⟩
      try simp only [wi_wf, wf_same, wf_wf, tM0, tM1, tM2, tM3, tM4, tM5, tM6, tB0, tB1, tB2, tB3, tB4, tB5, tB6, tL0, tL1, tL2, up_up, wn_243_244, wn_243_245, wn_243_246, wn_243_247, wn_243_248, wn_243_249, wn_243_250, wn_243_251, wn_244_243, wn_244_245, wn_244_246, wn_244_247, wn_244_248, wn_244_249, wn_244_250, wn_244_251, wn_245_243, wn_245_244, wn_245_246, wn_245_247, wn_245_248, wn_245_249, wn_245_250, wn_245_251, wn_246_243, wn_246_244, wn_246_245, wn_246_247, wn_246_248, wn_246_249, wn_246_250, wn_246_251, wn_247_243, wn_247_244, wn_247_245, wn_247_246, wn_247_248, wn_247_249, wn_247_250, wn_247_251, wn_248_243, wn_248_244, wn_248_245, wn_248_246, wn_248_247, wn_248_249, wn_248_250, wn_248_251, wn_249_243, wn_249_244, wn_249_245, wn_249_246, wn_249_247, wn_249_248, wn_249_250, wn_249_251, wn_250_243, wn_250_244, wn_250_245, wn_250_246, wn_250_247, wn_250_248, wn_250_249, wn_250_251, wn_251_243, wn_251_244, wn_251_245, wn_251_246, wn_251_247, wn_251_248, wn_251_249, wn_251_250] at hz46 ⊢
      refine j_iret C hrt dX9_wouldGo_49 ⟨by omega, by omega⟩ ?_
      refine ⟨?_, ?_⟩
      · simp only [qGo]
        repeat (first | rw [if_pos (by omega)] | rw [if_neg (by omega)])
      · simp only [qGo]
        repeat (first | rw [if_pos (by omega)] | rw [if_neg (by omega)])
    · -- 27 F
      refine j_iconst C dX9_wouldGo_30 ?_
      refine j_goto C dX9_wouldGo_31 ?_
      refine j_iconst C dX9_wouldGo_35 ?_
      refine j_cVI2 C (c_X9_isThrown_1 (by exact hw) ⟨by omega, by omega⟩) oX9_isThrown kX9_207 ⟨_, rfl, rfl⟩ at_243 ⟨by decide, by decide⟩ rfl (Nat.le_of_ble_eq_true rfl) ⟨by decide, by decide⟩ dX9_wouldGo_36 ?_
      rintro _ _ hz36 ⟨rfl, rfl⟩
      try simp only [wi_wf, wf_same, wf_wf, tM0, tM1, tM2, tM3, tM4, tM5, tM6, tB0, tB1, tB2, tB3, tB4, tB5, tB6, tL0, tL1, tL2, up_up, wn_243_244, wn_243_245, wn_243_246, wn_243_247, wn_243_248, wn_243_249, wn_243_250, wn_243_251, wn_244_243, wn_244_245, wn_244_246, wn_244_247, wn_244_248, wn_244_249, wn_244_250, wn_244_251, wn_245_243, wn_245_244, wn_245_246, wn_245_247, wn_245_248, wn_245_249, wn_245_250, wn_245_251, wn_246_243, wn_246_244, wn_246_245, wn_246_247, wn_246_248, wn_246_249, wn_246_250, wn_246_251, wn_247_243, wn_247_244, wn_247_245, wn_247_246, wn_247_248, wn_247_249, wn_247_250, wn_247_251, wn_248_243, wn_248_244, wn_248_245, wn_248_246, wn_248_247, wn_248_249, wn_248_250, wn_248_251, wn_249_243, wn_249_244, wn_249_245, wn_249_246, wn_249_247, wn_249_248, wn_249_250, wn_249_251, wn_250_243, wn_250_244, wn_250_245, wn_250_246, wn_250_247, wn_250_248, wn_250_249, wn_250_251, wn_251_243, wn_251_244, wn_251_245, wn_251_246, wn_251_247, wn_251_248, wn_251_249, wn_251_250] at hz36 ⊢
      refine j_if_eq C (by decide) dX9_wouldGo_39 (fun hc => absurd hc (by decide)) (fun _ => ?_)
      refine j_iconst C dX9_wouldGo_42 ?_
      refine j_iret C hrt dX9_wouldGo_43 ⟨by omega, by omega⟩ ?_
      refine ⟨?_, ?_⟩
      · simp only [qGo]
        repeat (first | rw [if_pos (by omega)] | rw [if_neg (by omega)])
      · simp only [qGo]
        repeat (first | rw [if_pos (by omega)] | rw [if_neg (by omega)])
  · -- 6 F
    refine j_iconst C dX9_wouldGo_9 ?_
    refine j_goto C dX9_wouldGo_10 ?_
    refine j_iconst C dX9_wouldGo_14 ?_
    refine j_cVI2 C (c_X9_isThrown_1 (by exact hw) ⟨by omega, by omega⟩) oX9_isThrown kX9_207 ⟨_, rfl, rfl⟩ at_243 ⟨by decide, by decide⟩ rfl (Nat.le_of_ble_eq_true rfl) ⟨by decide, by decide⟩ dX9_wouldGo_15 ?_
    rintro _ _ hz15 ⟨rfl, rfl⟩
    try simp only [wi_wf, wf_same, wf_wf, tM0, tM1, tM2, tM3, tM4, tM5, tM6, tB0, tB1, tB2, tB3, tB4, tB5, tB6, tL0, tL1, tL2, up_up, wn_243_244, wn_243_245, wn_243_246, wn_243_247, wn_243_248, wn_243_249, wn_243_250, wn_243_251, wn_244_243, wn_244_245, wn_244_246, wn_244_247, wn_244_248, wn_244_249, wn_244_250, wn_244_251, wn_245_243, wn_245_244, wn_245_246, wn_245_247, wn_245_248, wn_245_249, wn_245_250, wn_245_251, wn_246_243, wn_246_244, wn_246_245, wn_246_247, wn_246_248, wn_246_249, wn_246_250, wn_246_251, wn_247_243, wn_247_244, wn_247_245, wn_247_246, wn_247_248, wn_247_249, wn_247_250, wn_247_251, wn_248_243, wn_248_244, wn_248_245, wn_248_246, wn_248_247, wn_248_249, wn_248_250, wn_248_251, wn_249_243, wn_249_244, wn_249_245, wn_249_246, wn_249_247, wn_249_248, wn_249_250, wn_249_251, wn_250_243, wn_250_244, wn_250_245, wn_250_246, wn_250_247, wn_250_248, wn_250_249, wn_250_251, wn_251_243, wn_251_244, wn_251_245, wn_251_246, wn_251_247, wn_251_248, wn_251_249, wn_251_250] at hz15 ⊢
    refine j_if_ne C (by decide) dX9_wouldGo_18 (fun _ => ?_) (fun hc => absurd hc (by decide))
    refine j_iconst C dX9_wouldGo_42 ?_
    refine j_iret C hrt dX9_wouldGo_43 ⟨by omega, by omega⟩ ?_
    refine ⟨?_, ?_⟩
    · simp only [qGo]
      repeat (first | rw [if_pos (by omega)] | rw [if_neg (by omega)])
    · simp only [qGo]
      repeat (first | rw [if_pos (by omega)] | rw [if_neg (by omega)])
set_option maxRecDepth 100000 in
set_option maxHeartbeats 4000000 in
theorem c_X9_weariness {Γ : Ga} {l : Launch} {ω : Wo} (hw : WM ω.2.1) {M : Int} (hI : RI M (ω.1 244))  {a : Int} (ha : Rg a) (hW2 : W2 (ω.1 244))  : CI Γ l yX9_weariness cX9_weariness 5 .int 4 [.ref (rl Γ 243), .int (iI a)] ω (fun z ω' => z = (qWear (ω.1 244) a).2 ∧ ω' = wf ω 243 (up (ω.1 243) 6 (qWear (ω.1 244) a).1)) := by
  refine Met.ofJ (k := 3) [some (.ref (rl Γ 243)), some (.int (iI a)), none, none, none] (by decide) rfl rfl rfl (fun p e s mm args below meth c C hrt => ?_)
  have g := hI.s
  have gc := hI.c
  have gr := whyC_rg (ω.1 244) a
  refine j_aload0 C dX9_weariness_0 ?_
  refine j_aload0 C dX9_weariness_1 ?_
  refine j_iload1 C dX9_weariness_2 ?_
  refine j_cVI1 C (c_X9_isBoat (by exact hw) ⟨by omega, by omega⟩ (by exact hI)) oX9_isBoat kX9_155 ⟨_, rfl, rfl⟩ at_243 ⟨by decide, by decide⟩ rfl (Nat.le_of_ble_eq_true rfl) ⟨by decide, by decide⟩ dX9_weariness_3 ?_
  rintro _ _ hz3 ⟨rfl, rfl⟩
  try simp only [wi_wf, wf_same, wf_wf, tM0, tM1, tM2, tM3, tM4, tM5, tM6, tB0, tB1, tB2, tB3, tB4, tB5, tB6, tL0, tL1, tL2, up_up, wn_243_244, wn_243_245, wn_243_246, wn_243_247, wn_243_248, wn_243_249, wn_243_250, wn_243_251, wn_244_243, wn_244_245, wn_244_246, wn_244_247, wn_244_248, wn_244_249, wn_244_250, wn_244_251, wn_245_243, wn_245_244, wn_245_246, wn_245_247, wn_245_248, wn_245_249, wn_245_250, wn_245_251, wn_246_243, wn_246_244, wn_246_245, wn_246_247, wn_246_248, wn_246_249, wn_246_250, wn_246_251, wn_247_243, wn_247_244, wn_247_245, wn_247_246, wn_247_248, wn_247_249, wn_247_250, wn_247_251, wn_248_243, wn_248_244, wn_248_245, wn_248_246, wn_248_247, wn_248_249, wn_248_250, wn_248_251, wn_249_243, wn_249_244, wn_249_245, wn_249_246, wn_249_247, wn_249_248, wn_249_250, wn_249_251, wn_250_243, wn_250_244, wn_250_245, wn_250_246, wn_250_247, wn_250_248, wn_250_249, wn_250_251, wn_251_243, wn_251_244, wn_251_245, wn_251_246, wn_251_247, wn_251_248, wn_251_249, wn_251_250] at hz3 ⊢
  refine j_ifneb C dX9_weariness_6 (fun hc6 => ?_) (fun hc6 => ?_)
  · -- 6 T
    refine j_iconst C dX9_weariness_13 ?_
    refine j_iconst C dX9_weariness_14 ?_
    refine j_cVI2 C (c_X9_isThrown_0 (by exact hw) ⟨by omega, by omega⟩) oX9_isThrown kX9_207 ⟨_, rfl, rfl⟩ at_243 ⟨by decide, by decide⟩ rfl (Nat.le_of_ble_eq_true rfl) ⟨by decide, by decide⟩ dX9_weariness_15 ?_
    rintro _ _ hz15 ⟨rfl, rfl⟩
    try simp only [wi_wf, wf_same, wf_wf, tM0, tM1, tM2, tM3, tM4, tM5, tM6, tB0, tB1, tB2, tB3, tB4, tB5, tB6, tL0, tL1, tL2, up_up, wn_243_244, wn_243_245, wn_243_246, wn_243_247, wn_243_248, wn_243_249, wn_243_250, wn_243_251, wn_244_243, wn_244_245, wn_244_246, wn_244_247, wn_244_248, wn_244_249, wn_244_250, wn_244_251, wn_245_243, wn_245_244, wn_245_246, wn_245_247, wn_245_248, wn_245_249, wn_245_250, wn_245_251, wn_246_243, wn_246_244, wn_246_245, wn_246_247, wn_246_248, wn_246_249, wn_246_250, wn_246_251, wn_247_243, wn_247_244, wn_247_245, wn_247_246, wn_247_248, wn_247_249, wn_247_250, wn_247_251, wn_248_243, wn_248_244, wn_248_245, wn_248_246, wn_248_247, wn_248_249, wn_248_250, wn_248_251, wn_249_243, wn_249_244, wn_249_245, wn_249_246, wn_249_247, wn_249_248, wn_249_250, wn_249_251, wn_250_243, wn_250_244, wn_250_245, wn_250_246, wn_250_247, wn_250_248, wn_250_249, wn_250_251, wn_251_243, wn_251_244, wn_251_245, wn_251_246, wn_251_247, wn_251_248, wn_251_249, wn_251_250] at hz15 ⊢
    refine j_if_ne C (by decide) dX9_weariness_18 (fun hc => absurd hc (by decide)) (fun _ => ?_)
    refine j_aload0 C dX9_weariness_21 ?_
    refine j_aload0 C dX9_weariness_22 ?_
    refine j_iload1 C dX9_weariness_23 ?_
    have hs2 := hW2.i (b := a) (by omega)
    refine j_cVI1 C (c_X9_whyNoCrew (by exact hw) (by omega) (by exact hs2) (by exact hI)) oX9_whyNoCrew kX9_149 ⟨_, rfl, rfl⟩ at_243 ⟨by decide, by decide⟩ rfl (Nat.le_of_ble_eq_true rfl) ⟨by decide, by decide⟩ dX9_weariness_24 ?_
    rintro _ _ hz24 ⟨rfl, rfl⟩
    try simp only [wi_wf, wf_same, wf_wf, tM0, tM1, tM2, tM3, tM4, tM5, tM6, tB0, tB1, tB2, tB3, tB4, tB5, tB6, tL0, tL1, tL2, up_up, wn_243_244, wn_243_245, wn_243_246, wn_243_247, wn_243_248, wn_243_249, wn_243_250, wn_243_251, wn_244_243, wn_244_245, wn_244_246, wn_244_247, wn_244_248, wn_244_249, wn_244_250, wn_244_251, wn_245_243, wn_245_244, wn_245_246, wn_245_247, wn_245_248, wn_245_249, wn_245_250, wn_245_251, wn_246_243, wn_246_244, wn_246_245, wn_246_247, wn_246_248, wn_246_249, wn_246_250, wn_246_251, wn_247_243, wn_247_244, wn_247_245, wn_247_246, wn_247_248, wn_247_249, wn_247_250, wn_247_251, wn_248_243, wn_248_244, wn_248_245, wn_248_246, wn_248_247, wn_248_249, wn_248_250, wn_248_251, wn_249_243, wn_249_244, wn_249_245, wn_249_246, wn_249_247, wn_249_248, wn_249_250, wn_249_251, wn_250_243, wn_250_244, wn_250_245, wn_250_246, wn_250_247, wn_250_248, wn_250_249, wn_250_251, wn_251_243, wn_251_244, wn_251_245, wn_251_246, wn_251_247, wn_251_248, wn_251_249, wn_251_250] at hz24 ⊢
    refine j_if_le C ⟨by omega, by omega⟩ dX9_weariness_27 (fun hc27 => ?_) (fun hc27 => ?_)
    · -- 27 T
      refine j_iconst C dX9_weariness_34 ?_
      refine j_iconst C dX9_weariness_35 ?_
      refine j_cVI2 C (c_X9_isThrown_0 (by exact hw) ⟨by omega, by omega⟩) oX9_isThrown kX9_207 ⟨_, rfl, rfl⟩ at_243 ⟨by decide, by decide⟩ rfl (Nat.le_of_ble_eq_true rfl) ⟨by decide, by decide⟩ dX9_weariness_36 ?_
      rintro _ _ hz36 ⟨rfl, rfl⟩
      try simp only [wi_wf, wf_same, wf_wf, tM0, tM1, tM2, tM3, tM4, tM5, tM6, tB0, tB1, tB2, tB3, tB4, tB5, tB6, tL0, tL1, tL2, up_up, wn_243_244, wn_243_245, wn_243_246, wn_243_247, wn_243_248, wn_243_249, wn_243_250, wn_243_251, wn_244_243, wn_244_245, wn_244_246, wn_244_247, wn_244_248, wn_244_249, wn_244_250, wn_244_251, wn_245_243, wn_245_244, wn_245_246, wn_245_247, wn_245_248, wn_245_249, wn_245_250, wn_245_251, wn_246_243, wn_246_244, wn_246_245, wn_246_247, wn_246_248, wn_246_249, wn_246_250, wn_246_251, wn_247_243, wn_247_244, wn_247_245, wn_247_246, wn_247_248, wn_247_249, wn_247_250, wn_247_251, wn_248_243, wn_248_244, wn_248_245, wn_248_246, wn_248_247, wn_248_249, wn_248_250, wn_248_251, wn_249_243, wn_249_244, wn_249_245, wn_249_246, wn_249_247, wn_249_248, wn_249_250, wn_249_251, wn_250_243, wn_250_244, wn_250_245, wn_250_246, wn_250_247, wn_250_248, wn_250_249, wn_250_251, wn_251_243, wn_251_244, wn_251_245, wn_251_246, wn_251_247, wn_251_248, wn_251_249, wn_251_250] at hz36 ⊢
      refine j_if_eq C (by decide) dX9_weariness_39 (fun _ => ?_) (fun hc => absurd hc (by decide))
      refine j_aload0 C dX9_weariness_44 ?_
      refine j_iload1 C dX9_weariness_45 ?_
      have hok := crOk_of hI (b := a) (by omega) hs2 (by omega)
      have gcl := crw_lt hI a
      refine j_cVI1 C (c_X9_crewFor (by exact hw) (by omega) (by exact hs2) (by exact hok) (by exact hI)) oX9_crewFor kX9_164 ⟨_, rfl, rfl⟩ at_243 ⟨by decide, by decide⟩ rfl (Nat.le_of_ble_eq_true rfl) ⟨by decide, by decide⟩ dX9_weariness_46 ?_
      rintro _ _ hz46 ⟨rfl, rfl⟩
      try simp only [wi_wf, wf_same, wf_wf, tM0, tM1, tM2, tM3, tM4, tM5, tM6, tB0, tB1, tB2, tB3, tB4, tB5, tB6, tL0, tL1, tL2, up_up, wn_243_244, wn_243_245, wn_243_246, wn_243_247, wn_243_248, wn_243_249, wn_243_250, wn_243_251, wn_244_243, wn_244_245, wn_244_246, wn_244_247, wn_244_248, wn_244_249, wn_244_250, wn_244_251, wn_245_243, wn_245_244, wn_245_246, wn_245_247, wn_245_248, wn_245_249, wn_245_250, wn_245_251, wn_246_243, wn_246_244, wn_246_245, wn_246_247, wn_246_248, wn_246_249, wn_246_250, wn_246_251, wn_247_243, wn_247_244, wn_247_245, wn_247_246, wn_247_248, wn_247_249, wn_247_250, wn_247_251, wn_248_243, wn_248_244, wn_248_245, wn_248_246, wn_248_247, wn_248_249, wn_248_250, wn_248_251, wn_249_243, wn_249_244, wn_249_245, wn_249_246, wn_249_247, wn_249_248, wn_249_250, wn_249_251, wn_250_243, wn_250_244, wn_250_245, wn_250_246, wn_250_247, wn_250_248, wn_250_249, wn_250_251, wn_251_243, wn_251_244, wn_251_245, wn_251_246, wn_251_247, wn_251_248, wn_251_249, wn_251_250] at hz46 ⊢
      refine j_istore2 C rfl dX9_weariness_49 ?_
      refine j_iconst C dX9_weariness_50 ?_
      refine j_istore3 C rfl dX9_weariness_51 ?_
      refine j_iconst C dX9_weariness_52 ?_
      refine j_istore4 C rfl dX9_weariness_53 ?_
      have loop55 : ∀ (N : Nat) (k : Nat), (cM (ω.1 244) - k) < N → (k ≤ cM (ω.1 244)) → J Γ p l e (rmk 4 0 0) s mm args below meth c (MQ below (QI Γ (fun z ω' => z = (qWear (ω.1 244) a).2 ∧ ω' = wf ω 243 (up (ω.1 243) 6 (qWear (ω.1 244) a).1))) args s 0 0 (gA Γ)) 254 0 0 55 [some (.ref (rl Γ 243)), some (.int (iI a)), some (.int (iI ((crw (ω.1 244) a : Nat) : Int))), some (.int (iI (wsUp (ω.1 244) (crw (ω.1 244) a) k))), some (.int (iI ((k : Nat) : Int)))] [] (wf ω 243 (up (ω.1 243) 6 0)) := by
        intro N
        induction N with
        | zero => intro k hN; exact absurd hN (Nat.not_lt_zero _)
        | succ N ih55 =>
          intro k hN hi0
          have gl := hI.m k
          have go := fun h => wsUp_rg hI (crw (ω.1 244) a) k h
          have gM := hI.2.1
          refine j_iload4 C dX9_weariness_55 ?_
          refine j_aload0 C dX9_weariness_57 ?_
          refine j_getr C fX9_9 at_243 rfl hw.r0 dX9_weariness_58 ?_
          refine j_iconst C dX9_weariness_61 ?_
          refine j_ialdK C at_244 ⟨rfl, rfl⟩ (N := 111) rfl (by decide) (k := 1) rfl (by decide) dX9_weariness_62 (fun hr62 => ?_)
          try simp only [wf_same, wn_243_244, wn_243_245, wn_243_246, wn_243_247, wn_243_248, wn_243_249, wn_243_250, wn_243_251, wn_244_243, wn_244_245, wn_244_246, wn_244_247, wn_244_248, wn_244_249, wn_244_250, wn_244_251, wn_245_243, wn_245_244, wn_245_246, wn_245_247, wn_245_248, wn_245_249, wn_245_250, wn_245_251, wn_246_243, wn_246_244, wn_246_245, wn_246_247, wn_246_248, wn_246_249, wn_246_250, wn_246_251, wn_247_243, wn_247_244, wn_247_245, wn_247_246, wn_247_248, wn_247_249, wn_247_250, wn_247_251, wn_248_243, wn_248_244, wn_248_245, wn_248_246, wn_248_247, wn_248_249, wn_248_250, wn_248_251, wn_249_243, wn_249_244, wn_249_245, wn_249_246, wn_249_247, wn_249_248, wn_249_250, wn_249_251, wn_250_243, wn_250_244, wn_250_245, wn_250_246, wn_250_247, wn_250_248, wn_250_249, wn_250_251, wn_251_243, wn_251_244, wn_251_245, wn_251_246, wn_251_247, wn_251_248, wn_251_249, wn_251_250] at hr62 ⊢
          refine j_icmp_ge C ⟨by omega, by omega⟩ ⟨by omega, by omega⟩ dX9_weariness_63 (fun hc63 => ?_) (fun hc63 => ?_)
          · -- 63 T
            refine j_iload3 C dX9_weariness_96 ?_
            have hk9 : k = cM (ω.1 244) := by omega
            subst hk9
            refine j_iret C hrt dX9_weariness_97 ⟨by omega, by omega⟩ ?_
            refine ⟨?_, ?_⟩
            · simp only [qWear]
              repeat (first | rw [if_pos (by omega)] | rw [if_neg (by omega)])
            · simp only [qWear]
              repeat (first | rw [if_pos (by omega)] | rw [if_neg (by omega)])
          · -- 63 F
            refine j_iload3 C dX9_weariness_66 ?_
            refine j_iload2 C dX9_weariness_67 ?_
            refine j_iload4 C dX9_weariness_68 ?_
            refine j_ishr C (by omega) (by omega) dX9_weariness_70 ?_
            refine j_iconstN C (k := 1) rfl dX9_weariness_71 ?_
            refine j_iand1 C dX9_weariness_72 ?_
            refine j_iconst C dX9_weariness_73 ?_
            refine j_icmp_ne C ⟨by omega, by omega⟩ ⟨by omega, by omega⟩ dX9_weariness_74 (fun hc74 => ?_) (fun hc74 => ?_)
            · -- 74 T
              refine j_iconst C dX9_weariness_87 ?_
              refine j_iadd C dX9_weariness_88 ?_
              refine j_istore3 C rfl dX9_weariness_89 ?_
              refine j_iinc4n C rfl dX9_weariness_90 ?_
              refine j_goto C dX9_weariness_93 ?_
              exact j_fg (ih55 (k + 1) (by omega) (by omega)) ⟨Or.inr rfl, Or.inr rfl, Or.inr rfl, Or.inr (sI (by simp only [wsUp]; first | rw [if_pos (by omega)] | rw [if_neg (by omega)])), Or.inr rfl, trivial⟩ rfl
            · -- 74 F
              refine j_aload0 C dX9_weariness_77 ?_
              refine j_iload4 C dX9_weariness_78 ?_
              refine j_iconst C dX9_weariness_80 ?_
              refine j_cVI2 C (c_X9_of (by exact hw) (by omega) (by omega)) oX9_of kX9_103 ⟨_, rfl, rfl⟩ at_243 ⟨by decide, by decide⟩ rfl (Nat.le_of_ble_eq_true rfl) ⟨by decide, by decide⟩ dX9_weariness_81 ?_
              rintro _ _ hz81 ⟨rfl, rfl⟩
              try simp only [wi_wf, wf_same, wf_wf, tM0, tM1, tM2, tM3, tM4, tM5, tM6, tB0, tB1, tB2, tB3, tB4, tB5, tB6, tL0, tL1, tL2, up_up, wn_243_244, wn_243_245, wn_243_246, wn_243_247, wn_243_248, wn_243_249, wn_243_250, wn_243_251, wn_244_243, wn_244_245, wn_244_246, wn_244_247, wn_244_248, wn_244_249, wn_244_250, wn_244_251, wn_245_243, wn_245_244, wn_245_246, wn_245_247, wn_245_248, wn_245_249, wn_245_250, wn_245_251, wn_246_243, wn_246_244, wn_246_245, wn_246_247, wn_246_248, wn_246_249, wn_246_250, wn_246_251, wn_247_243, wn_247_244, wn_247_245, wn_247_246, wn_247_248, wn_247_249, wn_247_250, wn_247_251, wn_248_243, wn_248_244, wn_248_245, wn_248_246, wn_248_247, wn_248_249, wn_248_250, wn_248_251, wn_249_243, wn_249_244, wn_249_245, wn_249_246, wn_249_247, wn_249_248, wn_249_250, wn_249_251, wn_250_243, wn_250_244, wn_250_245, wn_250_246, wn_250_247, wn_250_248, wn_250_249, wn_250_251, wn_251_243, wn_251_244, wn_251_245, wn_251_246, wn_251_247, wn_251_248, wn_251_249, wn_251_250] at hz81 ⊢
              refine j_goto C dX9_weariness_84 ?_
              refine j_iadd C dX9_weariness_88 ?_
              refine j_istore3 C rfl dX9_weariness_89 ?_
              refine j_iinc4n C rfl dX9_weariness_90 ?_
              refine j_goto C dX9_weariness_93 ?_
              exact j_fg (ih55 (k + 1) (by omega) (by omega)) ⟨Or.inr rfl, Or.inr rfl, Or.inr rfl, Or.inr (sI (by simp only [wsUp]; first | rw [if_pos (by omega)] | rw [if_neg (by omega)])), Or.inr rfl, trivial⟩ rfl
      exact loop55 _ 0 (Nat.lt_succ_self _) (Nat.zero_le _)
    · -- 27 F
      refine j_iconst C dX9_weariness_30 ?_
      refine j_goto C dX9_weariness_31 ?_
      refine j_iconst C dX9_weariness_35 ?_
      refine j_cVI2 C (c_X9_isThrown_1 (by exact hw) ⟨by omega, by omega⟩) oX9_isThrown kX9_207 ⟨_, rfl, rfl⟩ at_243 ⟨by decide, by decide⟩ rfl (Nat.le_of_ble_eq_true rfl) ⟨by decide, by decide⟩ dX9_weariness_36 ?_
      rintro _ _ hz36 ⟨rfl, rfl⟩
      try simp only [wi_wf, wf_same, wf_wf, tM0, tM1, tM2, tM3, tM4, tM5, tM6, tB0, tB1, tB2, tB3, tB4, tB5, tB6, tL0, tL1, tL2, up_up, wn_243_244, wn_243_245, wn_243_246, wn_243_247, wn_243_248, wn_243_249, wn_243_250, wn_243_251, wn_244_243, wn_244_245, wn_244_246, wn_244_247, wn_244_248, wn_244_249, wn_244_250, wn_244_251, wn_245_243, wn_245_244, wn_245_246, wn_245_247, wn_245_248, wn_245_249, wn_245_250, wn_245_251, wn_246_243, wn_246_244, wn_246_245, wn_246_247, wn_246_248, wn_246_249, wn_246_250, wn_246_251, wn_247_243, wn_247_244, wn_247_245, wn_247_246, wn_247_248, wn_247_249, wn_247_250, wn_247_251, wn_248_243, wn_248_244, wn_248_245, wn_248_246, wn_248_247, wn_248_249, wn_248_250, wn_248_251, wn_249_243, wn_249_244, wn_249_245, wn_249_246, wn_249_247, wn_249_248, wn_249_250, wn_249_251, wn_250_243, wn_250_244, wn_250_245, wn_250_246, wn_250_247, wn_250_248, wn_250_249, wn_250_251, wn_251_243, wn_251_244, wn_251_245, wn_251_246, wn_251_247, wn_251_248, wn_251_249, wn_251_250] at hz36 ⊢
      refine j_if_eq C (by decide) dX9_weariness_39 (fun hc => absurd hc (by decide)) (fun _ => ?_)
      refine j_iconst C dX9_weariness_42 ?_
      refine j_iret C hrt dX9_weariness_43 ⟨by omega, by omega⟩ ?_
      refine ⟨?_, ?_⟩
      · simp only [qWear]
        repeat (first | rw [if_pos (by omega)] | rw [if_neg (by omega)])
      · simp only [qWear]
        repeat (first | rw [if_pos (by omega)] | rw [if_neg (by omega)])
  · -- 6 F
    refine j_iconst C dX9_weariness_9 ?_
    refine j_goto C dX9_weariness_10 ?_
    refine j_iconst C dX9_weariness_14 ?_
    refine j_cVI2 C (c_X9_isThrown_1 (by exact hw) ⟨by omega, by omega⟩) oX9_isThrown kX9_207 ⟨_, rfl, rfl⟩ at_243 ⟨by decide, by decide⟩ rfl (Nat.le_of_ble_eq_true rfl) ⟨by decide, by decide⟩ dX9_weariness_15 ?_
    rintro _ _ hz15 ⟨rfl, rfl⟩
    try simp only [wi_wf, wf_same, wf_wf, tM0, tM1, tM2, tM3, tM4, tM5, tM6, tB0, tB1, tB2, tB3, tB4, tB5, tB6, tL0, tL1, tL2, up_up, wn_243_244, wn_243_245, wn_243_246, wn_243_247, wn_243_248, wn_243_249, wn_243_250, wn_243_251, wn_244_243, wn_244_245, wn_244_246, wn_244_247, wn_244_248, wn_244_249, wn_244_250, wn_244_251, wn_245_243, wn_245_244, wn_245_246, wn_245_247, wn_245_248, wn_245_249, wn_245_250, wn_245_251, wn_246_243, wn_246_244, wn_246_245, wn_246_247, wn_246_248, wn_246_249, wn_246_250, wn_246_251, wn_247_243, wn_247_244, wn_247_245, wn_247_246, wn_247_248, wn_247_249, wn_247_250, wn_247_251, wn_248_243, wn_248_244, wn_248_245, wn_248_246, wn_248_247, wn_248_249, wn_248_250, wn_248_251, wn_249_243, wn_249_244, wn_249_245, wn_249_246, wn_249_247, wn_249_248, wn_249_250, wn_249_251, wn_250_243, wn_250_244, wn_250_245, wn_250_246, wn_250_247, wn_250_248, wn_250_249, wn_250_251, wn_251_243, wn_251_244, wn_251_245, wn_251_246, wn_251_247, wn_251_248, wn_251_249, wn_251_250] at hz15 ⊢
    refine j_if_ne C (by decide) dX9_weariness_18 (fun _ => ?_) (fun hc => absurd hc (by decide))
    refine j_iconst C dX9_weariness_42 ?_
    refine j_iret C hrt dX9_weariness_43 ⟨by omega, by omega⟩ ?_
    refine ⟨?_, ?_⟩
    · simp only [qWear]
      repeat (first | rw [if_pos (by omega)] | rw [if_neg (by omega)])
    · simp only [qWear]
      repeat (first | rw [if_pos (by omega)] | rw [if_neg (by omega)])
set_option maxRecDepth 100000 in
set_option maxHeartbeats 4000000 in
theorem c_X9_wearinessAgain {Γ : Ga} {l : Launch} {ω : Wo} (hw : WM ω.2.1) {M : Int} (hI : RI M (ω.1 244))  {a : Int} (ha : Rg a) (hW2 : W2 (ω.1 244))  : CI Γ l yX9_wearinessAgain cX9_wearinessAgain 2 .int 5 [.ref (rl Γ 243), .int (iI a)] ω (fun z ω' => z = (qWear (ω.1 244) a).2 ∧ ω' = wf ω 243 (up (ω.1 243) 6 (qWear (ω.1 244) a).1)) := by
  refine Met.ofJ (k := 0) [some (.ref (rl Γ 243)), some (.int (iI a))] (by decide) rfl rfl rfl (fun p e s mm args below meth c C hrt => ?_)
  refine j_aload0 C dX9_wearinessAgain_0 ?_
  refine j_iload1 C dX9_wearinessAgain_1 ?_
  refine j_cVI1 C (c_X9_weariness (by exact hw) (by exact hI) ha (by exact hW2)) oX9_weariness kX9_214 ⟨_, rfl, rfl⟩ at_243 ⟨by decide, by decide⟩ rfl (Nat.le_of_ble_eq_true rfl) ⟨by decide, by decide⟩ dX9_wearinessAgain_2 ?_
  intro z1 w1 hz1 hp1
  refine j_iret C hrt dX9_wearinessAgain_5 hz1 ?_
  exact hp1
set_option maxRecDepth 100000 in
set_option maxHeartbeats 4000000 in
theorem c_X9_wouldRefuse {Γ : Ga} {l : Launch} {ω : Wo} (hw : WM ω.2.1) {M : Int} (hI : RI M (ω.1 244))  {a : Int} (ha : Rg a) (hW2 : W2 (ω.1 244))  : CI Γ l yX9_wouldRefuse cX9_wouldRefuse 2 .int 5 [.ref (rl Γ 243), .int (iI a)] ω (fun z ω' => z = (qRefuse (ω.1 244) a).2 ∧ ω' = wf ω 243 (up (ω.1 243) 6 (qRefuse (ω.1 244) a).1)) := by
  refine Met.ofJ (k := 0) [some (.ref (rl Γ 243)), some (.int (iI a))] (by decide) rfl rfl rfl (fun p e s mm args below meth c C hrt => ?_)
  have g := hI.s
  have gc := hI.c
  refine j_aload0 C dX9_wouldRefuse_0 ?_
  refine j_aload0 C dX9_wouldRefuse_1 ?_
  refine j_iload1 C dX9_wouldRefuse_2 ?_
  refine j_cVI1 C (c_X9_isBoat (by exact hw) ⟨by omega, by omega⟩ (by exact hI)) oX9_isBoat kX9_155 ⟨_, rfl, rfl⟩ at_243 ⟨by decide, by decide⟩ rfl (Nat.le_of_ble_eq_true rfl) ⟨by decide, by decide⟩ dX9_wouldRefuse_3 ?_
  rintro _ _ hz3 ⟨rfl, rfl⟩
  try simp only [wi_wf, wf_same, wf_wf, tM0, tM1, tM2, tM3, tM4, tM5, tM6, tB0, tB1, tB2, tB3, tB4, tB5, tB6, tL0, tL1, tL2, up_up, wn_243_244, wn_243_245, wn_243_246, wn_243_247, wn_243_248, wn_243_249, wn_243_250, wn_243_251, wn_244_243, wn_244_245, wn_244_246, wn_244_247, wn_244_248, wn_244_249, wn_244_250, wn_244_251, wn_245_243, wn_245_244, wn_245_246, wn_245_247, wn_245_248, wn_245_249, wn_245_250, wn_245_251, wn_246_243, wn_246_244, wn_246_245, wn_246_247, wn_246_248, wn_246_249, wn_246_250, wn_246_251, wn_247_243, wn_247_244, wn_247_245, wn_247_246, wn_247_248, wn_247_249, wn_247_250, wn_247_251, wn_248_243, wn_248_244, wn_248_245, wn_248_246, wn_248_247, wn_248_249, wn_248_250, wn_248_251, wn_249_243, wn_249_244, wn_249_245, wn_249_246, wn_249_247, wn_249_248, wn_249_250, wn_249_251, wn_250_243, wn_250_244, wn_250_245, wn_250_246, wn_250_247, wn_250_248, wn_250_249, wn_250_251, wn_251_243, wn_251_244, wn_251_245, wn_251_246, wn_251_247, wn_251_248, wn_251_249, wn_251_250] at hz3 ⊢
  refine j_ifneb C dX9_wouldRefuse_6 (fun hc6 => ?_) (fun hc6 => ?_)
  · -- 6 T
    refine j_iconst C dX9_wouldRefuse_13 ?_
    refine j_iconst C dX9_wouldRefuse_14 ?_
    refine j_cVI2 C (c_X9_isThrown_0 (by exact hw) ⟨by omega, by omega⟩) oX9_isThrown kX9_207 ⟨_, rfl, rfl⟩ at_243 ⟨by decide, by decide⟩ rfl (Nat.le_of_ble_eq_true rfl) ⟨by decide, by decide⟩ dX9_wouldRefuse_15 ?_
    rintro _ _ hz15 ⟨rfl, rfl⟩
    try simp only [wi_wf, wf_same, wf_wf, tM0, tM1, tM2, tM3, tM4, tM5, tM6, tB0, tB1, tB2, tB3, tB4, tB5, tB6, tL0, tL1, tL2, up_up, wn_243_244, wn_243_245, wn_243_246, wn_243_247, wn_243_248, wn_243_249, wn_243_250, wn_243_251, wn_244_243, wn_244_245, wn_244_246, wn_244_247, wn_244_248, wn_244_249, wn_244_250, wn_244_251, wn_245_243, wn_245_244, wn_245_246, wn_245_247, wn_245_248, wn_245_249, wn_245_250, wn_245_251, wn_246_243, wn_246_244, wn_246_245, wn_246_247, wn_246_248, wn_246_249, wn_246_250, wn_246_251, wn_247_243, wn_247_244, wn_247_245, wn_247_246, wn_247_248, wn_247_249, wn_247_250, wn_247_251, wn_248_243, wn_248_244, wn_248_245, wn_248_246, wn_248_247, wn_248_249, wn_248_250, wn_248_251, wn_249_243, wn_249_244, wn_249_245, wn_249_246, wn_249_247, wn_249_248, wn_249_250, wn_249_251, wn_250_243, wn_250_244, wn_250_245, wn_250_246, wn_250_247, wn_250_248, wn_250_249, wn_250_251, wn_251_243, wn_251_244, wn_251_245, wn_251_246, wn_251_247, wn_251_248, wn_251_249, wn_251_250] at hz15 ⊢
    refine j_if_eq C (by decide) dX9_wouldRefuse_18 (fun _ => ?_) (fun hc => absurd hc (by decide))
    refine j_aload0 C dX9_wouldRefuse_25 ?_
    refine j_iload1 C dX9_wouldRefuse_26 ?_
    have hs2 := hW2.i (b := a) (by omega)
    have gr := whyN_rg (ω.1 244) a
    have gr2 := whyC_rg (ω.1 244) a
    refine j_cVI1 C (c_X9_whyNot (by exact hw) (by omega) (by exact hs2) (by exact hI)) oX9_whyNot kX9_158 ⟨_, rfl, rfl⟩ at_243 ⟨by decide, by decide⟩ rfl (Nat.le_of_ble_eq_true rfl) ⟨by decide, by decide⟩ dX9_wouldRefuse_27 ?_
    rintro _ _ hz27 ⟨rfl, rfl⟩
    try simp only [wi_wf, wf_same, wf_wf, tM0, tM1, tM2, tM3, tM4, tM5, tM6, tB0, tB1, tB2, tB3, tB4, tB5, tB6, tL0, tL1, tL2, up_up, wn_243_244, wn_243_245, wn_243_246, wn_243_247, wn_243_248, wn_243_249, wn_243_250, wn_243_251, wn_244_243, wn_244_245, wn_244_246, wn_244_247, wn_244_248, wn_244_249, wn_244_250, wn_244_251, wn_245_243, wn_245_244, wn_245_246, wn_245_247, wn_245_248, wn_245_249, wn_245_250, wn_245_251, wn_246_243, wn_246_244, wn_246_245, wn_246_247, wn_246_248, wn_246_249, wn_246_250, wn_246_251, wn_247_243, wn_247_244, wn_247_245, wn_247_246, wn_247_248, wn_247_249, wn_247_250, wn_247_251, wn_248_243, wn_248_244, wn_248_245, wn_248_246, wn_248_247, wn_248_249, wn_248_250, wn_248_251, wn_249_243, wn_249_244, wn_249_245, wn_249_246, wn_249_247, wn_249_248, wn_249_250, wn_249_251, wn_250_243, wn_250_244, wn_250_245, wn_250_246, wn_250_247, wn_250_248, wn_250_249, wn_250_251, wn_251_243, wn_251_244, wn_251_245, wn_251_246, wn_251_247, wn_251_248, wn_251_249, wn_251_250] at hz27 ⊢
    refine j_iret C hrt dX9_wouldRefuse_30 (by first | exact hz27 | decide) ?_
    refine ⟨?_, ?_⟩
    · simp only [qRefuse]
      repeat (first | rw [if_pos (by omega)] | rw [if_neg (by omega)])
    · simp only [qRefuse]
      repeat (first | rw [if_pos (by omega)] | rw [if_neg (by omega)])
  · -- 6 F
    refine j_iconst C dX9_wouldRefuse_9 ?_
    refine j_goto C dX9_wouldRefuse_10 ?_
    refine j_iconst C dX9_wouldRefuse_14 ?_
    refine j_cVI2 C (c_X9_isThrown_1 (by exact hw) ⟨by omega, by omega⟩) oX9_isThrown kX9_207 ⟨_, rfl, rfl⟩ at_243 ⟨by decide, by decide⟩ rfl (Nat.le_of_ble_eq_true rfl) ⟨by decide, by decide⟩ dX9_wouldRefuse_15 ?_
    rintro _ _ hz15 ⟨rfl, rfl⟩
    try simp only [wi_wf, wf_same, wf_wf, tM0, tM1, tM2, tM3, tM4, tM5, tM6, tB0, tB1, tB2, tB3, tB4, tB5, tB6, tL0, tL1, tL2, up_up, wn_243_244, wn_243_245, wn_243_246, wn_243_247, wn_243_248, wn_243_249, wn_243_250, wn_243_251, wn_244_243, wn_244_245, wn_244_246, wn_244_247, wn_244_248, wn_244_249, wn_244_250, wn_244_251, wn_245_243, wn_245_244, wn_245_246, wn_245_247, wn_245_248, wn_245_249, wn_245_250, wn_245_251, wn_246_243, wn_246_244, wn_246_245, wn_246_247, wn_246_248, wn_246_249, wn_246_250, wn_246_251, wn_247_243, wn_247_244, wn_247_245, wn_247_246, wn_247_248, wn_247_249, wn_247_250, wn_247_251, wn_248_243, wn_248_244, wn_248_245, wn_248_246, wn_248_247, wn_248_249, wn_248_250, wn_248_251, wn_249_243, wn_249_244, wn_249_245, wn_249_246, wn_249_247, wn_249_248, wn_249_250, wn_249_251, wn_250_243, wn_250_244, wn_250_245, wn_250_246, wn_250_247, wn_250_248, wn_250_249, wn_250_251, wn_251_243, wn_251_244, wn_251_245, wn_251_246, wn_251_247, wn_251_248, wn_251_249, wn_251_250] at hz15 ⊢
    refine j_if_eq C (by decide) dX9_wouldRefuse_18 (fun hc => absurd hc (by decide)) (fun _ => ?_)
    refine j_iconst C dX9_wouldRefuse_21 ?_
    refine j_goto C dX9_wouldRefuse_22 ?_
    refine j_iret C hrt dX9_wouldRefuse_30 (by first | exact hz27 | decide) ?_
    refine ⟨?_, ?_⟩
    · simp only [qRefuse]
      repeat (first | rw [if_pos (by omega)] | rw [if_neg (by omega)])
    · simp only [qRefuse]
      repeat (first | rw [if_pos (by omega)] | rw [if_neg (by omega)])
