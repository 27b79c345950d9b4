set_option maxRecDepth 100000 in
set_option maxHeartbeats 4000000 in
theorem c_X9_isLess {Γ : Ga} {l : Launch} {ω : Wo} (hw : WM ω.2.1)  {m o : Int} (hm : 0 ≤ m ∧ m < 10) (ho : 0 ≤ o ∧ o < 10) {M : Int} (hI : RI M (ω.1 244)) : CI Γ l yX9_isLess cX9_isLess 5 .boolean 1 [.ref (rl Γ 243), .int (iI m), .int (iI o)] ω (fun z ω' => z = bI (lessP (ω.1 244) m o) ∧ ω = ω') := by
  refine Met.ofJ (k := 2) [some (.ref (rl Γ 243)), some (.int (iI m)), some (.int (iI o)), none, none] (by decide) rfl rfl rfl (fun p e s mm args below meth c C hrt => ?_)
  have gm := hI.m m hm
  have go := hI.m o ho
  have gM := hI.2.1
  refine j_aload0 C dX9_isLess_0 ?_
  refine j_iload2 C dX9_isLess_1 ?_
  refine j_iconst C dX9_isLess_2 ?_
  refine j_cVI2 C (c_X9_of (by exact hw) (by omega) (by omega)) oX9_of kX9_103 ⟨_, rfl, rfl⟩ at_243 ⟨by decide, by decide⟩ rfl (Nat.le_of_ble_eq_true rfl) ⟨by decide, by decide⟩ dX9_isLess_3 ?_
  rintro _ _ hz3 ⟨rfl, rfl⟩
  try simp only [wi_wf, wf_same, wf_wf, tM0, tM1, tM2, tM3, tM4, tM5, tM6, tB0, tB1, tB2, tB3, tB4, tB5, tB6, tL0, tL1, tL2, up_up, wn_243_244, wn_243_245, wn_243_246, wn_243_247, wn_243_248, wn_243_249, wn_243_250, wn_243_251, wn_244_243, wn_244_245, wn_244_246, wn_244_247, wn_244_248, wn_244_249, wn_244_250, wn_244_251, wn_245_243, wn_245_244, wn_245_246, wn_245_247, wn_245_248, wn_245_249, wn_245_250, wn_245_251, wn_246_243, wn_246_244, wn_246_245, wn_246_247, wn_246_248, wn_246_249, wn_246_250, wn_246_251, wn_247_243, wn_247_244, wn_247_245, wn_247_246, wn_247_248, wn_247_249, wn_247_250, wn_247_251, wn_248_243, wn_248_244, wn_248_245, wn_248_246, wn_248_247, wn_248_249, wn_248_250, wn_248_251, wn_249_243, wn_249_244, wn_249_245, wn_249_246, wn_249_247, wn_249_248, wn_249_250, wn_249_251, wn_250_243, wn_250_244, wn_250_245, wn_250_246, wn_250_247, wn_250_248, wn_250_249, wn_250_251, wn_251_243, wn_251_244, wn_251_245, wn_251_246, wn_251_247, wn_251_248, wn_251_249, wn_251_250] at hz3 ⊢
  refine j_aload0 C dX9_isLess_6 ?_
  refine j_iload1 C dX9_isLess_7 ?_
  refine j_iconst C dX9_isLess_8 ?_
  refine j_cVI2 C (c_X9_of (by exact hw) (by omega) (by omega)) oX9_of kX9_103 ⟨_, rfl, rfl⟩ at_243 ⟨by decide, by decide⟩ rfl (Nat.le_of_ble_eq_true rfl) ⟨by decide, by decide⟩ dX9_isLess_9 ?_
  rintro _ _ hz9 ⟨rfl, rfl⟩
  try simp only [wi_wf, wf_same, wf_wf, tM0, tM1, tM2, tM3, tM4, tM5, tM6, tB0, tB1, tB2, tB3, tB4, tB5, tB6, tL0, tL1, tL2, up_up, wn_243_244, wn_243_245, wn_243_246, wn_243_247, wn_243_248, wn_243_249, wn_243_250, wn_243_251, wn_244_243, wn_244_245, wn_244_246, wn_244_247, wn_244_248, wn_244_249, wn_244_250, wn_244_251, wn_245_243, wn_245_244, wn_245_246, wn_245_247, wn_245_248, wn_245_249, wn_245_250, wn_245_251, wn_246_243, wn_246_244, wn_246_245, wn_246_247, wn_246_248, wn_246_249, wn_246_250, wn_246_251, wn_247_243, wn_247_244, wn_247_245, wn_247_246, wn_247_248, wn_247_249, wn_247_250, wn_247_251, wn_248_243, wn_248_244, wn_248_245, wn_248_246, wn_248_247, wn_248_249, wn_248_250, wn_248_251, wn_249_243, wn_249_244, wn_249_245, wn_249_246, wn_249_247, wn_249_248, wn_249_250, wn_249_251, wn_250_243, wn_250_244, wn_250_245, wn_250_246, wn_250_247, wn_250_248, wn_250_249, wn_250_251, wn_251_243, wn_251_244, wn_251_245, wn_251_246, wn_251_247, wn_251_248, wn_251_249, wn_251_250] at hz9 ⊢
  refine j_isub C dX9_isLess_12 ?_
  refine j_istore3 C rfl dX9_isLess_13 ?_
  refine j_iload3 C dX9_isLess_14 ?_
  refine j_if_eq C ⟨by omega, by omega⟩ dX9_isLess_15 (fun hc15 => ?_) (fun hc15 => ?_)
  · -- 15 T
    refine j_aload0 C dX9_isLess_28 ?_
    refine j_iload1 C dX9_isLess_29 ?_
    refine j_iconst C dX9_isLess_30 ?_
    refine j_cVI2 C (c_X9_of (by exact hw) (by omega) (by omega)) oX9_of kX9_103 ⟨_, rfl, rfl⟩ at_243 ⟨by decide, by decide⟩ rfl (Nat.le_of_ble_eq_true rfl) ⟨by decide, by decide⟩ dX9_isLess_31 ?_
    rintro _ _ hz31 ⟨rfl, rfl⟩
    try simp only [wi_wf, wf_same, wf_wf, tM0, tM1, tM2, tM3, tM4, tM5, tM6, tB0, tB1, tB2, tB3, tB4, tB5, tB6, tL0, tL1, tL2, up_up, wn_243_244, wn_243_245, wn_243_246, wn_243_247, wn_243_248, wn_243_249, wn_243_250, wn_243_251, wn_244_243, wn_244_245, wn_244_246, wn_244_247, wn_244_248, wn_244_249, wn_244_250, wn_244_251, wn_245_243, wn_245_244, wn_245_246, wn_245_247, wn_245_248, wn_245_249, wn_245_250, wn_245_251, wn_246_243, wn_246_244, wn_246_245, wn_246_247, wn_246_248, wn_246_249, wn_246_250, wn_246_251, wn_247_243, wn_247_244, wn_247_245, wn_247_246, wn_247_248, wn_247_249, wn_247_250, wn_247_251, wn_248_243, wn_248_244, wn_248_245, wn_248_246, wn_248_247, wn_248_249, wn_248_250, wn_248_251, wn_249_243, wn_249_244, wn_249_245, wn_249_246, wn_249_247, wn_249_248, wn_249_250, wn_249_251, wn_250_243, wn_250_244, wn_250_245, wn_250_246, wn_250_247, wn_250_248, wn_250_249, wn_250_251, wn_251_243, wn_251_244, wn_251_245, wn_251_246, wn_251_247, wn_251_248, wn_251_249, wn_251_250] at hz31 ⊢
    refine j_aload0 C dX9_isLess_34 ?_
    refine j_iload2 C dX9_isLess_35 ?_
    refine j_iconst C dX9_isLess_36 ?_
    refine j_cVI2 C (c_X9_of (by exact hw) (by omega) (by omega)) oX9_of kX9_103 ⟨_, rfl, rfl⟩ at_243 ⟨by decide, by decide⟩ rfl (Nat.le_of_ble_eq_true rfl) ⟨by decide, by decide⟩ dX9_isLess_37 ?_
    rintro _ _ hz37 ⟨rfl, rfl⟩
    try simp only [wi_wf, wf_same, wf_wf, tM0, tM1, tM2, tM3, tM4, tM5, tM6, tB0, tB1, tB2, tB3, tB4, tB5, tB6, tL0, tL1, tL2, up_up, wn_243_244, wn_243_245, wn_243_246, wn_243_247, wn_243_248, wn_243_249, wn_243_250, wn_243_251, wn_244_243, wn_244_245, wn_244_246, wn_244_247, wn_244_248, wn_244_249, wn_244_250, wn_244_251, wn_245_243, wn_245_244, wn_245_246, wn_245_247, wn_245_248, wn_245_249, wn_245_250, wn_245_251, wn_246_243, wn_246_244, wn_246_245, wn_246_247, wn_246_248, wn_246_249, wn_246_250, wn_246_251, wn_247_243, wn_247_244, wn_247_245, wn_247_246, wn_247_248, wn_247_249, wn_247_250, wn_247_251, wn_248_243, wn_248_244, wn_248_245, wn_248_246, wn_248_247, wn_248_249, wn_248_250, wn_248_251, wn_249_243, wn_249_244, wn_249_245, wn_249_246, wn_249_247, wn_249_248, wn_249_250, wn_249_251, wn_250_243, wn_250_244, wn_250_245, wn_250_246, wn_250_247, wn_250_248, wn_250_249, wn_250_251, wn_251_243, wn_251_244, wn_251_245, wn_251_246, wn_251_247, wn_251_248, wn_251_249, wn_251_250] at hz37 ⊢
    refine j_isub C dX9_isLess_40 ?_
    refine j_istore4 C rfl dX9_isLess_41 ?_
    refine j_iload4 C dX9_isLess_43 ?_
    refine j_if_eq C ⟨by omega, by omega⟩ dX9_isLess_45 (fun hc45 => ?_) (fun hc45 => ?_)
    · -- 45 T
      refine j_iload1 C dX9_isLess_61 ?_
      refine j_iload2 C dX9_isLess_62 ?_
      refine j_icmp_ge C ⟨by omega, by omega⟩ ⟨by omega, by omega⟩ dX9_isLess_63 (fun hc63 => ?_) (fun hc63 => ?_)
      · -- 63 T
        refine j_iconst C dX9_isLess_70 ?_
        refine j_zret C hrt dX9_isLess_71 (by first | exact Or.inl rfl | exact Or.inr rfl | exact bI_01 _) ?_
        refine ⟨?_, rfl⟩
        simp only [lessP]
        first | exact (bI_t (by omega)).symm | exact (bI_f (by omega)).symm
      · -- 63 F
        refine j_iconst C dX9_isLess_66 ?_
        refine j_goto C dX9_isLess_67 ?_
        refine j_zret C hrt dX9_isLess_71 (by first | exact Or.inl rfl | exact Or.inr rfl | exact bI_01 _) ?_
        refine ⟨?_, rfl⟩
        simp only [lessP]
        first | exact (bI_t (by omega)).symm | exact (bI_f (by omega)).symm
    · -- 45 F
      refine j_iload4 C dX9_isLess_48 ?_
      refine j_if_le C ⟨by omega, by omega⟩ dX9_isLess_50 (fun hc50 => ?_) (fun hc50 => ?_)
      · -- 50 T
        refine j_iconst C dX9_isLess_57 ?_
        refine j_goto C dX9_isLess_58 ?_
        refine j_zret C hrt dX9_isLess_71 (by first | exact Or.inl rfl | exact Or.inr rfl | exact bI_01 _) ?_
        refine ⟨?_, rfl⟩
        simp only [lessP]
        first | exact (bI_t (by omega)).symm | exact (bI_f (by omega)).symm
      · -- 50 F
        refine j_iconst C dX9_isLess_53 ?_
        refine j_goto C dX9_isLess_54 ?_
        refine j_zret C hrt dX9_isLess_71 (by first | exact Or.inl rfl | exact Or.inr rfl | exact bI_01 _) ?_
        refine ⟨?_, rfl⟩
        simp only [lessP]
        first | exact (bI_t (by omega)).symm | exact (bI_f (by omega)).symm
  · -- 15 F
    refine j_iload3 C dX9_isLess_18 ?_
    refine j_if_le C ⟨by omega, by omega⟩ dX9_isLess_19 (fun hc19 => ?_) (fun hc19 => ?_)
    · -- 19 T
      refine j_iconst C dX9_isLess_26 ?_
      refine j_zret C hrt dX9_isLess_27 (by first | exact Or.inl rfl | exact Or.inr rfl | exact bI_01 _) ?_
      refine ⟨?_, rfl⟩
      simp only [lessP]
      first | exact (bI_t (by omega)).symm | exact (bI_f (by omega)).symm
    · -- 19 F
      refine j_iconst C dX9_isLess_22 ?_
      refine j_goto C dX9_isLess_23 ?_
      refine j_zret C hrt dX9_isLess_27 (by first | exact Or.inl rfl | exact Or.inr rfl | exact bI_01 _) ?_
      refine ⟨?_, rfl⟩
      simp only [lessP]
      first | exact (bI_t (by omega)).symm | exact (bI_f (by omega)).symm
set_option maxRecDepth 100000 in
set_option maxHeartbeats 4000000 in
theorem c_X9_isBusier {Γ : Ga} {l : Launch} {ω : Wo} (hw : WM ω.2.1)  {m o : Int} (hm : 0 ≤ m ∧ m < 10) (ho : 0 ≤ o ∧ o < 10) {M : Int} (hI : RI M (ω.1 244)) : CI Γ l yX9_isBusier cX9_isBusier 5 .boolean 1 [.ref (rl Γ 243), .int (iI m), .int (iI o)] ω (fun z ω' => z = bI (busyP (ω.1 244) m o) ∧ ω = ω') := by
  refine Met.ofJ (k := 2) [some (.ref (rl Γ 243)), some (.int (iI m)), some (.int (iI o)), none, none] (by decide) rfl rfl rfl (fun p e s mm args below meth c C hrt => ?_)
  have gm := hI.m m hm
  have go := hI.m o ho
  have gM := hI.2.1
  refine j_aload0 C dX9_isBusier_0 ?_
  refine j_iload1 C dX9_isBusier_1 ?_
  refine j_iconst C dX9_isBusier_2 ?_
  refine j_cVI2 C (c_X9_of (by exact hw) (by omega) (by omega)) oX9_of kX9_103 ⟨_, rfl, rfl⟩ at_243 ⟨by decide, by decide⟩ rfl (Nat.le_of_ble_eq_true rfl) ⟨by decide, by decide⟩ dX9_isBusier_3 ?_
  rintro _ _ hz3 ⟨rfl, rfl⟩
  try simp only [wi_wf, wf_same, wf_wf, tM0, tM1, tM2, tM3, tM4, tM5, tM6, tB0, tB1, tB2, tB3, tB4, tB5, tB6, tL0, tL1, tL2, up_up, wn_243_244, wn_243_245, wn_243_246, wn_243_247, wn_243_248, wn_243_249, wn_243_250, wn_243_251, wn_244_243, wn_244_245, wn_244_246, wn_244_247, wn_244_248, wn_244_249, wn_244_250, wn_244_251, wn_245_243, wn_245_244, wn_245_246, wn_245_247, wn_245_248, wn_245_249, wn_245_250, wn_245_251, wn_246_243, wn_246_244, wn_246_245, wn_246_247, wn_246_248, wn_246_249, wn_246_250, wn_246_251, wn_247_243, wn_247_244, wn_247_245, wn_247_246, wn_247_248, wn_247_249, wn_247_250, wn_247_251, wn_248_243, wn_248_244, wn_248_245, wn_248_246, wn_248_247, wn_248_249, wn_248_250, wn_248_251, wn_249_243, wn_249_244, wn_249_245, wn_249_246, wn_249_247, wn_249_248, wn_249_250, wn_249_251, wn_250_243, wn_250_244, wn_250_245, wn_250_246, wn_250_247, wn_250_248, wn_250_249, wn_250_251, wn_251_243, wn_251_244, wn_251_245, wn_251_246, wn_251_247, wn_251_248, wn_251_249, wn_251_250] at hz3 ⊢
  refine j_aload0 C dX9_isBusier_6 ?_
  refine j_iload2 C dX9_isBusier_7 ?_
  refine j_iconst C dX9_isBusier_8 ?_
  refine j_cVI2 C (c_X9_of (by exact hw) (by omega) (by omega)) oX9_of kX9_103 ⟨_, rfl, rfl⟩ at_243 ⟨by decide, by decide⟩ rfl (Nat.le_of_ble_eq_true rfl) ⟨by decide, by decide⟩ dX9_isBusier_9 ?_
  rintro _ _ hz9 ⟨rfl, rfl⟩
  try simp only [wi_wf, wf_same, wf_wf, tM0, tM1, tM2, tM3, tM4, tM5, tM6, tB0, tB1, tB2, tB3, tB4, tB5, tB6, tL0, tL1, tL2, up_up, wn_243_244, wn_243_245, wn_243_246, wn_243_247, wn_243_248, wn_243_249, wn_243_250, wn_243_251, wn_244_243, wn_244_245, wn_244_246, wn_244_247, wn_244_248, wn_244_249, wn_244_250, wn_244_251, wn_245_243, wn_245_244, wn_245_246, wn_245_247, wn_245_248, wn_245_249, wn_245_250, wn_245_251, wn_246_243, wn_246_244, wn_246_245, wn_246_247, wn_246_248, wn_246_249, wn_246_250, wn_246_251, wn_247_243, wn_247_244, wn_247_245, wn_247_246, wn_247_248, wn_247_249, wn_247_250, wn_247_251, wn_248_243, wn_248_244, wn_248_245, wn_248_246, wn_248_247, wn_248_249, wn_248_250, wn_248_251, wn_249_243, wn_249_244, wn_249_245, wn_249_246, wn_249_247, wn_249_248, wn_249_250, wn_249_251, wn_250_243, wn_250_244, wn_250_245, wn_250_246, wn_250_247, wn_250_248, wn_250_249, wn_250_251, wn_251_243, wn_251_244, wn_251_245, wn_251_246, wn_251_247, wn_251_248, wn_251_249, wn_251_250] at hz9 ⊢
  refine j_isub C dX9_isBusier_12 ?_
  refine j_istore3 C rfl dX9_isBusier_13 ?_
  refine j_iload3 C dX9_isBusier_14 ?_
  refine j_if_eq C ⟨by omega, by omega⟩ dX9_isBusier_15 (fun hc15 => ?_) (fun hc15 => ?_)
  · -- 15 T
    refine j_aload0 C dX9_isBusier_28 ?_
    refine j_iload1 C dX9_isBusier_29 ?_
    refine j_iconst C dX9_isBusier_30 ?_
    refine j_cVI2 C (c_X9_of (by exact hw) (by omega) (by omega)) oX9_of kX9_103 ⟨_, rfl, rfl⟩ at_243 ⟨by decide, by decide⟩ rfl (Nat.le_of_ble_eq_true rfl) ⟨by decide, by decide⟩ dX9_isBusier_31 ?_
    rintro _ _ hz31 ⟨rfl, rfl⟩
    try simp only [wi_wf, wf_same, wf_wf, tM0, tM1, tM2, tM3, tM4, tM5, tM6, tB0, tB1, tB2, tB3, tB4, tB5, tB6, tL0, tL1, tL2, up_up, wn_243_244, wn_243_245, wn_243_246, wn_243_247, wn_243_248, wn_243_249, wn_243_250, wn_243_251, wn_244_243, wn_244_245, wn_244_246, wn_244_247, wn_244_248, wn_244_249, wn_244_250, wn_244_251, wn_245_243, wn_245_244, wn_245_246, wn_245_247, wn_245_248, wn_245_249, wn_245_250, wn_245_251, wn_246_243, wn_246_244, wn_246_245, wn_246_247, wn_246_248, wn_246_249, wn_246_250, wn_246_251, wn_247_243, wn_247_244, wn_247_245, wn_247_246, wn_247_248, wn_247_249, wn_247_250, wn_247_251, wn_248_243, wn_248_244, wn_248_245, wn_248_246, wn_248_247, wn_248_249, wn_248_250, wn_248_251, wn_249_243, wn_249_244, wn_249_245, wn_249_246, wn_249_247, wn_249_248, wn_249_250, wn_249_251, wn_250_243, wn_250_244, wn_250_245, wn_250_246, wn_250_247, wn_250_248, wn_250_249, wn_250_251, wn_251_243, wn_251_244, wn_251_245, wn_251_246, wn_251_247, wn_251_248, wn_251_249, wn_251_250] at hz31 ⊢
    refine j_aload0 C dX9_isBusier_34 ?_
    refine j_iload2 C dX9_isBusier_35 ?_
    refine j_iconst C dX9_isBusier_36 ?_
    refine j_cVI2 C (c_X9_of (by exact hw) (by omega) (by omega)) oX9_of kX9_103 ⟨_, rfl, rfl⟩ at_243 ⟨by decide, by decide⟩ rfl (Nat.le_of_ble_eq_true rfl) ⟨by decide, by decide⟩ dX9_isBusier_37 ?_
    rintro _ _ hz37 ⟨rfl, rfl⟩
    try simp only [wi_wf, wf_same, wf_wf, tM0, tM1, tM2, tM3, tM4, tM5, tM6, tB0, tB1, tB2, tB3, tB4, tB5, tB6, tL0, tL1, tL2, up_up, wn_243_244, wn_243_245, wn_243_246, wn_243_247, wn_243_248, wn_243_249, wn_243_250, wn_243_251, wn_244_243, wn_244_245, wn_244_246, wn_244_247, wn_244_248, wn_244_249, wn_244_250, wn_244_251, wn_245_243, wn_245_244, wn_245_246, wn_245_247, wn_245_248, wn_245_249, wn_245_250, wn_245_251, wn_246_243, wn_246_244, wn_246_245, wn_246_247, wn_246_248, wn_246_249, wn_246_250, wn_246_251, wn_247_243, wn_247_244, wn_247_245, wn_247_246, wn_247_248, wn_247_249, wn_247_250, wn_247_251, wn_248_243, wn_248_244, wn_248_245, wn_248_246, wn_248_247, wn_248_249, wn_248_250, wn_248_251, wn_249_243, wn_249_244, wn_249_245, wn_249_246, wn_249_247, wn_249_248, wn_249_250, wn_249_251, wn_250_243, wn_250_244, wn_250_245, wn_250_246, wn_250_247, wn_250_248, wn_250_249, wn_250_251, wn_251_243, wn_251_244, wn_251_245, wn_251_246, wn_251_247, wn_251_248, wn_251_249, wn_251_250] at hz37 ⊢
    refine j_isub C dX9_isBusier_40 ?_
    refine j_istore4 C rfl dX9_isBusier_41 ?_
    refine j_iload4 C dX9_isBusier_43 ?_
    refine j_if_eq C ⟨by omega, by omega⟩ dX9_isBusier_45 (fun hc45 => ?_) (fun hc45 => ?_)
    · -- 45 T
      refine j_iload1 C dX9_isBusier_61 ?_
      refine j_iload2 C dX9_isBusier_62 ?_
      refine j_icmp_ge C ⟨by omega, by omega⟩ ⟨by omega, by omega⟩ dX9_isBusier_63 (fun hc63 => ?_) (fun hc63 => ?_)
      · -- 63 T
        refine j_iconst C dX9_isBusier_70 ?_
        refine j_zret C hrt dX9_isBusier_71 (by first | exact Or.inl rfl | exact Or.inr rfl | exact bI_01 _) ?_
        refine ⟨?_, rfl⟩
        simp only [busyP]
        first | exact (bI_t (by omega)).symm | exact (bI_f (by omega)).symm
      · -- 63 F
        refine j_iconst C dX9_isBusier_66 ?_
        refine j_goto C dX9_isBusier_67 ?_
        refine j_zret C hrt dX9_isBusier_71 (by first | exact Or.inl rfl | exact Or.inr rfl | exact bI_01 _) ?_
        refine ⟨?_, rfl⟩
        simp only [busyP]
        first | exact (bI_t (by omega)).symm | exact (bI_f (by omega)).symm
    · -- 45 F
      refine j_iload4 C dX9_isBusier_48 ?_
      refine j_if_le C ⟨by omega, by omega⟩ dX9_isBusier_50 (fun hc50 => ?_) (fun hc50 => ?_)
      · -- 50 T
        refine j_iconst C dX9_isBusier_57 ?_
        refine j_goto C dX9_isBusier_58 ?_
        refine j_zret C hrt dX9_isBusier_71 (by first | exact Or.inl rfl | exact Or.inr rfl | exact bI_01 _) ?_
        refine ⟨?_, rfl⟩
        simp only [busyP]
        first | exact (bI_t (by omega)).symm | exact (bI_f (by omega)).symm
      · -- 50 F
        refine j_iconst C dX9_isBusier_53 ?_
        refine j_goto C dX9_isBusier_54 ?_
        refine j_zret C hrt dX9_isBusier_71 (by first | exact Or.inl rfl | exact Or.inr rfl | exact bI_01 _) ?_
        refine ⟨?_, rfl⟩
        simp only [busyP]
        first | exact (bI_t (by omega)).symm | exact (bI_f (by omega)).symm
  · -- 15 F
    refine j_iload3 C dX9_isBusier_18 ?_
    refine j_if_le C ⟨by omega, by omega⟩ dX9_isBusier_19 (fun hc19 => ?_) (fun hc19 => ?_)
    · -- 19 T
      refine j_iconst C dX9_isBusier_26 ?_
      refine j_zret C hrt dX9_isBusier_27 (by first | exact Or.inl rfl | exact Or.inr rfl | exact bI_01 _) ?_
      refine ⟨?_, rfl⟩
      simp only [busyP]
      first | exact (bI_t (by omega)).symm | exact (bI_f (by omega)).symm
    · -- 19 F
      refine j_iconst C dX9_isBusier_22 ?_
      refine j_goto C dX9_isBusier_23 ?_
      refine j_zret C hrt dX9_isBusier_27 (by first | exact Or.inl rfl | exact Or.inr rfl | exact bI_01 _) ?_
      refine ⟨?_, rfl⟩
      simp only [busyP]
      first | exact (bI_t (by omega)).symm | exact (bI_f (by omega)).symm
set_option maxRecDepth 100000 in
set_option maxHeartbeats 4000000 in
theorem c_X9_least {Γ : Ga} {l : Launch} {ω : Wo} (hw : WM ω.2.1) {M : Int} (hI : RI M (ω.1 244))  {a : Int} (ha : Rg a) : CI Γ l yX9_least cX9_least 5 .int 2 [.ref (rl Γ 243), .int (iI a)] ω (fun z ω' => z = (qLeast (ω.1 244) a).2 ∧ ω' = wf ω 243 (up (ω.1 243) 6 (qLeast (ω.1 244) a).1)) := by
  refine Met.ofJ (k := 3) [some (.ref (rl Γ 243)), some (.int (iI a)), none, none, none] (by decide) rfl rfl rfl (fun p e s mm args below meth c C hrt => ?_)
  have g := hI.s
  have gc := hI.c
  refine j_iconst C dX9_least_0 ?_
  refine j_istore2 C rfl dX9_least_1 ?_
  have loop2 : ∀ (N : Nat) (k : Nat), (cM (ω.1 244) - k) < N → (k ≤ cM (ω.1 244)) → (leastUp (ω.1 244) a (cM (ω.1 244) - k) k = leastUp (ω.1 244) a (cM (ω.1 244)) 0) → J Γ p l e (rmk 2 0 0) s mm args below meth c (MQ below (QI Γ (fun z ω' => z = (qLeast (ω.1 244) a).2 ∧ ω' = wf ω 243 (up (ω.1 243) 6 (qLeast (ω.1 244) a).1))) args s 0 0 (gA Γ)) 254 0 0 2 [some (.ref (rl Γ 243)), some (.int (iI a)), some (.int (iI ((k : Nat) : Int))), none, none] [] ω := by
    intro N
    induction N with
    | zero => intro k hN; exact absurd hN (Nat.not_lt_zero _)
    | succ N ih2 =>
      intro k hN hi0 hi1
      have gk := hI.m k
      refine j_iload2 C dX9_least_2 ?_
      refine j_aload0 C dX9_least_3 ?_
      refine j_getr C fX9_9 at_243 rfl hw.r0 dX9_least_4 ?_
      refine j_iconst C dX9_least_7 ?_
      refine j_ialdK C at_244 ⟨rfl, rfl⟩ (N := 111) rfl (by decide) (k := 1) rfl (by decide) dX9_least_8 (fun hr8 => ?_)
      try simp only [wf_same, wn_243_244, wn_243_245, wn_243_246, wn_243_247, wn_243_248, wn_243_249, wn_243_250, wn_243_251, wn_244_243, wn_244_245, wn_244_246, wn_244_247, wn_244_248, wn_244_249, wn_244_250, wn_244_251, wn_245_243, wn_245_244, wn_245_246, wn_245_247, wn_245_248, wn_245_249, wn_245_250, wn_245_251, wn_246_243, wn_246_244, wn_246_245, wn_246_247, wn_246_248, wn_246_249, wn_246_250, wn_246_251, wn_247_243, wn_247_244, wn_247_245, wn_247_246, wn_247_248, wn_247_249, wn_247_250, wn_247_251, wn_248_243, wn_248_244, wn_248_245, wn_248_246, wn_248_247, wn_248_249, wn_248_250, wn_248_251, wn_249_243, wn_249_244, wn_249_245, wn_249_246, wn_249_247, wn_249_248, wn_249_250, wn_249_251, wn_250_243, wn_250_244, wn_250_245, wn_250_246, wn_250_247, wn_250_248, wn_250_249, wn_250_251, wn_251_243, wn_251_244, wn_251_245, wn_251_246, wn_251_247, wn_251_248, wn_251_249, wn_251_250] at hr8 ⊢
      refine j_icmp_ge C ⟨by omega, by omega⟩ ⟨by omega, by omega⟩ dX9_least_9 (fun hc9 => ?_) (fun hc9 => ?_)
      · -- 9 T
        refine j_aload0 C dX9_least_97 ?_
        refine j_iconst C dX9_least_98 ?_
        refine j_putI C fX9_38 at_243 rfl ty_7_6 ⟨by omega, by omega⟩ dX9_least_99 ?_
        try simp only [wi_wf, wf_same, wf_wf, tM0, tM1, tM2, tM3, tM4, tM5, tM6, tB0, tB1, tB2, tB3, tB4, tB5, tB6, tL0, tL1, tL2, up_up, wn_243_244, wn_243_245, wn_243_246, wn_243_247, wn_243_248, wn_243_249, wn_243_250, wn_243_251, wn_244_243, wn_244_245, wn_244_246, wn_244_247, wn_244_248, wn_244_249, wn_244_250, wn_244_251, wn_245_243, wn_245_244, wn_245_246, wn_245_247, wn_245_248, wn_245_249, wn_245_250, wn_245_251, wn_246_243, wn_246_244, wn_246_245, wn_246_247, wn_246_248, wn_246_249, wn_246_250, wn_246_251, wn_247_243, wn_247_244, wn_247_245, wn_247_246, wn_247_248, wn_247_249, wn_247_250, wn_247_251, wn_248_243, wn_248_244, wn_248_245, wn_248_246, wn_248_247, wn_248_249, wn_248_250, wn_248_251, wn_249_243, wn_249_244, wn_249_245, wn_249_246, wn_249_247, wn_249_248, wn_249_250, wn_249_251, wn_250_243, wn_250_244, wn_250_245, wn_250_246, wn_250_247, wn_250_248, wn_250_249, wn_250_251, wn_251_243, wn_251_244, wn_251_245, wn_251_246, wn_251_247, wn_251_248, wn_251_249, wn_251_250]
        refine j_iconst C dX9_least_102 ?_
        refine j_iret C hrt dX9_least_103 ⟨by omega, by omega⟩ ?_
        have hlr : leastUp (ω.1 244) a (cM (ω.1 244)) 0 = -1 := by rw [← hi1, show cM (ω.1 244) - k = 0 by omega]; rfl
        refine ⟨?_, ?_⟩
        · simp only [qLeast]
          rw [if_pos (by omega)]
        · simp only [qLeast]
          rw [if_pos (by omega)]
      · -- 9 F
        refine j_iconst C dX9_least_12 ?_
        refine j_istore3 C rfl dX9_least_13 ?_
        refine j_iconst C dX9_least_14 ?_
        refine j_istore4 C rfl dX9_least_15 ?_
        have hkc : k < cM (ω.1 244) := by omega
        have loop17 : ∀ (N : Nat) (n : Nat), (cM (ω.1 244) - n) < N → (n ≤ cM (ω.1 244)) → J Γ p l e (rmk 2 0 0) s mm args below meth c (MQ below (QI Γ (fun z ω' => z = (qLeast (ω.1 244) a).2 ∧ ω' = wf ω 243 (up (ω.1 243) 6 (qLeast (ω.1 244) a).1))) args s 0 0 (gA Γ)) 254 0 0 17 [some (.ref (rl Γ 243)), some (.int (iI a)), some (.int (iI ((k : Nat) : Int))), some (.int (iI (aheadUp (ω.1 244) k n))), some (.int (iI ((n : Nat) : Int)))] [] ω := by
          intro N
          induction N with
          | zero => intro n hN; exact absurd hN (Nat.not_lt_zero _)
          | succ N ih17 =>
            intro n hN hn0
            have gn := hI.m n
            have go := aheadUp_rg (ω.1 244) k n
            refine j_iload4 C dX9_least_17 ?_
            refine j_aload0 C dX9_least_19 ?_
            refine j_getr C fX9_9 at_243 rfl hw.r0 dX9_least_20 ?_
            refine j_iconst C dX9_least_23 ?_
            refine j_ialdK C at_244 ⟨rfl, rfl⟩ (N := 111) rfl (by decide) (k := 1) rfl (by decide) dX9_least_24 (fun hr24 => ?_)
            try simp only [wf_same, wn_243_244, wn_243_245, wn_243_246, wn_243_247, wn_243_248, wn_243_249, wn_243_250, wn_243_251, wn_244_243, wn_244_245, wn_244_246, wn_244_247, wn_244_248, wn_244_249, wn_244_250, wn_244_251, wn_245_243, wn_245_244, wn_245_246, wn_245_247, wn_245_248, wn_245_249, wn_245_250, wn_245_251, wn_246_243, wn_246_244, wn_246_245, wn_246_247, wn_246_248, wn_246_249, wn_246_250, wn_246_251, wn_247_243, wn_247_244, wn_247_245, wn_247_246, wn_247_248, wn_247_249, wn_247_250, wn_247_251, wn_248_243, wn_248_244, wn_248_245, wn_248_246, wn_248_247, wn_248_249, wn_248_250, wn_248_251, wn_249_243, wn_249_244, wn_249_245, wn_249_246, wn_249_247, wn_249_248, wn_249_250, wn_249_251, wn_250_243, wn_250_244, wn_250_245, wn_250_246, wn_250_247, wn_250_248, wn_250_249, wn_250_251, wn_251_243, wn_251_244, wn_251_245, wn_251_246, wn_251_247, wn_251_248, wn_251_249, wn_251_250] at hr24 ⊢
            refine j_icmp_ge C ⟨by omega, by omega⟩ ⟨by omega, by omega⟩ dX9_least_25 (fun hc25 => ?_) (fun hc25 => ?_)
            · -- 25 T
              have hn9 : n = cM (ω.1 244) := by omega
              subst hn9
              refine j_aload0 C dX9_least_69 ?_
              refine j_iload2 C dX9_least_70 ?_
              refine j_iconst C dX9_least_71 ?_
              refine j_cVI2 C (c_X9_of (by exact hw) (by omega) (by omega)) oX9_of kX9_103 ⟨_, rfl, rfl⟩ at_243 ⟨by decide, by decide⟩ rfl (Nat.le_of_ble_eq_true rfl) ⟨by decide, by decide⟩ dX9_least_72 ?_
              rintro _ _ hz72 ⟨rfl, rfl⟩
              try simp only [wi_wf, wf_same, wf_wf, tM0, tM1, tM2, tM3, tM4, tM5, tM6, tB0, tB1, tB2, tB3, tB4, tB5, tB6, tL0, tL1, tL2, up_up, wn_243_244, wn_243_245, wn_243_246, wn_243_247, wn_243_248, wn_243_249, wn_243_250, wn_243_251, wn_244_243, wn_244_245, wn_244_246, wn_244_247, wn_244_248, wn_244_249, wn_244_250, wn_244_251, wn_245_243, wn_245_244, wn_245_246, wn_245_247, wn_245_248, wn_245_249, wn_245_250, wn_245_251, wn_246_243, wn_246_244, wn_246_245, wn_246_247, wn_246_248, wn_246_249, wn_246_250, wn_246_251, wn_247_243, wn_247_244, wn_247_245, wn_247_246, wn_247_248, wn_247_249, wn_247_250, wn_247_251, wn_248_243, wn_248_244, wn_248_245, wn_248_246, wn_248_247, wn_248_249, wn_248_250, wn_248_251, wn_249_243, wn_249_244, wn_249_245, wn_249_246, wn_249_247, wn_249_248, wn_249_250, wn_249_251, wn_250_243, wn_250_244, wn_250_245, wn_250_246, wn_250_247, wn_250_248, wn_250_249, wn_250_251, wn_251_243, wn_251_244, wn_251_245, wn_251_246, wn_251_247, wn_251_248, wn_251_249, wn_251_250] at hz72 ⊢
              refine j_iconst C dX9_least_75 ?_
              refine j_icmp_eq C ⟨by omega, by omega⟩ ⟨by omega, by omega⟩ dX9_least_76 (fun hc76 => ?_) (fun hc76 => ?_)
              · -- 76 T
                refine j_iinc2n C rfl dX9_least_91 ?_
                refine j_goto C dX9_least_94 ?_
                exact j_fg (ih2 (k + 1) (by omega) (by omega) (by rw [← hi1, show cM (ω.1 244) - k = (cM (ω.1 244) - (k + 1)) + 1 by omega]; exact (leastUp_f (by intro h; omega)).symm)) ⟨Or.inr rfl, Or.inr rfl, Or.inr rfl, Or.inl rfl, Or.inl rfl, trivial⟩ rfl
              · -- 76 F
                refine j_iload3 C dX9_least_79 ?_
                refine j_iload1 C dX9_least_80 ?_
                refine j_icmp_ne C ⟨by omega, by omega⟩ ⟨by omega, by omega⟩ dX9_least_81 (fun hc81 => ?_) (fun hc81 => ?_)
                · -- 81 T
                  refine j_iinc2n C rfl dX9_least_91 ?_
                  refine j_goto C dX9_least_94 ?_
                  exact j_fg (ih2 (k + 1) (by omega) (by omega) (by rw [← hi1, show cM (ω.1 244) - k = (cM (ω.1 244) - (k + 1)) + 1 by omega]; exact (leastUp_f (by intro h; omega)).symm)) ⟨Or.inr rfl, Or.inr rfl, Or.inr rfl, Or.inl rfl, Or.inl rfl, trivial⟩ rfl
                · -- 81 F
                  refine j_aload0 C dX9_least_84 ?_
                  refine j_iconst C dX9_least_85 ?_
                  refine j_putI C fX9_38 at_243 rfl ty_7_6 ⟨by omega, by omega⟩ dX9_least_86 ?_
                  try simp only [wi_wf, wf_same, wf_wf, tM0, tM1, tM2, tM3, tM4, tM5, tM6, tB0, tB1, tB2, tB3, tB4, tB5, tB6, tL0, tL1, tL2, up_up, wn_243_244, wn_243_245, wn_243_246, wn_243_247, wn_243_248, wn_243_249, wn_243_250, wn_243_251, wn_244_243, wn_244_245, wn_244_246, wn_244_247, wn_244_248, wn_244_249, wn_244_250, wn_244_251, wn_245_243, wn_245_244, wn_245_246, wn_245_247, wn_245_248, wn_245_249, wn_245_250, wn_245_251, wn_246_243, wn_246_244, wn_246_245, wn_246_247, wn_246_248, wn_246_249, wn_246_250, wn_246_251, wn_247_243, wn_247_244, wn_247_245, wn_247_246, wn_247_248, wn_247_249, wn_247_250, wn_247_251, wn_248_243, wn_248_244, wn_248_245, wn_248_246, wn_248_247, wn_248_249, wn_248_250, wn_248_251, wn_249_243, wn_249_244, wn_249_245, wn_249_246, wn_249_247, wn_249_248, wn_249_250, wn_249_251, wn_250_243, wn_250_244, wn_250_245, wn_250_246, wn_250_247, wn_250_248, wn_250_249, wn_250_251, wn_251_243, wn_251_244, wn_251_245, wn_251_246, wn_251_247, wn_251_248, wn_251_249, wn_251_250]
                  refine j_iload2 C dX9_least_89 ?_
                  refine j_iret C hrt dX9_least_90 ⟨by omega, by omega⟩ ?_
                  have hlr : leastUp (ω.1 244) a (cM (ω.1 244)) 0 = (k : Int) := by rw [← hi1, show cM (ω.1 244) - k = (cM (ω.1 244) - (k + 1)) + 1 by omega]; exact (leastUp_t ⟨by omega, by omega⟩)
                  refine ⟨?_, ?_⟩
                  · simp only [qLeast]
                    rw [if_neg (by omega), hlr]
                  · simp only [qLeast]
                    rw [if_neg (by omega)]
            · -- 25 F
              refine j_iload3 C dX9_least_28 ?_
              refine j_iload4 C dX9_least_29 ?_
              refine j_iload2 C dX9_least_31 ?_
              refine j_icmp_eq C ⟨by omega, by omega⟩ ⟨by omega, by omega⟩ dX9_least_32 (fun hc32 => ?_) (fun hc32 => ?_)
              · -- 32 T
                refine j_iconst C dX9_least_60 ?_
                refine j_iadd C dX9_least_61 ?_
                refine j_istore3 C rfl dX9_least_62 ?_
                refine j_iinc4n C rfl dX9_least_63 ?_
                refine j_goto C dX9_least_66 ?_
                exact j_fg (ih17 (n + 1) (by omega) (by omega)) ⟨Or.inr rfl, Or.inr rfl, Or.inr rfl, Or.inr (sI (by simp only [aheadUp]; first | rw [if_pos ⟨by omega, by assumption, by assumption⟩] | rw [if_neg (fun h => absurd h.1 (by omega))] | rw [if_neg (fun h => absurd h.2.1 (by omega))] | rw [if_neg (fun h => absurd h.2.2 (by assumption))])), Or.inr rfl, trivial⟩ rfl
              · -- 32 F
                refine j_aload0 C dX9_least_35 ?_
                refine j_iload4 C dX9_least_36 ?_
                refine j_iconst C dX9_least_38 ?_
                refine j_cVI2 C (c_X9_of (by exact hw) (by omega) (by omega)) oX9_of kX9_103 ⟨_, rfl, rfl⟩ at_243 ⟨by decide, by decide⟩ rfl (Nat.le_of_ble_eq_true rfl) ⟨by decide, by decide⟩ dX9_least_39 ?_
                rintro _ _ hz39 ⟨rfl, rfl⟩
                try simp only [wi_wf, wf_same, wf_wf, tM0, tM1, tM2, tM3, tM4, tM5, tM6, tB0, tB1, tB2, tB3, tB4, tB5, tB6, tL0, tL1, tL2, up_up, wn_243_244, wn_243_245, wn_243_246, wn_243_247, wn_243_248, wn_243_249, wn_243_250, wn_243_251, wn_244_243, wn_244_245, wn_244_246, wn_244_247, wn_244_248, wn_244_249, wn_244_250, wn_244_251, wn_245_243, wn_245_244, wn_245_246, wn_245_247, wn_245_248, wn_245_249, wn_245_250, wn_245_251, wn_246_243, wn_246_244, wn_246_245, wn_246_247, wn_246_248, wn_246_249, wn_246_250, wn_246_251, wn_247_243, wn_247_244, wn_247_245, wn_247_246, wn_247_248, wn_247_249, wn_247_250, wn_247_251, wn_248_243, wn_248_244, wn_248_245, wn_248_246, wn_248_247, wn_248_249, wn_248_250, wn_248_251, wn_249_243, wn_249_244, wn_249_245, wn_249_246, wn_249_247, wn_249_248, wn_249_250, wn_249_251, wn_250_243, wn_250_244, wn_250_245, wn_250_246, wn_250_247, wn_250_248, wn_250_249, wn_250_251, wn_251_243, wn_251_244, wn_251_245, wn_251_246, wn_251_247, wn_251_248, wn_251_249, wn_251_250] at hz39 ⊢
                refine j_iconst C dX9_least_42 ?_
                refine j_icmp_eq C ⟨by omega, by omega⟩ ⟨by omega, by omega⟩ dX9_least_43 (fun hc43 => ?_) (fun hc43 => ?_)
                · -- 43 T
                  refine j_iconst C dX9_least_60 ?_
                  refine j_iadd C dX9_least_61 ?_
                  refine j_istore3 C rfl dX9_least_62 ?_
                  refine j_iinc4n C rfl dX9_least_63 ?_
                  refine j_goto C dX9_least_66 ?_
                  exact j_fg (ih17 (n + 1) (by omega) (by omega)) ⟨Or.inr rfl, Or.inr rfl, Or.inr rfl, Or.inr (sI (by simp only [aheadUp]; first | rw [if_pos ⟨by omega, by assumption, by assumption⟩] | rw [if_neg (fun h => absurd h.1 (by omega))] | rw [if_neg (fun h => absurd h.2.1 (by omega))] | rw [if_neg (fun h => absurd h.2.2 (by assumption))])), Or.inr rfl, trivial⟩ rfl
                · -- 43 F
                  refine j_aload0 C dX9_least_46 ?_
                  refine j_iload4 C dX9_least_47 ?_
                  refine j_iload2 C dX9_least_49 ?_
                  refine j_cVI2 C (c_X9_isLess (by exact hw) (by omega) (by omega) (by exact hI)) oX9_isLess kX9_220 ⟨_, rfl, rfl⟩ at_243 ⟨by decide, by decide⟩ rfl (Nat.le_of_ble_eq_true rfl) ⟨by decide, by decide⟩ dX9_least_50 ?_
                  rintro _ _ hz50 ⟨rfl, rfl⟩
                  try simp only [wi_wf, wf_same, wf_wf, tM0, tM1, tM2, tM3, tM4, tM5, tM6, tB0, tB1, tB2, tB3, tB4, tB5, tB6, tL0, tL1, tL2, up_up, wn_243_244, wn_243_245, wn_243_246, wn_243_247, wn_243_248, wn_243_249, wn_243_250, wn_243_251, wn_244_243, wn_244_245, wn_244_246, wn_244_247, wn_244_248, wn_244_249, wn_244_250, wn_244_251, wn_245_243, wn_245_244, wn_245_246, wn_245_247, wn_245_248, wn_245_249, wn_245_250, wn_245_251, wn_246_243, wn_246_244, wn_246_245, wn_246_247, wn_246_248, wn_246_249, wn_246_250, wn_246_251, wn_247_243, wn_247_244, wn_247_245, wn_247_246, wn_247_248, wn_247_249, wn_247_250, wn_247_251, wn_248_243, wn_248_244, wn_248_245, wn_248_246, wn_248_247, wn_248_249, wn_248_250, wn_248_251, wn_249_243, wn_249_244, wn_249_245, wn_249_246, wn_249_247, wn_249_248, wn_249_250, wn_249_251, wn_250_243, wn_250_244, wn_250_245, wn_250_246, wn_250_247, wn_250_248, wn_250_249, wn_250_251, wn_251_243, wn_251_244, wn_251_245, wn_251_246, wn_251_247, wn_251_248, wn_251_249, wn_251_250] at hz50 ⊢
                  refine j_ifeqb C dX9_least_53 (fun hc53 => ?_) (fun hc53 => ?_)
                  · -- 53 T
                    refine j_iconst C dX9_least_56 ?_
                    refine j_goto C dX9_least_57 ?_
                    refine j_iadd C dX9_least_61 ?_
                    refine j_istore3 C rfl dX9_least_62 ?_
                    refine j_iinc4n C rfl dX9_least_63 ?_
                    refine j_goto C dX9_least_66 ?_
                    exact j_fg (ih17 (n + 1) (by omega) (by omega)) ⟨Or.inr rfl, Or.inr rfl, Or.inr rfl, Or.inr (sI (by simp only [aheadUp]; first | rw [if_pos ⟨by omega, by assumption, by assumption⟩] | rw [if_neg (fun h => absurd h.1 (by omega))] | rw [if_neg (fun h => absurd h.2.1 (by omega))] | rw [if_neg (fun h => absurd h.2.2 (by assumption))])), Or.inr rfl, trivial⟩ rfl
                  · -- 53 F
                    refine j_iconst C dX9_least_60 ?_
                    refine j_iadd C dX9_least_61 ?_
                    refine j_istore3 C rfl dX9_least_62 ?_
                    refine j_iinc4n C rfl dX9_least_63 ?_
                    refine j_goto C dX9_least_66 ?_
                    exact j_fg (ih17 (n + 1) (by omega) (by omega)) ⟨Or.inr rfl, Or.inr rfl, Or.inr rfl, Or.inr (sI (by simp only [aheadUp]; first | rw [if_pos ⟨by omega, by assumption, by assumption⟩] | rw [if_neg (fun h => absurd h.1 (by omega))] | rw [if_neg (fun h => absurd h.2.1 (by omega))] | rw [if_neg (fun h => absurd h.2.2 (by assumption))])), Or.inr rfl, trivial⟩ rfl
        exact loop17 _ 0 (Nat.lt_succ_self _) (Nat.zero_le _)
  exact j_fg (loop2 _ 0 (Nat.lt_succ_self _) (Nat.zero_le _) rfl) ⟨Or.inr rfl, Or.inr rfl, Or.inr rfl, Or.inl rfl, Or.inl rfl, trivial⟩ rfl
set_option maxRecDepth 100000 in
set_option maxHeartbeats 4000000 in
theorem c_X9_busiest {Γ : Ga} {l : Launch} {ω : Wo} (hw : WM ω.2.1) {M : Int} (hI : RI M (ω.1 244))  {a : Int} (ha : Rg a) : CI Γ l yX9_busiest cX9_busiest 5 .int 2 [.ref (rl Γ 243), .int (iI a)] ω (fun z ω' => z = (qBusy (ω.1 244) a).2 ∧ ω' = wf ω 243 (up (ω.1 243) 6 (qBusy (ω.1 244) a).1)) := by
  refine Met.ofJ (k := 3) [some (.ref (rl Γ 243)), some (.int (iI a)), none, none, none] (by decide) rfl rfl rfl (fun p e s mm args below meth c C hrt => ?_)
  have g := hI.s
  have gc := hI.c
  refine j_iconst C dX9_busiest_0 ?_
  refine j_istore2 C rfl dX9_busiest_1 ?_
  have loop2 : ∀ (N : Nat) (k : Nat), (cM (ω.1 244) - k) < N → (k ≤ cM (ω.1 244)) → (busyUp (ω.1 244) a (cM (ω.1 244) - k) k = busyUp (ω.1 244) a (cM (ω.1 244)) 0) → J Γ p l e (rmk 2 0 0) s mm args below meth c (MQ below (QI Γ (fun z ω' => z = (qBusy (ω.1 244) a).2 ∧ ω' = wf ω 243 (up (ω.1 243) 6 (qBusy (ω.1 244) a).1))) args s 0 0 (gA Γ)) 254 0 0 2 [some (.ref (rl Γ 243)), some (.int (iI a)), some (.int (iI ((k : Nat) : Int))), none, none] [] ω := by
    intro N
    induction N with
    | zero => intro k hN; exact absurd hN (Nat.not_lt_zero _)
    | succ N ih2 =>
      intro k hN hi0 hi1
      have gk := hI.m k
      refine j_iload2 C dX9_busiest_2 ?_
      refine j_aload0 C dX9_busiest_3 ?_
      refine j_getr C fX9_9 at_243 rfl hw.r0 dX9_busiest_4 ?_
      refine j_iconst C dX9_busiest_7 ?_
      refine j_ialdK C at_244 ⟨rfl, rfl⟩ (N := 111) rfl (by decide) (k := 1) rfl (by decide) dX9_busiest_8 (fun hr8 => ?_)
      try simp only [wf_same, wn_243_244, wn_243_245, wn_243_246, wn_243_247, wn_243_248, wn_243_249, wn_243_250, wn_243_251, wn_244_243, wn_244_245, wn_244_246, wn_244_247, wn_244_248, wn_244_249, wn_244_250, wn_244_251, wn_245_243, wn_245_244, wn_245_246, wn_245_247, wn_245_248, wn_245_249, wn_245_250, wn_245_251, wn_246_243, wn_246_244, wn_246_245, wn_246_247, wn_246_248, wn_246_249, wn_246_250, wn_246_251, wn_247_243, wn_247_244, wn_247_245, wn_247_246, wn_247_248, wn_247_249, wn_247_250, wn_247_251, wn_248_243, wn_248_244, wn_248_245, wn_248_246, wn_248_247, wn_248_249, wn_248_250, wn_248_251, wn_249_243, wn_249_244, wn_249_245, wn_249_246, wn_249_247, wn_249_248, wn_249_250, wn_249_251, wn_250_243, wn_250_244, wn_250_245, wn_250_246, wn_250_247, wn_250_248, wn_250_249, wn_250_251, wn_251_243, wn_251_244, wn_251_245, wn_251_246, wn_251_247, wn_251_248, wn_251_249, wn_251_250] at hr8 ⊢
      refine j_icmp_ge C ⟨by omega, by omega⟩ ⟨by omega, by omega⟩ dX9_busiest_9 (fun hc9 => ?_) (fun hc9 => ?_)
      · -- 9 T
        refine j_aload0 C dX9_busiest_76 ?_
        refine j_iconst C dX9_busiest_77 ?_
        refine j_putI C fX9_38 at_243 rfl ty_7_6 ⟨by omega, by omega⟩ dX9_busiest_78 ?_
        try simp only [wi_wf, wf_same, wf_wf, tM0, tM1, tM2, tM3, tM4, tM5, tM6, tB0, tB1, tB2, tB3, tB4, tB5, tB6, tL0, tL1, tL2, up_up, wn_243_244, wn_243_245, wn_243_246, wn_243_247, wn_243_248, wn_243_249, wn_243_250, wn_243_251, wn_244_243, wn_244_245, wn_244_246, wn_244_247, wn_244_248, wn_244_249, wn_244_250, wn_244_251, wn_245_243, wn_245_244, wn_245_246, wn_245_247, wn_245_248, wn_245_249, wn_245_250, wn_245_251, wn_246_243, wn_246_244, wn_246_245, wn_246_247, wn_246_248, wn_246_249, wn_246_250, wn_246_251, wn_247_243, wn_247_244, wn_247_245, wn_247_246, wn_247_248, wn_247_249, wn_247_250, wn_247_251, wn_248_243, wn_248_244, wn_248_245, wn_248_246, wn_248_247, wn_248_249, wn_248_250, wn_248_251, wn_249_243, wn_249_244, wn_249_245, wn_249_246, wn_249_247, wn_249_248, wn_249_250, wn_249_251, wn_250_243, wn_250_244, wn_250_245, wn_250_246, wn_250_247, wn_250_248, wn_250_249, wn_250_251, wn_251_243, wn_251_244, wn_251_245, wn_251_246, wn_251_247, wn_251_248, wn_251_249, wn_251_250]
        refine j_iconst C dX9_busiest_81 ?_
        refine j_iret C hrt dX9_busiest_82 ⟨by omega, by omega⟩ ?_
        have hlr : busyUp (ω.1 244) a (cM (ω.1 244)) 0 = -1 := by rw [← hi1, show cM (ω.1 244) - k = 0 by omega]; rfl
        refine ⟨?_, ?_⟩
        · simp only [qBusy]
          rw [if_pos (by omega)]
        · simp only [qBusy]
          rw [if_pos (by omega)]
      · -- 9 F
        refine j_iconst C dX9_busiest_12 ?_
        refine j_istore3 C rfl dX9_busiest_13 ?_
        refine j_iconst C dX9_busiest_14 ?_
        refine j_istore4 C rfl dX9_busiest_15 ?_
        have hkc : k < cM (ω.1 244) := by omega
        have loop17 : ∀ (N : Nat) (n : Nat), (cM (ω.1 244) - n) < N → (n ≤ cM (ω.1 244)) → J Γ p l e (rmk 2 0 0) s mm args below meth c (MQ below (QI Γ (fun z ω' => z = (qBusy (ω.1 244) a).2 ∧ ω' = wf ω 243 (up (ω.1 243) 6 (qBusy (ω.1 244) a).1))) args s 0 0 (gA Γ)) 254 0 0 17 [some (.ref (rl Γ 243)), some (.int (iI a)), some (.int (iI ((k : Nat) : Int))), some (.int (iI (aheadUpB (ω.1 244) k n))), some (.int (iI ((n : Nat) : Int)))] [] ω := by
          intro N
          induction N with
          | zero => intro n hN; exact absurd hN (Nat.not_lt_zero _)
          | succ N ih17 =>
            intro n hN hn0
            have gn := hI.m n
            have go := aheadUpB_rg (ω.1 244) k n
            refine j_iload4 C dX9_busiest_17 ?_
            refine j_aload0 C dX9_busiest_19 ?_
            refine j_getr C fX9_9 at_243 rfl hw.r0 dX9_busiest_20 ?_
            refine j_iconst C dX9_busiest_23 ?_
            refine j_ialdK C at_244 ⟨rfl, rfl⟩ (N := 111) rfl (by decide) (k := 1) rfl (by decide) dX9_busiest_24 (fun hr24 => ?_)
            try simp only [wf_same, wn_243_244, wn_243_245, wn_243_246, wn_243_247, wn_243_248, wn_243_249, wn_243_250, wn_243_251, wn_244_243, wn_244_245, wn_244_246, wn_244_247, wn_244_248, wn_244_249, wn_244_250, wn_244_251, wn_245_243, wn_245_244, wn_245_246, wn_245_247, wn_245_248, wn_245_249, wn_245_250, wn_245_251, wn_246_243, wn_246_244, wn_246_245, wn_246_247, wn_246_248, wn_246_249, wn_246_250, wn_246_251, wn_247_243, wn_247_244, wn_247_245, wn_247_246, wn_247_248, wn_247_249, wn_247_250, wn_247_251, wn_248_243, wn_248_244, wn_248_245, wn_248_246, wn_248_247, wn_248_249, wn_248_250, wn_248_251, wn_249_243, wn_249_244, wn_249_245, wn_249_246, wn_249_247, wn_249_248, wn_249_250, wn_249_251, wn_250_243, wn_250_244, wn_250_245, wn_250_246, wn_250_247, wn_250_248, wn_250_249, wn_250_251, wn_251_243, wn_251_244, wn_251_245, wn_251_246, wn_251_247, wn_251_248, wn_251_249, wn_251_250] at hr24 ⊢
            refine j_icmp_ge C ⟨by omega, by omega⟩ ⟨by omega, by omega⟩ dX9_busiest_25 (fun hc25 => ?_) (fun hc25 => ?_)
            · -- 25 T
              have hn9 : n = cM (ω.1 244) := by omega
              subst hn9
              refine j_iload3 C dX9_busiest_58 ?_
              refine j_iload1 C dX9_busiest_59 ?_
              refine j_icmp_ne C ⟨by omega, by omega⟩ ⟨by omega, by omega⟩ dX9_busiest_60 (fun hc60 => ?_) (fun hc60 => ?_)
              · -- 60 T
                refine j_iinc2n C rfl dX9_busiest_70 ?_
                refine j_goto C dX9_busiest_73 ?_
                exact j_fg (ih2 (k + 1) (by omega) (by omega) (by rw [← hi1, show cM (ω.1 244) - k = (cM (ω.1 244) - (k + 1)) + 1 by omega]; exact (busyUp_f (by omega)).symm)) ⟨Or.inr rfl, Or.inr rfl, Or.inr rfl, Or.inl rfl, Or.inl rfl, trivial⟩ rfl
              · -- 60 F
                refine j_aload0 C dX9_busiest_63 ?_
                refine j_iconst C dX9_busiest_64 ?_
                refine j_putI C fX9_38 at_243 rfl ty_7_6 ⟨by omega, by omega⟩ dX9_busiest_65 ?_
                try simp only [wi_wf, wf_same, wf_wf, tM0, tM1, tM2, tM3, tM4, tM5, tM6, tB0, tB1, tB2, tB3, tB4, tB5, tB6, tL0, tL1, tL2, up_up, wn_243_244, wn_243_245, wn_243_246, wn_243_247, wn_243_248, wn_243_249, wn_243_250, wn_243_251, wn_244_243, wn_244_245, wn_244_246, wn_244_247, wn_244_248, wn_244_249, wn_244_250, wn_244_251, wn_245_243, wn_245_244, wn_245_246, wn_245_247, wn_245_248, wn_245_249, wn_245_250, wn_245_251, wn_246_243, wn_246_244, wn_246_245, wn_246_247, wn_246_248, wn_246_249, wn_246_250, wn_246_251, wn_247_243, wn_247_244, wn_247_245, wn_247_246, wn_247_248, wn_247_249, wn_247_250, wn_247_251, wn_248_243, wn_248_244, wn_248_245, wn_248_246, wn_248_247, wn_248_249, wn_248_250, wn_248_251, wn_249_243, wn_249_244, wn_249_245, wn_249_246, wn_249_247, wn_249_248, wn_249_250, wn_249_251, wn_250_243, wn_250_244, wn_250_245, wn_250_246, wn_250_247, wn_250_248, wn_250_249, wn_250_251, wn_251_243, wn_251_244, wn_251_245, wn_251_246, wn_251_247, wn_251_248, wn_251_249, wn_251_250]
                refine j_iload2 C dX9_busiest_68 ?_
                refine j_iret C hrt dX9_busiest_69 ⟨by omega, by omega⟩ ?_
                have hlr : busyUp (ω.1 244) a (cM (ω.1 244)) 0 = (k : Int) := by rw [← hi1, show cM (ω.1 244) - k = (cM (ω.1 244) - (k + 1)) + 1 by omega]; exact (busyUp_t (by omega))
                refine ⟨?_, ?_⟩
                · simp only [qBusy]
                  rw [if_neg (by omega), hlr]
                · simp only [qBusy]
                  rw [if_neg (by omega)]
            · -- 25 F
              refine j_iload3 C dX9_busiest_28 ?_
              refine j_iload4 C dX9_busiest_29 ?_
              refine j_iload2 C dX9_busiest_31 ?_
              refine j_icmp_eq C ⟨by omega, by omega⟩ ⟨by omega, by omega⟩ dX9_busiest_32 (fun hc32 => ?_) (fun hc32 => ?_)
              · -- 32 T
                refine j_iconst C dX9_busiest_49 ?_
                refine j_iadd C dX9_busiest_50 ?_
                refine j_istore3 C rfl dX9_busiest_51 ?_
                refine j_iinc4n C rfl dX9_busiest_52 ?_
                refine j_goto C dX9_busiest_55 ?_
                exact j_fg (ih17 (n + 1) (by omega) (by omega)) ⟨Or.inr rfl, Or.inr rfl, Or.inr rfl, Or.inr (sI (by simp only [aheadUpB]; first | rw [if_pos ⟨by omega, by assumption⟩] | rw [if_neg (fun h => absurd h.1 (by omega))] | rw [if_neg (fun h => absurd h.2 (by assumption))])), Or.inr rfl, trivial⟩ rfl
              · -- 32 F
                refine j_aload0 C dX9_busiest_35 ?_
                refine j_iload4 C dX9_busiest_36 ?_
                refine j_iload2 C dX9_busiest_38 ?_
                refine j_cVI2 C (c_X9_isBusier (by exact hw) (by omega) (by omega) (by exact hI)) oX9_isBusier kX9_224 ⟨_, rfl, rfl⟩ at_243 ⟨by decide, by decide⟩ rfl (Nat.le_of_ble_eq_true rfl) ⟨by decide, by decide⟩ dX9_busiest_39 ?_
                rintro _ _ hz39 ⟨rfl, rfl⟩
                try simp only [wi_wf, wf_same, wf_wf, tM0, tM1, tM2, tM3, tM4, tM5, tM6, tB0, tB1, tB2, tB3, tB4, tB5, tB6, tL0, tL1, tL2, up_up, wn_243_244, wn_243_245, wn_243_246, wn_243_247, wn_243_248, wn_243_249, wn_243_250, wn_243_251, wn_244_243, wn_244_245, wn_244_246, wn_244_247, wn_244_248, wn_244_249, wn_244_250, wn_244_251, wn_245_243, wn_245_244, wn_245_246, wn_245_247, wn_245_248, wn_245_249, wn_245_250, wn_245_251, wn_246_243, wn_246_244, wn_246_245, wn_246_247, wn_246_248, wn_246_249, wn_246_250, wn_246_251, wn_247_243, wn_247_244, wn_247_245, wn_247_246, wn_247_248, wn_247_249, wn_247_250, wn_247_251, wn_248_243, wn_248_244, wn_248_245, wn_248_246, wn_248_247, wn_248_249, wn_248_250, wn_248_251, wn_249_243, wn_249_244, wn_249_245, wn_249_246, wn_249_247, wn_249_248, wn_249_250, wn_249_251, wn_250_243, wn_250_244, wn_250_245, wn_250_246, wn_250_247, wn_250_248, wn_250_249, wn_250_251, wn_251_243, wn_251_244, wn_251_245, wn_251_246, wn_251_247, wn_251_248, wn_251_249, wn_251_250] at hz39 ⊢
                refine j_ifeqb C dX9_busiest_42 (fun hc42 => ?_) (fun hc42 => ?_)
                · -- 42 T
                  refine j_iconst C dX9_busiest_45 ?_
                  refine j_goto C dX9_busiest_46 ?_
                  refine j_iadd C dX9_busiest_50 ?_
                  refine j_istore3 C rfl dX9_busiest_51 ?_
                  refine j_iinc4n C rfl dX9_busiest_52 ?_
                  refine j_goto C dX9_busiest_55 ?_
                  exact j_fg (ih17 (n + 1) (by omega) (by omega)) ⟨Or.inr rfl, Or.inr rfl, Or.inr rfl, Or.inr (sI (by simp only [aheadUpB]; first | rw [if_pos ⟨by omega, by assumption⟩] | rw [if_neg (fun h => absurd h.1 (by omega))] | rw [if_neg (fun h => absurd h.2 (by assumption))])), Or.inr rfl, trivial⟩ rfl
                · -- 42 F
                  refine j_iconst C dX9_busiest_49 ?_
                  refine j_iadd C dX9_busiest_50 ?_
                  refine j_istore3 C rfl dX9_busiest_51 ?_
                  refine j_iinc4n C rfl dX9_busiest_52 ?_
                  refine j_goto C dX9_busiest_55 ?_
                  exact j_fg (ih17 (n + 1) (by omega) (by omega)) ⟨Or.inr rfl, Or.inr rfl, Or.inr rfl, Or.inr (sI (by simp only [aheadUpB]; first | rw [if_pos ⟨by omega, by assumption⟩] | rw [if_neg (fun h => absurd h.1 (by omega))] | rw [if_neg (fun h => absurd h.2 (by assumption))])), Or.inr rfl, trivial⟩ rfl
        exact loop17 _ 0 (Nat.lt_succ_self _) (Nat.zero_le _)
  exact j_fg (loop2 _ 0 (Nat.lt_succ_self _) (Nat.zero_le _) rfl) ⟨Or.inr rfl, Or.inr rfl, Or.inr rfl, Or.inl rfl, Or.inl rfl, trivial⟩ rfl
set_option maxRecDepth 100000 in
set_option maxHeartbeats 4000000 in
theorem c_X9_boatsOut {Γ : Ga} {l : Launch} {ω : Wo} (hw : WM ω.2.1)  {M : Int} (hI : RI M (ω.1 244)) : CI Γ l yX9_boatsOut cX9_boatsOut 3 .int 1 [.ref (rl Γ 243)] ω (fun z ω' => z = bOutUp (ω.1 244) (cB (ω.1 244)) ∧ ω = ω') := by
  refine Met.ofJ (k := 2) [some (.ref (rl Γ 243)), none, none] (by decide) rfl rfl rfl (fun p e s mm args below meth c C hrt => ?_)
  have g := hI.s
  have gc := hI.c
  refine j_iconst C dX9_boatsOut_0 ?_
  refine j_istore1 C rfl dX9_boatsOut_1 ?_
  refine j_iconst C dX9_boatsOut_2 ?_
  refine j_istore2 C rfl dX9_boatsOut_3 ?_
  have loop4 : ∀ (N : Nat) (k : Nat), (cB (ω.1 244) - k) < N → (k ≤ cB (ω.1 244)) → J Γ p l e (rmk 1 0 0) s mm args below meth c (MQ below (QI Γ (fun z ω' => z = bOutUp (ω.1 244) (cB (ω.1 244)) ∧ ω = ω')) args s 0 0 (gA Γ)) 254 0 0 4 [some (.ref (rl Γ 243)), some (.int (iI (bOutUp (ω.1 244) k))), some (.int (iI ((k : Nat) : Int)))] [] ω := by
    intro N
    induction N with
    | zero => intro k hN; exact absurd hN (Nat.not_lt_zero _)
    | succ N ih4 =>
      intro k hN hi0
      have gl := hI.b k
      have go := fun h => bOutUp_rg hI k h
      refine j_iload2 C dX9_boatsOut_4 ?_
      refine j_aload0 C dX9_boatsOut_5 ?_
      refine j_getr C fX9_9 at_243 rfl hw.r0 dX9_boatsOut_6 ?_
      refine j_iconst C dX9_boatsOut_9 ?_
      refine j_ialdK C at_244 ⟨rfl, rfl⟩ (N := 111) rfl (by decide) (k := 2) rfl (by decide) dX9_boatsOut_10 (fun hr10 => ?_)
      try simp only [wf_same, wn_243_244, wn_243_245, wn_243_246, wn_243_247, wn_243_248, wn_243_249, wn_243_250, wn_243_251, wn_244_243, wn_244_245, wn_244_246, wn_244_247, wn_244_248, wn_244_249, wn_244_250, wn_244_251, wn_245_243, wn_245_244, wn_245_246, wn_245_247, wn_245_248, wn_245_249, wn_245_250, wn_245_251, wn_246_243, wn_246_244, wn_246_245, wn_246_247, wn_246_248, wn_246_249, wn_246_250, wn_246_251, wn_247_243, wn_247_244, wn_247_245, wn_247_246, wn_247_248, wn_247_249, wn_247_250, wn_247_251, wn_248_243, wn_248_244, wn_248_245, wn_248_246, wn_248_247, wn_248_249, wn_248_250, wn_248_251, wn_249_243, wn_249_244, wn_249_245, wn_249_246, wn_249_247, wn_249_248, wn_249_250, wn_249_251, wn_250_243, wn_250_244, wn_250_245, wn_250_246, wn_250_247, wn_250_248, wn_250_249, wn_250_251, wn_251_243, wn_251_244, wn_251_245, wn_251_246, wn_251_247, wn_251_248, wn_251_249, wn_251_250] at hr10 ⊢
      refine j_icmp_ge C ⟨by omega, by omega⟩ ⟨by omega, by omega⟩ dX9_boatsOut_11 (fun hc11 => ?_) (fun hc11 => ?_)
      · -- 11 T
        refine j_iload1 C dX9_boatsOut_29 ?_
        refine j_iret C hrt dX9_boatsOut_30 ⟨by omega, by omega⟩ ?_
        have : k = cB (ω.1 244) := by omega
        subst this
        exact ⟨rfl, rfl⟩
      · -- 11 F
        refine j_iload1 C dX9_boatsOut_14 ?_
        refine j_aload0 C dX9_boatsOut_15 ?_
        refine j_iload2 C dX9_boatsOut_16 ?_
        refine j_iconst C dX9_boatsOut_17 ?_
        refine j_cVI2 C (c_X9_ofBoat (by exact hw) (by omega) (by omega)) oX9_ofBoat kX9_72 ⟨_, rfl, rfl⟩ at_243 ⟨by decide, by decide⟩ rfl (Nat.le_of_ble_eq_true rfl) ⟨by decide, by decide⟩ dX9_boatsOut_18 ?_
        rintro _ _ hz18 ⟨rfl, rfl⟩
        try simp only [wi_wf, wf_same, wf_wf, tM0, tM1, tM2, tM3, tM4, tM5, tM6, tB0, tB1, tB2, tB3, tB4, tB5, tB6, tL0, tL1, tL2, up_up, wn_243_244, wn_243_245, wn_243_246, wn_243_247, wn_243_248, wn_243_249, wn_243_250, wn_243_251, wn_244_243, wn_244_245, wn_244_246, wn_244_247, wn_244_248, wn_244_249, wn_244_250, wn_244_251, wn_245_243, wn_245_244, wn_245_246, wn_245_247, wn_245_248, wn_245_249, wn_245_250, wn_245_251, wn_246_243, wn_246_244, wn_246_245, wn_246_247, wn_246_248, wn_246_249, wn_246_250, wn_246_251, wn_247_243, wn_247_244, wn_247_245, wn_247_246, wn_247_248, wn_247_249, wn_247_250, wn_247_251, wn_248_243, wn_248_244, wn_248_245, wn_248_246, wn_248_247, wn_248_249, wn_248_250, wn_248_251, wn_249_243, wn_249_244, wn_249_245, wn_249_246, wn_249_247, wn_249_248, wn_249_250, wn_249_251, wn_250_243, wn_250_244, wn_250_245, wn_250_246, wn_250_247, wn_250_248, wn_250_249, wn_250_251, wn_251_243, wn_251_244, wn_251_245, wn_251_246, wn_251_247, wn_251_248, wn_251_249, wn_251_250] at hz18 ⊢
        refine j_iadd C dX9_boatsOut_21 ?_
        refine j_istore1 C rfl dX9_boatsOut_22 ?_
        refine j_iinc2n C rfl dX9_boatsOut_23 ?_
        refine j_goto C dX9_boatsOut_26 ?_
        exact ih4 (k + 1) (by omega) (by omega)
  exact loop4 _ 0 (Nat.lt_succ_self _) (Nat.zero_le _)
set_option maxRecDepth 100000 in
set_option maxHeartbeats 4000000 in
theorem c_X9_callableIn {Γ : Ga} {l : Launch} {ω : Wo} (hw : WM ω.2.1) {M : Int} (hI : RI M (ω.1 244))  {a : Int} (ha : Rg a) (hW1 : W1 (ω.1 244)) (hW2 : W2 (ω.1 244)) (hM : M + 3000 ≤ 100000000) (hz6 : ∀ y, 111 ≤ y → ω.1 246 y = 0) : CI Γ l yX9_callableIn cX9_callableIn 4 .int 5 [.ref (rl Γ 243), .int (iI a)] ω (fun z ω' => z = (qCallable (ω.1 244) a).2 ∧ ω' = if ¬ (0 ≤ a ∧ a ≤ (ω.1 244) 2 - 1) then wf ω 243 (up (ω.1 243) 6 1) else wf (wf ω 246 (ω.1 244)) 243 (up (ω.1 243) 6 (qCallable (ω.1 244) a).1)) := by
  refine Met.ofJ (k := 2) [some (.ref (rl Γ 243)), some (.int (iI a)), none, none] (by decide) rfl rfl rfl (fun p e s mm args below meth c C hrt => ?_)
  have g := hI.s
  have gc := hI.c
  refine j_aload0 C dX9_callableIn_0 ?_
  refine j_aload0 C dX9_callableIn_1 ?_
  refine j_iload1 C dX9_callableIn_2 ?_
  refine j_cVI1 C (c_X9_isBoat (by exact hw) ⟨by omega, by omega⟩ (by exact hI)) oX9_isBoat kX9_155 ⟨_, rfl, rfl⟩ at_243 ⟨by decide, by decide⟩ rfl (Nat.le_of_ble_eq_true rfl) ⟨by decide, by decide⟩ dX9_callableIn_3 ?_
  rintro _ _ hz3 ⟨rfl, rfl⟩
  try simp only [wi_wf, wf_same, wf_wf, tM0, tM1, tM2, tM3, tM4, tM5, tM6, tB0, tB1, tB2, tB3, tB4, tB5, tB6, tL0, tL1, tL2, up_up, wn_243_244, wn_243_245, wn_243_246, wn_243_247, wn_243_248, wn_243_249, wn_243_250, wn_243_251, wn_244_243, wn_244_245, wn_244_246, wn_244_247, wn_244_248, wn_244_249, wn_244_250, wn_244_251, wn_245_243, wn_245_244, wn_245_246, wn_245_247, wn_245_248, wn_245_249, wn_245_250, wn_245_251, wn_246_243, wn_246_244, wn_246_245, wn_246_247, wn_246_248, wn_246_249, wn_246_250, wn_246_251, wn_247_243, wn_247_244, wn_247_245, wn_247_246, wn_247_248, wn_247_249, wn_247_250, wn_247_251, wn_248_243, wn_248_244, wn_248_245, wn_248_246, wn_248_247, wn_248_249, wn_248_250, wn_248_251, wn_249_243, wn_249_244, wn_249_245, wn_249_246, wn_249_247, wn_249_248, wn_249_250, wn_249_251, wn_250_243, wn_250_244, wn_250_245, wn_250_246, wn_250_247, wn_250_248, wn_250_249, wn_250_251, wn_251_243, wn_251_244, wn_251_245, wn_251_246, wn_251_247, wn_251_248, wn_251_249, wn_251_250] at hz3 ⊢
  refine j_ifneb C dX9_callableIn_6 (fun hc6 => ?_) (fun hc6 => ?_)
  · -- 6 T
    refine j_iconst C dX9_callableIn_13 ?_
    refine j_iconst C dX9_callableIn_14 ?_
    refine j_cVI2 C (c_X9_isThrown_0 (by exact hw) ⟨by omega, by omega⟩) oX9_isThrown kX9_207 ⟨_, rfl, rfl⟩ at_243 ⟨by decide, by decide⟩ rfl (Nat.le_of_ble_eq_true rfl) ⟨by decide, by decide⟩ dX9_callableIn_15 ?_
    rintro _ _ hz15 ⟨rfl, rfl⟩
    try simp only [wi_wf, wf_same, wf_wf, tM0, tM1, tM2, tM3, tM4, tM5, tM6, tB0, tB1, tB2, tB3, tB4, tB5, tB6, tL0, tL1, tL2, up_up, wn_243_244, wn_243_245, wn_243_246, wn_243_247, wn_243_248, wn_243_249, wn_243_250, wn_243_251, wn_244_243, wn_244_245, wn_244_246, wn_244_247, wn_244_248, wn_244_249, wn_244_250, wn_244_251, wn_245_243, wn_245_244, wn_245_246, wn_245_247, wn_245_248, wn_245_249, wn_245_250, wn_245_251, wn_246_243, wn_246_244, wn_246_245, wn_246_247, wn_246_248, wn_246_249, wn_246_250, wn_246_251, wn_247_243, wn_247_244, wn_247_245, wn_247_246, wn_247_248, wn_247_249, wn_247_250, wn_247_251, wn_248_243, wn_248_244, wn_248_245, wn_248_246, wn_248_247, wn_248_249, wn_248_250, wn_248_251, wn_249_243, wn_249_244, wn_249_245, wn_249_246, wn_249_247, wn_249_248, wn_249_250, wn_249_251, wn_250_243, wn_250_244, wn_250_245, wn_250_246, wn_250_247, wn_250_248, wn_250_249, wn_250_251, wn_251_243, wn_251_244, wn_251_245, wn_251_246, wn_251_247, wn_251_248, wn_251_249, wn_251_250] at hz15 ⊢
    refine j_if_eq C (by decide) dX9_callableIn_18 (fun _ => ?_) (fun hc => absurd hc (by decide))
    refine j_aload0 C dX9_callableIn_23 ?_
    refine j_getr C fX9_9 at_243 rfl hw.r0 dX9_callableIn_24 ?_
    refine j_iconst C dX9_callableIn_27 ?_
    refine j_aload0 C dX9_callableIn_28 ?_
    refine j_getr C fX9_16 at_243 rfl hw.r2 dX9_callableIn_29 ?_
    refine j_iconst C dX9_callableIn_32 ?_
    refine j_cSV4 C (c_X9_copies (f := 0) (g := 0) (n1 := 111) (n2 := 111) at_244 ⟨rfl, rfl⟩ rfl at_246 ⟨rfl, rfl⟩ rfl (by omega) (by omega) (by decide) (Or.inl (by decide))) oX9_copies kX9_41 ⟨by decide, by decide⟩ rfl (Nat.le_of_ble_eq_true rfl) ⟨by decide, by decide⟩ dX9_callableIn_33 ?_
    rintro _ rfl
    try simp only [wi_wf, wf_same, wf_wf, tM0, tM1, tM2, tM3, tM4, tM5, tM6, tB0, tB1, tB2, tB3, tB4, tB5, tB6, tL0, tL1, tL2, up_up, wn_243_244, wn_243_245, wn_243_246, wn_243_247, wn_243_248, wn_243_249, wn_243_250, wn_243_251, wn_244_243, wn_244_245, wn_244_246, wn_244_247, wn_244_248, wn_244_249, wn_244_250, wn_244_251, wn_245_243, wn_245_244, wn_245_246, wn_245_247, wn_245_248, wn_245_249, wn_245_250, wn_245_251, wn_246_243, wn_246_244, wn_246_245, wn_246_247, wn_246_248, wn_246_249, wn_246_250, wn_246_251, wn_247_243, wn_247_244, wn_247_245, wn_247_246, wn_247_248, wn_247_249, wn_247_250, wn_247_251, wn_248_243, wn_248_244, wn_248_245, wn_248_246, wn_248_247, wn_248_249, wn_248_250, wn_248_251, wn_249_243, wn_249_244, wn_249_245, wn_249_246, wn_249_247, wn_249_248, wn_249_250, wn_249_251, wn_250_243, wn_250_244, wn_250_245, wn_250_246, wn_250_247, wn_250_248, wn_250_249, wn_250_251, wn_251_243, wn_251_244, wn_251_245, wn_251_246, wn_251_247, wn_251_248, wn_251_249, wn_251_250]
    rw [cpy_full hI.z hz6]
    refine j_iconst C dX9_callableIn_36 ?_
    refine j_istore2 C rfl dX9_callableIn_37 ?_
    have hs2 := hW2.i (b := a) (by omega)
    have loop38 : ∀ (N : Nat) (n : Nat), (49 - n) < N → (n ≤ 48) → (callUp (ω.1 244) a (48 - n) n = callUp (ω.1 244) a 48 0) → J Γ p l e (rmk 5 0 0) s mm args below meth c (MQ below (QI Γ (fun z ω' => z = (qCallable (ω.1 244) a).2 ∧ ω' = if ¬ (0 ≤ a ∧ a ≤ (ω.1 244) 2 - 1) then wf ω 243 (up (ω.1 243) 6 1) else wf (wf ω 246 (ω.1 244)) 243 (up (ω.1 243) 6 (qCallable (ω.1 244) a).1))) args s 0 0 (gA Γ)) 254 0 0 38 [some (.ref (rl Γ 243)), some (.int (iI a)), some (.int (iI ((n : Nat) : Int))), none] [] (wf (wf (wf ω 243 (up (ω.1 243) 6 0)) 246 (ω.1 244)) 244 (hoursUp (ω.1 244) n)) := by
      intro N
      induction N with
      | zero => intro n hN; exact absurd hN (Nat.not_lt_zero _)
      | succ N ih38 =>
        intro n hN hi0 hi1
        have hIn := hoursUp_RI hI n (by omega)
        have hWn := W1_hours hW1 n
        have hsn := seat_hours hI n (by omega) (b := a) (by omega)
        have gn := hIn.s
        have hs3 : 2 ≤ sB (hoursUp (ω.1 244) n) a 1 := by omega
        have gyr := whyN_rg (hoursUp (ω.1 244) n) a
        refine j_iload2 C dX9_callableIn_38 ?_
        refine j_bipush C (by decide) dX9_callableIn_39 ?_
        refine j_icmp_ge C ⟨by omega, by omega⟩ ⟨by omega, by omega⟩ dX9_callableIn_41 (fun hc41 => ?_) (fun hc41 => ?_)
        · -- 41 T
          have hn9 : callUp (ω.1 244) a 48 0 = n := by rw [← hi1]; exact show callUp (ω.1 244) a (48 - n) n = n by rw [show 48 - n = 0 by omega]; rfl
          refine j_aload0 C dX9_callableIn_62 ?_
          refine j_iload1 C dX9_callableIn_63 ?_
          refine j_cVI1 C (c_X9_whyNot (by exact hw) (by omega) (by exact hs3) (by exact hIn)) oX9_whyNot kX9_158 ⟨_, rfl, rfl⟩ at_243 ⟨by decide, by decide⟩ rfl (Nat.le_of_ble_eq_true rfl) ⟨by decide, by decide⟩ dX9_callableIn_64 ?_
          rintro _ _ hz64 ⟨rfl, rfl⟩
          try simp only [wi_wf, wf_same, wf_wf, tM0, tM1, tM2, tM3, tM4, tM5, tM6, tB0, tB1, tB2, tB3, tB4, tB5, tB6, tL0, tL1, tL2, up_up, wn_243_244, wn_243_245, wn_243_246, wn_243_247, wn_243_248, wn_243_249, wn_243_250, wn_243_251, wn_244_243, wn_244_245, wn_244_246, wn_244_247, wn_244_248, wn_244_249, wn_244_250, wn_244_251, wn_245_243, wn_245_244, wn_245_246, wn_245_247, wn_245_248, wn_245_249, wn_245_250, wn_245_251, wn_246_243, wn_246_244, wn_246_245, wn_246_247, wn_246_248, wn_246_249, wn_246_250, wn_246_251, wn_247_243, wn_247_244, wn_247_245, wn_247_246, wn_247_248, wn_247_249, wn_247_250, wn_247_251, wn_248_243, wn_248_244, wn_248_245, wn_248_246, wn_248_247, wn_248_249, wn_248_250, wn_248_251, wn_249_243, wn_249_244, wn_249_245, wn_249_246, wn_249_247, wn_249_248, wn_249_250, wn_249_251, wn_250_243, wn_250_244, wn_250_245, wn_250_246, wn_250_247, wn_250_248, wn_250_249, wn_250_251, wn_251_243, wn_251_244, wn_251_245, wn_251_246, wn_251_247, wn_251_248, wn_251_249, wn_251_250] at hz64 ⊢
          refine j_if_ne C ⟨by omega, by omega⟩ dX9_callableIn_67 (fun hc67 => ?_) (fun hc67 => ?_)
          · -- 67 T
            refine j_iconst C dX9_callableIn_74 ?_
            refine j_istore3 C rfl dX9_callableIn_75 ?_
            refine j_aload0 C dX9_callableIn_76 ?_
            refine j_getr C fX9_16 at_243 rfl hw.r2 dX9_callableIn_77 ?_
            refine j_iconst C dX9_callableIn_80 ?_
            refine j_aload0 C dX9_callableIn_81 ?_
            refine j_getr C fX9_9 at_243 rfl hw.r0 dX9_callableIn_82 ?_
            refine j_iconst C dX9_callableIn_85 ?_
            refine j_cSV4 C (c_X9_copies (f := 0) (g := 0) (n1 := 111) (n2 := 111) at_246 ⟨rfl, rfl⟩ rfl at_244 ⟨rfl, rfl⟩ rfl (by omega) (by omega) (by decide) (Or.inl (by decide))) oX9_copies kX9_41 ⟨by decide, by decide⟩ rfl (Nat.le_of_ble_eq_true rfl) ⟨by decide, by decide⟩ dX9_callableIn_86 ?_
            rintro _ rfl
            simp only [wi_wf, wf_same, wf_wf, tM0, tM1, tM2, tM3, tM4, tM5, tM6, tB0, tB1, tB2, tB3, tB4, tB5, tB6, tL0, tL1, tL2, up_up, wn_243_244, wn_243_245, wn_243_246, wn_243_247, wn_243_248, wn_243_249, wn_243_250, wn_243_251, wn_244_243, wn_244_245, wn_244_246, wn_244_247, wn_244_248, wn_244_249, wn_244_250, wn_244_251, wn_245_243, wn_245_244, wn_245_246, wn_245_247, wn_245_248, wn_245_249, wn_245_250, wn_245_251, wn_246_243, wn_246_244, wn_246_245, wn_246_247, wn_246_248, wn_246_249, wn_246_250, wn_246_251, wn_247_243, wn_247_244, wn_247_245, wn_247_246, wn_247_248, wn_247_249, wn_247_250, wn_247_251, wn_248_243, wn_248_244, wn_248_245, wn_248_246, wn_248_247, wn_248_249, wn_248_250, wn_248_251, wn_249_243, wn_249_244, wn_249_245, wn_249_246, wn_249_247, wn_249_248, wn_249_250, wn_249_251, wn_250_243, wn_250_244, wn_250_245, wn_250_246, wn_250_247, wn_250_248, wn_250_249, wn_250_251, wn_251_243, wn_251_244, wn_251_245, wn_251_246, wn_251_247, wn_251_248, wn_251_249, wn_251_250]
            rw [cpy_full hI.z hIn.z]
            refine j_aload0 C dX9_callableIn_89 ?_
            refine j_iload3 C dX9_callableIn_90 ?_
            refine j_if_ne C (by decide) dX9_callableIn_91 (fun hc => absurd hc (by decide)) (fun _ => ?_)
            refine j_iconst C dX9_callableIn_94 ?_
            refine j_goto C dX9_callableIn_95 ?_
            refine j_iconst C dX9_callableIn_99 ?_
            refine j_cVI2 C (c_X9_isThrown_1 (by exact hw) ⟨by omega, by omega⟩) oX9_isThrown kX9_207 ⟨_, rfl, rfl⟩ at_243 ⟨by decide, by decide⟩ rfl (Nat.le_of_ble_eq_true rfl) ⟨by decide, by decide⟩ dX9_callableIn_100 ?_
            rintro _ _ hz100 ⟨rfl, rfl⟩
            try simp only [wi_wf, wf_same, wf_wf, tM0, tM1, tM2, tM3, tM4, tM5, tM6, tB0, tB1, tB2, tB3, tB4, tB5, tB6, tL0, tL1, tL2, up_up, wn_243_244, wn_243_245, wn_243_246, wn_243_247, wn_243_248, wn_243_249, wn_243_250, wn_243_251, wn_244_243, wn_244_245, wn_244_246, wn_244_247, wn_244_248, wn_244_249, wn_244_250, wn_244_251, wn_245_243, wn_245_244, wn_245_246, wn_245_247, wn_245_248, wn_245_249, wn_245_250, wn_245_251, wn_246_243, wn_246_244, wn_246_245, wn_246_247, wn_246_248, wn_246_249, wn_246_250, wn_246_251, wn_247_243, wn_247_244, wn_247_245, wn_247_246, wn_247_248, wn_247_249, wn_247_250, wn_247_251, wn_248_243, wn_248_244, wn_248_245, wn_248_246, wn_248_247, wn_248_249, wn_248_250, wn_248_251, wn_249_243, wn_249_244, wn_249_245, wn_249_246, wn_249_247, wn_249_248, wn_249_250, wn_249_251, wn_250_243, wn_250_244, wn_250_245, wn_250_246, wn_250_247, wn_250_248, wn_250_249, wn_250_251, wn_251_243, wn_251_244, wn_251_245, wn_251_246, wn_251_247, wn_251_248, wn_251_249, wn_251_250] at hz100 ⊢
            refine j_if_eq C (by decide) dX9_callableIn_103 (fun hc => absurd hc (by decide)) (fun _ => ?_)
            refine j_iconst C dX9_callableIn_106 ?_
            refine j_goto C dX9_callableIn_107 ?_
            refine j_iret C hrt dX9_callableIn_111 ⟨by omega, by omega⟩ ?_
            have h43 : ∀ v, wf (wf (wf (wf ω 243 (up (ω.1 243) 6 0)) 246 (ω.1 244)) 244 (ω.1 244)) 243 (up (ω.1 243) 6 v) = wf (wf ω 246 (ω.1 244)) 243 (up (ω.1 243) 6 v) := fun v => by
              refine wo_ext (fun x => ?_) rfl
              simp only [wf]
              by_cases h1 : x = 243
              · simp [h1]
              · by_cases h2 : x = 246
                · simp [h2]
                · by_cases h3 : x = 244
                  · simp [h3]
                  · simp [h1, h2, h3]
            refine ⟨?_, ?_⟩
            · simp only [qCallable]
              rw [if_neg (by omega), hn9]
              first | rw [if_pos (by omega)] | rw [if_neg (by omega)]
            · rw [if_neg (by omega), h43]
              simp only [qCallable]
              rw [if_neg (by omega), hn9]
              first | rw [if_pos (by omega)] | rw [if_neg (by omega)]
          · -- 67 F
            refine j_iconst C dX9_callableIn_70 ?_
            refine j_goto C dX9_callableIn_71 ?_
            refine j_istore3 C rfl dX9_callableIn_75 ?_
            refine j_aload0 C dX9_callableIn_76 ?_
            refine j_getr C fX9_16 at_243 rfl hw.r2 dX9_callableIn_77 ?_
            refine j_iconst C dX9_callableIn_80 ?_
            refine j_aload0 C dX9_callableIn_81 ?_
            refine j_getr C fX9_9 at_243 rfl hw.r0 dX9_callableIn_82 ?_
            refine j_iconst C dX9_callableIn_85 ?_
            refine j_cSV4 C (c_X9_copies (f := 0) (g := 0) (n1 := 111) (n2 := 111) at_246 ⟨rfl, rfl⟩ rfl at_244 ⟨rfl, rfl⟩ rfl (by omega) (by omega) (by decide) (Or.inl (by decide))) oX9_copies kX9_41 ⟨by decide, by decide⟩ rfl (Nat.le_of_ble_eq_true rfl) ⟨by decide, by decide⟩ dX9_callableIn_86 ?_
            rintro _ rfl
            simp only [wi_wf, wf_same, wf_wf, tM0, tM1, tM2, tM3, tM4, tM5, tM6, tB0, tB1, tB2, tB3, tB4, tB5, tB6, tL0, tL1, tL2, up_up, wn_243_244, wn_243_245, wn_243_246, wn_243_247, wn_243_248, wn_243_249, wn_243_250, wn_243_251, wn_244_243, wn_244_245, wn_244_246, wn_244_247, wn_244_248, wn_244_249, wn_244_250, wn_244_251, wn_245_243, wn_245_244, wn_245_246, wn_245_247, wn_245_248, wn_245_249, wn_245_250, wn_245_251, wn_246_243, wn_246_244, wn_246_245, wn_246_247, wn_246_248, wn_246_249, wn_246_250, wn_246_251, wn_247_243, wn_247_244, wn_247_245, wn_247_246, wn_247_248, wn_247_249, wn_247_250, wn_247_251, wn_248_243, wn_248_244, wn_248_245, wn_248_246, wn_248_247, wn_248_249, wn_248_250, wn_248_251, wn_249_243, wn_249_244, wn_249_245, wn_249_246, wn_249_247, wn_249_248, wn_249_250, wn_249_251, wn_250_243, wn_250_244, wn_250_245, wn_250_246, wn_250_247, wn_250_248, wn_250_249, wn_250_251, wn_251_243, wn_251_244, wn_251_245, wn_251_246, wn_251_247, wn_251_248, wn_251_249, wn_251_250]
            rw [cpy_full hI.z hIn.z]
            refine j_aload0 C dX9_callableIn_89 ?_
            refine j_iload3 C dX9_callableIn_90 ?_
            refine j_if_ne C (by decide) dX9_callableIn_91 (fun _ => ?_) (fun hc => absurd hc (by decide))
            refine j_iconst C dX9_callableIn_98 ?_
            refine j_iconst C dX9_callableIn_99 ?_
            refine j_cVI2 C (c_X9_isThrown_0 (by exact hw) ⟨by omega, by omega⟩) oX9_isThrown kX9_207 ⟨_, rfl, rfl⟩ at_243 ⟨by decide, by decide⟩ rfl (Nat.le_of_ble_eq_true rfl) ⟨by decide, by decide⟩ dX9_callableIn_100 ?_
            rintro _ _ hz100 ⟨rfl, rfl⟩
            try simp only [wi_wf, wf_same, wf_wf, tM0, tM1, tM2, tM3, tM4, tM5, tM6, tB0, tB1, tB2, tB3, tB4, tB5, tB6, tL0, tL1, tL2, up_up, wn_243_244, wn_243_245, wn_243_246, wn_243_247, wn_243_248, wn_243_249, wn_243_250, wn_243_251, wn_244_243, wn_244_245, wn_244_246, wn_244_247, wn_244_248, wn_244_249, wn_244_250, wn_244_251, wn_245_243, wn_245_244, wn_245_246, wn_245_247, wn_245_248, wn_245_249, wn_245_250, wn_245_251, wn_246_243, wn_246_244, wn_246_245, wn_246_247, wn_246_248, wn_246_249, wn_246_250, wn_246_251, wn_247_243, wn_247_244, wn_247_245, wn_247_246, wn_247_248, wn_247_249, wn_247_250, wn_247_251, wn_248_243, wn_248_244, wn_248_245, wn_248_246, wn_248_247, wn_248_249, wn_248_250, wn_248_251, wn_249_243, wn_249_244, wn_249_245, wn_249_246, wn_249_247, wn_249_248, wn_249_250, wn_249_251, wn_250_243, wn_250_244, wn_250_245, wn_250_246, wn_250_247, wn_250_248, wn_250_249, wn_250_251, wn_251_243, wn_251_244, wn_251_245, wn_251_246, wn_251_247, wn_251_248, wn_251_249, wn_251_250] at hz100 ⊢
            refine j_if_eq C (by decide) dX9_callableIn_103 (fun _ => ?_) (fun hc => absurd hc (by decide))
            refine j_iload2 C dX9_callableIn_110 ?_
            refine j_iret C hrt dX9_callableIn_111 ⟨by omega, by omega⟩ ?_
            have h43 : ∀ v, wf (wf (wf (wf ω 243 (up (ω.1 243) 6 0)) 246 (ω.1 244)) 244 (ω.1 244)) 243 (up (ω.1 243) 6 v) = wf (wf ω 246 (ω.1 244)) 243 (up (ω.1 243) 6 v) := fun v => by
              refine wo_ext (fun x => ?_) rfl
              simp only [wf]
              by_cases h1 : x = 243
              · simp [h1]
              · by_cases h2 : x = 246
                · simp [h2]
                · by_cases h3 : x = 244
                  · simp [h3]
                  · simp [h1, h2, h3]
            refine ⟨?_, ?_⟩
            · simp only [qCallable]
              rw [if_neg (by omega), hn9]
              first | rw [if_pos (by omega)] | rw [if_neg (by omega)]
            · rw [if_neg (by omega), h43]
              simp only [qCallable]
              rw [if_neg (by omega), hn9]
              first | rw [if_pos (by omega)] | rw [if_neg (by omega)]
        · -- 41 F
          refine j_aload0 C dX9_callableIn_44 ?_
          refine j_iload1 C dX9_callableIn_45 ?_
          refine j_cVI1 C (c_X9_whyNot (by exact hw) (by omega) (by exact hs3) (by exact hIn)) oX9_whyNot kX9_158 ⟨_, rfl, rfl⟩ at_243 ⟨by decide, by decide⟩ rfl (Nat.le_of_ble_eq_true rfl) ⟨by decide, by decide⟩ dX9_callableIn_46 ?_
          rintro _ _ hz46 ⟨rfl, rfl⟩
          try simp only [wi_wf, wf_same, wf_wf, tM0, tM1, tM2, tM3, tM4, tM5, tM6, tB0, tB1, tB2, tB3, tB4, tB5, tB6, tL0, tL1, tL2, up_up, wn_243_244, wn_243_245, wn_243_246, wn_243_247, wn_243_248, wn_243_249, wn_243_250, wn_243_251, wn_244_243, wn_244_245, wn_244_246, wn_244_247, wn_244_248, wn_244_249, wn_244_250, wn_244_251, wn_245_243, wn_245_244, wn_245_246, wn_245_247, wn_245_248, wn_245_249, wn_245_250, wn_245_251, wn_246_243, wn_246_244, wn_246_245, wn_246_247, wn_246_248, wn_246_249, wn_246_250, wn_246_251, wn_247_243, wn_247_244, wn_247_245, wn_247_246, wn_247_248, wn_247_249, wn_247_250, wn_247_251, wn_248_243, wn_248_244, wn_248_245, wn_248_246, wn_248_247, wn_248_249, wn_248_250, wn_248_251, wn_249_243, wn_249_244, wn_249_245, wn_249_246, wn_249_247, wn_249_248, wn_249_250, wn_249_251, wn_250_243, wn_250_244, wn_250_245, wn_250_246, wn_250_247, wn_250_248, wn_250_249, wn_250_251, wn_251_243, wn_251_244, wn_251_245, wn_251_246, wn_251_247, wn_251_248, wn_251_249, wn_251_250] at hz46 ⊢
          refine j_if_le C ⟨by omega, by omega⟩ dX9_callableIn_49 (fun hc49 => ?_) (fun hc49 => ?_)
          · -- 49 T
            have hn9 : callUp (ω.1 244) a 48 0 = n := by rw [← hi1]; exact callUp_e (by omega)
            refine j_aload0 C dX9_callableIn_62 ?_
            refine j_iload1 C dX9_callableIn_63 ?_
            refine j_cVI1 C (c_X9_whyNot (by exact hw) (by omega) (by exact hs3) (by exact hIn)) oX9_whyNot kX9_158 ⟨_, rfl, rfl⟩ at_243 ⟨by decide, by decide⟩ rfl (Nat.le_of_ble_eq_true rfl) ⟨by decide, by decide⟩ dX9_callableIn_64 ?_
            rintro _ _ hz64 ⟨rfl, rfl⟩
            try simp only [wi_wf, wf_same, wf_wf, tM0, tM1, tM2, tM3, tM4, tM5, tM6, tB0, tB1, tB2, tB3, tB4, tB5, tB6, tL0, tL1, tL2, up_up, wn_243_244, wn_243_245, wn_243_246, wn_243_247, wn_243_248, wn_243_249, wn_243_250, wn_243_251, wn_244_243, wn_244_245, wn_244_246, wn_244_247, wn_244_248, wn_244_249, wn_244_250, wn_244_251, wn_245_243, wn_245_244, wn_245_246, wn_245_247, wn_245_248, wn_245_249, wn_245_250, wn_245_251, wn_246_243, wn_246_244, wn_246_245, wn_246_247, wn_246_248, wn_246_249, wn_246_250, wn_246_251, wn_247_243, wn_247_244, wn_247_245, wn_247_246, wn_247_248, wn_247_249, wn_247_250, wn_247_251, wn_248_243, wn_248_244, wn_248_245, wn_248_246, wn_248_247, wn_248_249, wn_248_250, wn_248_251, wn_249_243, wn_249_244, wn_249_245, wn_249_246, wn_249_247, wn_249_248, wn_249_250, wn_249_251, wn_250_243, wn_250_244, wn_250_245, wn_250_246, wn_250_247, wn_250_248, wn_250_249, wn_250_251, wn_251_243, wn_251_244, wn_251_245, wn_251_246, wn_251_247, wn_251_248, wn_251_249, wn_251_250] at hz64 ⊢
            refine j_if_ne C ⟨by omega, by omega⟩ dX9_callableIn_67 (fun hc67 => ?_) (fun hc67 => ?_)
            · -- 67 T
              refine j_iconst C dX9_callableIn_74 ?_
              refine j_istore3 C rfl dX9_callableIn_75 ?_
              refine j_aload0 C dX9_callableIn_76 ?_
              refine j_getr C fX9_16 at_243 rfl hw.r2 dX9_callableIn_77 ?_
              refine j_iconst C dX9_callableIn_80 ?_
              refine j_aload0 C dX9_callableIn_81 ?_
              refine j_getr C fX9_9 at_243 rfl hw.r0 dX9_callableIn_82 ?_
              refine j_iconst C dX9_callableIn_85 ?_
              refine j_cSV4 C (c_X9_copies (f := 0) (g := 0) (n1 := 111) (n2 := 111) at_246 ⟨rfl, rfl⟩ rfl at_244 ⟨rfl, rfl⟩ rfl (by omega) (by omega) (by decide) (Or.inl (by decide))) oX9_copies kX9_41 ⟨by decide, by decide⟩ rfl (Nat.le_of_ble_eq_true rfl) ⟨by decide, by decide⟩ dX9_callableIn_86 ?_
              rintro _ rfl
              simp only [wi_wf, wf_same, wf_wf, tM0, tM1, tM2, tM3, tM4, tM5, tM6, tB0, tB1, tB2, tB3, tB4, tB5, tB6, tL0, tL1, tL2, up_up, wn_243_244, wn_243_245, wn_243_246, wn_243_247, wn_243_248, wn_243_249, wn_243_250, wn_243_251, wn_244_243, wn_244_245, wn_244_246, wn_244_247, wn_244_248, wn_244_249, wn_244_250, wn_244_251, wn_245_243, wn_245_244, wn_245_246, wn_245_247, wn_245_248, wn_245_249, wn_245_250, wn_245_251, wn_246_243, wn_246_244, wn_246_245, wn_246_247, wn_246_248, wn_246_249, wn_246_250, wn_246_251, wn_247_243, wn_247_244, wn_247_245, wn_247_246, wn_247_248, wn_247_249, wn_247_250, wn_247_251, wn_248_243, wn_248_244, wn_248_245, wn_248_246, wn_248_247, wn_248_249, wn_248_250, wn_248_251, wn_249_243, wn_249_244, wn_249_245, wn_249_246, wn_249_247, wn_249_248, wn_249_250, wn_249_251, wn_250_243, wn_250_244, wn_250_245, wn_250_246, wn_250_247, wn_250_248, wn_250_249, wn_250_251, wn_251_243, wn_251_244, wn_251_245, wn_251_246, wn_251_247, wn_251_248, wn_251_249, wn_251_250]
              rw [cpy_full hI.z hIn.z]
              refine j_aload0 C dX9_callableIn_89 ?_
              refine j_iload3 C dX9_callableIn_90 ?_
              refine j_if_ne C (by decide) dX9_callableIn_91 (fun hc => absurd hc (by decide)) (fun _ => ?_)
              refine j_iconst C dX9_callableIn_94 ?_
              refine j_goto C dX9_callableIn_95 ?_
              refine j_iconst C dX9_callableIn_99 ?_
              refine j_cVI2 C (c_X9_isThrown_1 (by exact hw) ⟨by omega, by omega⟩) oX9_isThrown kX9_207 ⟨_, rfl, rfl⟩ at_243 ⟨by decide, by decide⟩ rfl (Nat.le_of_ble_eq_true rfl) ⟨by decide, by decide⟩ dX9_callableIn_100 ?_
              rintro _ _ hz100 ⟨rfl, rfl⟩
              try simp only [wi_wf, wf_same, wf_wf, tM0, tM1, tM2, tM3, tM4, tM5, tM6, tB0, tB1, tB2, tB3, tB4, tB5, tB6, tL0, tL1, tL2, up_up, wn_243_244, wn_243_245, wn_243_246, wn_243_247, wn_243_248, wn_243_249, wn_243_250, wn_243_251, wn_244_243, wn_244_245, wn_244_246, wn_244_247, wn_244_248, wn_244_249, wn_244_250, wn_244_251, wn_245_243, wn_245_244, wn_245_246, wn_245_247, wn_245_248, wn_245_249, wn_245_250, wn_245_251, wn_246_243, wn_246_244, wn_246_245, wn_246_247, wn_246_248, wn_246_249, wn_246_250, wn_246_251, wn_247_243, wn_247_244, wn_247_245, wn_247_246, wn_247_248, wn_247_249, wn_247_250, wn_247_251, wn_248_243, wn_248_244, wn_248_245, wn_248_246, wn_248_247, wn_248_249, wn_248_250, wn_248_251, wn_249_243, wn_249_244, wn_249_245, wn_249_246, wn_249_247, wn_249_248, wn_249_250, wn_249_251, wn_250_243, wn_250_244, wn_250_245, wn_250_246, wn_250_247, wn_250_248, wn_250_249, wn_250_251, wn_251_243, wn_251_244, wn_251_245, wn_251_246, wn_251_247, wn_251_248, wn_251_249, wn_251_250] at hz100 ⊢
              refine j_if_eq C (by decide) dX9_callableIn_103 (fun hc => absurd hc (by decide)) (fun _ => ?_)
              refine j_iconst C dX9_callableIn_106 ?_
              refine j_goto C dX9_callableIn_107 ?_
              refine j_iret C hrt dX9_callableIn_111 ⟨by omega, by omega⟩ ?_
              have h43 : ∀ v, wf (wf (wf (wf ω 243 (up (ω.1 243) 6 0)) 246 (ω.1 244)) 244 (ω.1 244)) 243 (up (ω.1 243) 6 v) = wf (wf ω 246 (ω.1 244)) 243 (up (ω.1 243) 6 v) := fun v => by
                refine wo_ext (fun x => ?_) rfl
                simp only [wf]
                by_cases h1 : x = 243
                · simp [h1]
                · by_cases h2 : x = 246
                  · simp [h2]
                  · by_cases h3 : x = 244
                    · simp [h3]
                    · simp [h1, h2, h3]
              refine ⟨?_, ?_⟩
              · simp only [qCallable]
                rw [if_neg (by omega), hn9]
                first | rw [if_pos (by omega)] | rw [if_neg (by omega)]
              · rw [if_neg (by omega), h43]
                simp only [qCallable]
                rw [if_neg (by omega), hn9]
                first | rw [if_pos (by omega)] | rw [if_neg (by omega)]
            · -- 67 F
              refine j_iconst C dX9_callableIn_70 ?_
              refine j_goto C dX9_callableIn_71 ?_
              refine j_istore3 C rfl dX9_callableIn_75 ?_
              refine j_aload0 C dX9_callableIn_76 ?_
              refine j_getr C fX9_16 at_243 rfl hw.r2 dX9_callableIn_77 ?_
              refine j_iconst C dX9_callableIn_80 ?_
              refine j_aload0 C dX9_callableIn_81 ?_
              refine j_getr C fX9_9 at_243 rfl hw.r0 dX9_callableIn_82 ?_
              refine j_iconst C dX9_callableIn_85 ?_
              refine j_cSV4 C (c_X9_copies (f := 0) (g := 0) (n1 := 111) (n2 := 111) at_246 ⟨rfl, rfl⟩ rfl at_244 ⟨rfl, rfl⟩ rfl (by omega) (by omega) (by decide) (Or.inl (by decide))) oX9_copies kX9_41 ⟨by decide, by decide⟩ rfl (Nat.le_of_ble_eq_true rfl) ⟨by decide, by decide⟩ dX9_callableIn_86 ?_
              rintro _ rfl
              simp only [wi_wf, wf_same, wf_wf, tM0, tM1, tM2, tM3, tM4, tM5, tM6, tB0, tB1, tB2, tB3, tB4, tB5, tB6, tL0, tL1, tL2, up_up, wn_243_244, wn_243_245, wn_243_246, wn_243_247, wn_243_248, wn_243_249, wn_243_250, wn_243_251, wn_244_243, wn_244_245, wn_244_246, wn_244_247, wn_244_248, wn_244_249, wn_244_250, wn_244_251, wn_245_243, wn_245_244, wn_245_246, wn_245_247, wn_245_248, wn_245_249, wn_245_250, wn_245_251, wn_246_243, wn_246_244, wn_246_245, wn_246_247, wn_246_248, wn_246_249, wn_246_250, wn_246_251, wn_247_243, wn_247_244, wn_247_245, wn_247_246, wn_247_248, wn_247_249, wn_247_250, wn_247_251, wn_248_243, wn_248_244, wn_248_245, wn_248_246, wn_248_247, wn_248_249, wn_248_250, wn_248_251, wn_249_243, wn_249_244, wn_249_245, wn_249_246, wn_249_247, wn_249_248, wn_249_250, wn_249_251, wn_250_243, wn_250_244, wn_250_245, wn_250_246, wn_250_247, wn_250_248, wn_250_249, wn_250_251, wn_251_243, wn_251_244, wn_251_245, wn_251_246, wn_251_247, wn_251_248, wn_251_249, wn_251_250]
              rw [cpy_full hI.z hIn.z]
              refine j_aload0 C dX9_callableIn_89 ?_
              refine j_iload3 C dX9_callableIn_90 ?_
              refine j_if_ne C (by decide) dX9_callableIn_91 (fun _ => ?_) (fun hc => absurd hc (by decide))
              refine j_iconst C dX9_callableIn_98 ?_
              refine j_iconst C dX9_callableIn_99 ?_
              refine j_cVI2 C (c_X9_isThrown_0 (by exact hw) ⟨by omega, by omega⟩) oX9_isThrown kX9_207 ⟨_, rfl, rfl⟩ at_243 ⟨by decide, by decide⟩ rfl (Nat.le_of_ble_eq_true rfl) ⟨by decide, by decide⟩ dX9_callableIn_100 ?_
              rintro _ _ hz100 ⟨rfl, rfl⟩
              try simp only [wi_wf, wf_same, wf_wf, tM0, tM1, tM2, tM3, tM4, tM5, tM6, tB0, tB1, tB2, tB3, tB4, tB5, tB6, tL0, tL1, tL2, up_up, wn_243_244, wn_243_245, wn_243_246, wn_243_247, wn_243_248, wn_243_249, wn_243_250, wn_243_251, wn_244_243, wn_244_245, wn_244_246, wn_244_247, wn_244_248, wn_244_249, wn_244_250, wn_244_251, wn_245_243, wn_245_244, wn_245_246, wn_245_247, wn_245_248, wn_245_249, wn_245_250, wn_245_251, wn_246_243, wn_246_244, wn_246_245, wn_246_247, wn_246_248, wn_246_249, wn_246_250, wn_246_251, wn_247_243, wn_247_244, wn_247_245, wn_247_246, wn_247_248, wn_247_249, wn_247_250, wn_247_251, wn_248_243, wn_248_244, wn_248_245, wn_248_246, wn_248_247, wn_248_249, wn_248_250, wn_248_251, wn_249_243, wn_249_244, wn_249_245, wn_249_246, wn_249_247, wn_249_248, wn_249_250, wn_249_251, wn_250_243, wn_250_244, wn_250_245, wn_250_246, wn_250_247, wn_250_248, wn_250_249, wn_250_251, wn_251_243, wn_251_244, wn_251_245, wn_251_246, wn_251_247, wn_251_248, wn_251_249, wn_251_250] at hz100 ⊢
              refine j_if_eq C (by decide) dX9_callableIn_103 (fun _ => ?_) (fun hc => absurd hc (by decide))
              refine j_iload2 C dX9_callableIn_110 ?_
              refine j_iret C hrt dX9_callableIn_111 ⟨by omega, by omega⟩ ?_
              have h43 : ∀ v, wf (wf (wf (wf ω 243 (up (ω.1 243) 6 0)) 246 (ω.1 244)) 244 (ω.1 244)) 243 (up (ω.1 243) 6 v) = wf (wf ω 246 (ω.1 244)) 243 (up (ω.1 243) 6 v) := fun v => by
                refine wo_ext (fun x => ?_) rfl
                simp only [wf]
                by_cases h1 : x = 243
                · simp [h1]
                · by_cases h2 : x = 246
                  · simp [h2]
                  · by_cases h3 : x = 244
                    · simp [h3]
                    · simp [h1, h2, h3]
              refine ⟨?_, ?_⟩
              · simp only [qCallable]
                rw [if_neg (by omega), hn9]
                first | rw [if_pos (by omega)] | rw [if_neg (by omega)]
              · rw [if_neg (by omega), h43]
                simp only [qCallable]
                rw [if_neg (by omega), hn9]
                first | rw [if_pos (by omega)] | rw [if_neg (by omega)]
          · -- 49 F
            refine j_aload0 C dX9_callableIn_52 ?_
            refine j_cVV0 C (c_X9_hourGoes (by exact hw) (by exact hIn) (by exact hWn) (by omega)) oX9_hourGoes kX9_201 ⟨_, rfl, rfl⟩ at_243 ⟨by decide, by decide⟩ rfl (Nat.le_of_ble_eq_true rfl) ⟨by decide, by decide⟩ dX9_callableIn_53 ?_
            rintro _ rfl
            try simp only [wi_wf, wf_same, wf_wf, tM0, tM1, tM2, tM3, tM4, tM5, tM6, tB0, tB1, tB2, tB3, tB4, tB5, tB6, tL0, tL1, tL2, up_up, wn_243_244, wn_243_245, wn_243_246, wn_243_247, wn_243_248, wn_243_249, wn_243_250, wn_243_251, wn_244_243, wn_244_245, wn_244_246, wn_244_247, wn_244_248, wn_244_249, wn_244_250, wn_244_251, wn_245_243, wn_245_244, wn_245_246, wn_245_247, wn_245_248, wn_245_249, wn_245_250, wn_245_251, wn_246_243, wn_246_244, wn_246_245, wn_246_247, wn_246_248, wn_246_249, wn_246_250, wn_246_251, wn_247_243, wn_247_244, wn_247_245, wn_247_246, wn_247_248, wn_247_249, wn_247_250, wn_247_251, wn_248_243, wn_248_244, wn_248_245, wn_248_246, wn_248_247, wn_248_249, wn_248_250, wn_248_251, wn_249_243, wn_249_244, wn_249_245, wn_249_246, wn_249_247, wn_249_248, wn_249_250, wn_249_251, wn_250_243, wn_250_244, wn_250_245, wn_250_246, wn_250_247, wn_250_248, wn_250_249, wn_250_251, wn_251_243, wn_251_244, wn_251_245, wn_251_246, wn_251_247, wn_251_248, wn_251_249, wn_251_250]
            refine j_iinc2n C rfl dX9_callableIn_56 ?_
            refine j_goto C dX9_callableIn_59 ?_
            exact j_fg (ih38 (n + 1) (by omega) (by omega) (by rw [← hi1, show 48 - n = (48 - (n + 1)) + 1 by omega]; exact (callUp_s (by omega)).symm)) ⟨Or.inr rfl, Or.inr rfl, Or.inr rfl, Or.inr rfl, trivial⟩ (by first | rfl | (simp only [wf_same, wf_wf]; rfl))
    exact j_fg (loop38 _ 0 (Nat.lt_succ_self _) (Nat.zero_le _) rfl) ⟨Or.inr rfl, Or.inr rfl, Or.inr rfl, Or.inr rfl, trivial⟩ (by show _ = wf (wf (wf ω 243 _) 246 _) 244 (ω.1 244); exact (wf_id _ 244).symm)
  · -- 6 F
    refine j_iconst C dX9_callableIn_9 ?_
    refine j_goto C dX9_callableIn_10 ?_
    refine j_iconst C dX9_callableIn_14 ?_
    refine j_cVI2 C (c_X9_isThrown_1 (by exact hw) ⟨by omega, by omega⟩) oX9_isThrown kX9_207 ⟨_, rfl, rfl⟩ at_243 ⟨by decide, by decide⟩ rfl (Nat.le_of_ble_eq_true rfl) ⟨by decide, by decide⟩ dX9_callableIn_15 ?_
    rintro _ _ hz15 ⟨rfl, rfl⟩
    try simp only [wi_wf, wf_same, wf_wf, tM0, tM1, tM2, tM3, tM4, tM5, tM6, tB0, tB1, tB2, tB3, tB4, tB5, tB6, tL0, tL1, tL2, up_up, wn_243_244, wn_243_245, wn_243_246, wn_243_247, wn_243_248, wn_243_249, wn_243_250, wn_243_251, wn_244_243, wn_244_245, wn_244_246, wn_244_247, wn_244_248, wn_244_249, wn_244_250, wn_244_251, wn_245_243, wn_245_244, wn_245_246, wn_245_247, wn_245_248, wn_245_249, wn_245_250, wn_245_251, wn_246_243, wn_246_244, wn_246_245, wn_246_247, wn_246_248, wn_246_249, wn_246_250, wn_246_251, wn_247_243, wn_247_244, wn_247_245, wn_247_246, wn_247_248, wn_247_249, wn_247_250, wn_247_251, wn_248_243, wn_248_244, wn_248_245, wn_248_246, wn_248_247, wn_248_249, wn_248_250, wn_248_251, wn_249_243, wn_249_244, wn_249_245, wn_249_246, wn_249_247, wn_249_248, wn_249_250, wn_249_251, wn_250_243, wn_250_244, wn_250_245, wn_250_246, wn_250_247, wn_250_248, wn_250_249, wn_250_251, wn_251_243, wn_251_244, wn_251_245, wn_251_246, wn_251_247, wn_251_248, wn_251_249, wn_251_250] at hz15 ⊢
    refine j_if_eq C (by decide) dX9_callableIn_18 (fun hc => absurd hc (by decide)) (fun _ => ?_)
    refine j_iconst C dX9_callableIn_21 ?_
    refine j_iret C hrt dX9_callableIn_22 ⟨by omega, by omega⟩ ?_
    refine ⟨?_, ?_⟩
    · simp only [qCallable]
      rw [if_pos (by omega)]
    · rw [if_pos (by omega)]
set_option maxRecDepth 100000 in
set_option maxHeartbeats 4000000 in
theorem c_X9_homeIn {Γ : Ga} {l : Launch} {ω : Wo} (hw : WM ω.2.1) {M : Int} (hI : RI M (ω.1 244))  {a : Int} (ha : Rg a) (hW1 : W1 (ω.1 244)) (hM : M + 3000 ≤ 100000000) (hh : (0 ≤ a ∧ a ≤ (ω.1 244) 2 - 1) → ∀ n : Nat, n ≤ 21 → sB (hoursUp (ω.1 244) n) a 2 = 1 → n < 21) (hz6 : ∀ y, 111 ≤ y → ω.1 246 y = 0) : CI Γ l yX9_homeIn cX9_homeIn 3 .int 5 [.ref (rl Γ 243), .int (iI a)] ω (fun z ω' => z = (qHome (ω.1 244) a).2 ∧ ω' = if ¬ (0 ≤ a ∧ a ≤ (ω.1 244) 2 - 1) then wf ω 243 (up (ω.1 243) 6 1) else if sB (ω.1 244) a 2 = 0 then wf ω 243 (up (ω.1 243) 6 2) else wf (wf ω 246 (ω.1 244)) 243 (up (ω.1 243) 6 0)) := by
  refine Met.ofJ (k := 1) [some (.ref (rl Γ 243)), some (.int (iI a)), none] (by decide) rfl rfl rfl (fun p e s mm args below meth c C hrt => ?_)
  have g := hI.s
  have gc := hI.c
  have gba := fun h => hI.b a h
  refine j_aload0 C dX9_homeIn_0 ?_
  refine j_aload0 C dX9_homeIn_1 ?_
  refine j_iload1 C dX9_homeIn_2 ?_
  refine j_cVI1 C (c_X9_isBoat (by exact hw) ⟨by omega, by omega⟩ (by exact hI)) oX9_isBoat kX9_155 ⟨_, rfl, rfl⟩ at_243 ⟨by decide, by decide⟩ rfl (Nat.le_of_ble_eq_true rfl) ⟨by decide, by decide⟩ dX9_homeIn_3 ?_
  rintro _ _ hz3 ⟨rfl, rfl⟩
  try simp only [wi_wf, wf_same, wf_wf, tM0, tM1, tM2, tM3, tM4, tM5, tM6, tB0, tB1, tB2, tB3, tB4, tB5, tB6, tL0, tL1, tL2, up_up, wn_243_244, wn_243_245, wn_243_246, wn_243_247, wn_243_248, wn_243_249, wn_243_250, wn_243_251, wn_244_243, wn_244_245, wn_244_246, wn_244_247, wn_244_248, wn_244_249, wn_244_250, wn_244_251, wn_245_243, wn_245_244, wn_245_246, wn_245_247, wn_245_248, wn_245_249, wn_245_250, wn_245_251, wn_246_243, wn_246_244, wn_246_245, wn_246_247, wn_246_248, wn_246_249, wn_246_250, wn_246_251, wn_247_243, wn_247_244, wn_247_245, wn_247_246, wn_247_248, wn_247_249, wn_247_250, wn_247_251, wn_248_243, wn_248_244, wn_248_245, wn_248_246, wn_248_247, wn_248_249, wn_248_250, wn_248_251, wn_249_243, wn_249_244, wn_249_245, wn_249_246, wn_249_247, wn_249_248, wn_249_250, wn_249_251, wn_250_243, wn_250_244, wn_250_245, wn_250_246, wn_250_247, wn_250_248, wn_250_249, wn_250_251, wn_251_243, wn_251_244, wn_251_245, wn_251_246, wn_251_247, wn_251_248, wn_251_249, wn_251_250] at hz3 ⊢
  refine j_ifneb C dX9_homeIn_6 (fun hc6 => ?_) (fun hc6 => ?_)
  · -- 6 T
    refine j_iconst C dX9_homeIn_13 ?_
    refine j_iconst C dX9_homeIn_14 ?_
    refine j_cVI2 C (c_X9_isThrown_0 (by exact hw) ⟨by omega, by omega⟩) oX9_isThrown kX9_207 ⟨_, rfl, rfl⟩ at_243 ⟨by decide, by decide⟩ rfl (Nat.le_of_ble_eq_true rfl) ⟨by decide, by decide⟩ dX9_homeIn_15 ?_
    rintro _ _ hz15 ⟨rfl, rfl⟩
    try simp only [wi_wf, wf_same, wf_wf, tM0, tM1, tM2, tM3, tM4, tM5, tM6, tB0, tB1, tB2, tB3, tB4, tB5, tB6, tL0, tL1, tL2, up_up, wn_243_244, wn_243_245, wn_243_246, wn_243_247, wn_243_248, wn_243_249, wn_243_250, wn_243_251, wn_244_243, wn_244_245, wn_244_246, wn_244_247, wn_244_248, wn_244_249, wn_244_250, wn_244_251, wn_245_243, wn_245_244, wn_245_246, wn_245_247, wn_245_248, wn_245_249, wn_245_250, wn_245_251, wn_246_243, wn_246_244, wn_246_245, wn_246_247, wn_246_248, wn_246_249, wn_246_250, wn_246_251, wn_247_243, wn_247_244, wn_247_245, wn_247_246, wn_247_248, wn_247_249, wn_247_250, wn_247_251, wn_248_243, wn_248_244, wn_248_245, wn_248_246, wn_248_247, wn_248_249, wn_248_250, wn_248_251, wn_249_243, wn_249_244, wn_249_245, wn_249_246, wn_249_247, wn_249_248, wn_249_250, wn_249_251, wn_250_243, wn_250_244, wn_250_245, wn_250_246, wn_250_247, wn_250_248, wn_250_249, wn_250_251, wn_251_243, wn_251_244, wn_251_245, wn_251_246, wn_251_247, wn_251_248, wn_251_249, wn_251_250] at hz15 ⊢
    refine j_if_ne C (by decide) dX9_homeIn_18 (fun hc => absurd hc (by decide)) (fun _ => ?_)
    refine j_aload0 C dX9_homeIn_21 ?_
    refine j_aload0 C dX9_homeIn_22 ?_
    refine j_iload1 C dX9_homeIn_23 ?_
    refine j_iconst C dX9_homeIn_24 ?_
    refine j_cVI2 C (c_X9_ofBoat (by exact hw) (by omega) (by omega)) oX9_ofBoat kX9_72 ⟨_, rfl, rfl⟩ at_243 ⟨by decide, by decide⟩ rfl (Nat.le_of_ble_eq_true rfl) ⟨by decide, by decide⟩ dX9_homeIn_25 ?_
    rintro _ _ hz25 ⟨rfl, rfl⟩
    try simp only [wi_wf, wf_same, wf_wf, tM0, tM1, tM2, tM3, tM4, tM5, tM6, tB0, tB1, tB2, tB3, tB4, tB5, tB6, tL0, tL1, tL2, up_up, wn_243_244, wn_243_245, wn_243_246, wn_243_247, wn_243_248, wn_243_249, wn_243_250, wn_243_251, wn_244_243, wn_244_245, wn_244_246, wn_244_247, wn_244_248, wn_244_249, wn_244_250, wn_244_251, wn_245_243, wn_245_244, wn_245_246, wn_245_247, wn_245_248, wn_245_249, wn_245_250, wn_245_251, wn_246_243, wn_246_244, wn_246_245, wn_246_247, wn_246_248, wn_246_249, wn_246_250, wn_246_251, wn_247_243, wn_247_244, wn_247_245, wn_247_246, wn_247_248, wn_247_249, wn_247_250, wn_247_251, wn_248_243, wn_248_244, wn_248_245, wn_248_246, wn_248_247, wn_248_249, wn_248_250, wn_248_251, wn_249_243, wn_249_244, wn_249_245, wn_249_246, wn_249_247, wn_249_248, wn_249_250, wn_249_251, wn_250_243, wn_250_244, wn_250_245, wn_250_246, wn_250_247, wn_250_248, wn_250_249, wn_250_251, wn_251_243, wn_251_244, wn_251_245, wn_251_246, wn_251_247, wn_251_248, wn_251_249, wn_251_250] at hz25 ⊢
    refine j_if_ne C ⟨by omega, by omega⟩ dX9_homeIn_28 (fun hc28 => ?_) (fun hc28 => ?_)
    · -- 28 T
      refine j_iconst C dX9_homeIn_35 ?_
      refine j_iconst C dX9_homeIn_36 ?_
      refine j_cVI2 C (c_X9_isThrown_0 (by exact hw) ⟨by omega, by omega⟩) oX9_isThrown kX9_207 ⟨_, rfl, rfl⟩ at_243 ⟨by decide, by decide⟩ rfl (Nat.le_of_ble_eq_true rfl) ⟨by decide, by decide⟩ dX9_homeIn_37 ?_
      rintro _ _ hz37 ⟨rfl, rfl⟩
      try simp only [wi_wf, wf_same, wf_wf, tM0, tM1, tM2, tM3, tM4, tM5, tM6, tB0, tB1, tB2, tB3, tB4, tB5, tB6, tL0, tL1, tL2, up_up, wn_243_244, wn_243_245, wn_243_246, wn_243_247, wn_243_248, wn_243_249, wn_243_250, wn_243_251, wn_244_243, wn_244_245, wn_244_246, wn_244_247, wn_244_248, wn_244_249, wn_244_250, wn_244_251, wn_245_243, wn_245_244, wn_245_246, wn_245_247, wn_245_248, wn_245_249, wn_245_250, wn_245_251, wn_246_243, wn_246_244, wn_246_245, wn_246_247, wn_246_248, wn_246_249, wn_246_250, wn_246_251, wn_247_243, wn_247_244, wn_247_245, wn_247_246, wn_247_248, wn_247_249, wn_247_250, wn_247_251, wn_248_243, wn_248_244, wn_248_245, wn_248_246, wn_248_247, wn_248_249, wn_248_250, wn_248_251, wn_249_243, wn_249_244, wn_249_245, wn_249_246, wn_249_247, wn_249_248, wn_249_250, wn_249_251, wn_250_243, wn_250_244, wn_250_245, wn_250_246, wn_250_247, wn_250_248, wn_250_249, wn_250_251, wn_251_243, wn_251_244, wn_251_245, wn_251_246, wn_251_247, wn_251_248, wn_251_249, wn_251_250] at hz37 ⊢
      refine j_if_eq C (by decide) dX9_homeIn_40 (fun _ => ?_) (fun hc => absurd hc (by decide))
      refine j_aload0 C dX9_homeIn_45 ?_
      refine j_getr C fX9_9 at_243 rfl hw.r0 dX9_homeIn_46 ?_
      refine j_iconst C dX9_homeIn_49 ?_
      refine j_aload0 C dX9_homeIn_50 ?_
      refine j_getr C fX9_16 at_243 rfl hw.r2 dX9_homeIn_51 ?_
      refine j_iconst C dX9_homeIn_54 ?_
      refine j_cSV4 C (c_X9_copies (f := 0) (g := 0) (n1 := 111) (n2 := 111) at_244 ⟨rfl, rfl⟩ rfl at_246 ⟨rfl, rfl⟩ rfl (by omega) (by omega) (by decide) (Or.inl (by decide))) oX9_copies kX9_41 ⟨by decide, by decide⟩ rfl (Nat.le_of_ble_eq_true rfl) ⟨by decide, by decide⟩ dX9_homeIn_55 ?_
      rintro _ rfl
      try simp only [wi_wf, wf_same, wf_wf, tM0, tM1, tM2, tM3, tM4, tM5, tM6, tB0, tB1, tB2, tB3, tB4, tB5, tB6, tL0, tL1, tL2, up_up, wn_243_244, wn_243_245, wn_243_246, wn_243_247, wn_243_248, wn_243_249, wn_243_250, wn_243_251, wn_244_243, wn_244_245, wn_244_246, wn_244_247, wn_244_248, wn_244_249, wn_244_250, wn_244_251, wn_245_243, wn_245_244, wn_245_246, wn_245_247, wn_245_248, wn_245_249, wn_245_250, wn_245_251, wn_246_243, wn_246_244, wn_246_245, wn_246_247, wn_246_248, wn_246_249, wn_246_250, wn_246_251, wn_247_243, wn_247_244, wn_247_245, wn_247_246, wn_247_248, wn_247_249, wn_247_250, wn_247_251, wn_248_243, wn_248_244, wn_248_245, wn_248_246, wn_248_247, wn_248_249, wn_248_250, wn_248_251, wn_249_243, wn_249_244, wn_249_245, wn_249_246, wn_249_247, wn_249_248, wn_249_250, wn_249_251, wn_250_243, wn_250_244, wn_250_245, wn_250_246, wn_250_247, wn_250_248, wn_250_249, wn_250_251, wn_251_243, wn_251_244, wn_251_245, wn_251_246, wn_251_247, wn_251_248, wn_251_249, wn_251_250]
      rw [cpy_full hI.z hz6]
      refine j_iconst C dX9_homeIn_58 ?_
      refine j_istore2 C rfl dX9_homeIn_59 ?_
      have hh2 := hh (by omega)
      have loop60 : ∀ (N : Nat) (n : Nat), (22 - n) < N → (n ≤ 21) → (homeUp (ω.1 244) a (21 - n) n = homeUp (ω.1 244) a 21 0) → J Γ p l e (rmk 5 0 0) s mm args below meth c (MQ below (QI Γ (fun z ω' => z = (qHome (ω.1 244) a).2 ∧ ω' = if ¬ (0 ≤ a ∧ a ≤ (ω.1 244) 2 - 1) then wf ω 243 (up (ω.1 243) 6 1) else if sB (ω.1 244) a 2 = 0 then wf ω 243 (up (ω.1 243) 6 2) else wf (wf ω 246 (ω.1 244)) 243 (up (ω.1 243) 6 0))) args s 0 0 (gA Γ)) 254 0 0 60 [some (.ref (rl Γ 243)), some (.int (iI a)), some (.int (iI ((n : Nat) : Int)))] [] (wf (wf (wf ω 243 (up (ω.1 243) 6 0)) 246 (ω.1 244)) 244 (hoursUp (ω.1 244) n)) := by
        intro N
        induction N with
        | zero => intro n hN; exact absurd hN (Nat.not_lt_zero _)
        | succ N ih60 =>
          intro n hN hi0 hi1
          have hIn := hoursUp_RI hI n (by omega)
          have hWn := W1_hours hW1 n
          have hsn := seat_hours hI n (by omega) (b := a) (by omega)
          have gn := hIn.s
          have gbn := hIn.b a (by omega)
          have hh3 := hh2 n
          refine j_aload0 C dX9_homeIn_60 ?_
          refine j_iload1 C dX9_homeIn_61 ?_
          refine j_iconst C dX9_homeIn_62 ?_
          refine j_cVI2 C (c_X9_ofBoat (by exact hw) (by omega) (by omega)) oX9_ofBoat kX9_72 ⟨_, rfl, rfl⟩ at_243 ⟨by decide, by decide⟩ rfl (Nat.le_of_ble_eq_true rfl) ⟨by decide, by decide⟩ dX9_homeIn_63 ?_
          rintro _ _ hz63 ⟨rfl, rfl⟩
          try simp only [wi_wf, wf_same, wf_wf, tM0, tM1, tM2, tM3, tM4, tM5, tM6, tB0, tB1, tB2, tB3, tB4, tB5, tB6, tL0, tL1, tL2, up_up, wn_243_244, wn_243_245, wn_243_246, wn_243_247, wn_243_248, wn_243_249, wn_243_250, wn_243_251, wn_244_243, wn_244_245, wn_244_246, wn_244_247, wn_244_248, wn_244_249, wn_244_250, wn_244_251, wn_245_243, wn_245_244, wn_245_246, wn_245_247, wn_245_248, wn_245_249, wn_245_250, wn_245_251, wn_246_243, wn_246_244, wn_246_245, wn_246_247, wn_246_248, wn_246_249, wn_246_250, wn_246_251, wn_247_243, wn_247_244, wn_247_245, wn_247_246, wn_247_248, wn_247_249, wn_247_250, wn_247_251, wn_248_243, wn_248_244, wn_248_245, wn_248_246, wn_248_247, wn_248_249, wn_248_250, wn_248_251, wn_249_243, wn_249_244, wn_249_245, wn_249_246, wn_249_247, wn_249_248, wn_249_250, wn_249_251, wn_250_243, wn_250_244, wn_250_245, wn_250_246, wn_250_247, wn_250_248, wn_250_249, wn_250_251, wn_251_243, wn_251_244, wn_251_245, wn_251_246, wn_251_247, wn_251_248, wn_251_249, wn_251_250] at hz63 ⊢
          refine j_iconst C dX9_homeIn_66 ?_
          refine j_icmp_ne C ⟨by omega, by omega⟩ ⟨by omega, by omega⟩ dX9_homeIn_67 (fun hc67 => ?_) (fun hc67 => ?_)
          · -- 67 T
            have hn9 : homeUp (ω.1 244) a 21 0 = n := by rw [← hi1]; exact homeUp_e (by omega)
            refine j_aload0 C dX9_homeIn_80 ?_
            refine j_getr C fX9_16 at_243 rfl hw.r2 dX9_homeIn_81 ?_
            refine j_iconst C dX9_homeIn_84 ?_
            refine j_aload0 C dX9_homeIn_85 ?_
            refine j_getr C fX9_9 at_243 rfl hw.r0 dX9_homeIn_86 ?_
            refine j_iconst C dX9_homeIn_89 ?_
            refine j_cSV4 C (c_X9_copies (f := 0) (g := 0) (n1 := 111) (n2 := 111) at_246 ⟨rfl, rfl⟩ rfl at_244 ⟨rfl, rfl⟩ rfl (by omega) (by omega) (by decide) (Or.inl (by decide))) oX9_copies kX9_41 ⟨by decide, by decide⟩ rfl (Nat.le_of_ble_eq_true rfl) ⟨by decide, by decide⟩ dX9_homeIn_90 ?_
            rintro _ rfl
            simp only [wi_wf, wf_same, wf_wf, tM0, tM1, tM2, tM3, tM4, tM5, tM6, tB0, tB1, tB2, tB3, tB4, tB5, tB6, tL0, tL1, tL2, up_up, wn_243_244, wn_243_245, wn_243_246, wn_243_247, wn_243_248, wn_243_249, wn_243_250, wn_243_251, wn_244_243, wn_244_245, wn_244_246, wn_244_247, wn_244_248, wn_244_249, wn_244_250, wn_244_251, wn_245_243, wn_245_244, wn_245_246, wn_245_247, wn_245_248, wn_245_249, wn_245_250, wn_245_251, wn_246_243, wn_246_244, wn_246_245, wn_246_247, wn_246_248, wn_246_249, wn_246_250, wn_246_251, wn_247_243, wn_247_244, wn_247_245, wn_247_246, wn_247_248, wn_247_249, wn_247_250, wn_247_251, wn_248_243, wn_248_244, wn_248_245, wn_248_246, wn_248_247, wn_248_249, wn_248_250, wn_248_251, wn_249_243, wn_249_244, wn_249_245, wn_249_246, wn_249_247, wn_249_248, wn_249_250, wn_249_251, wn_250_243, wn_250_244, wn_250_245, wn_250_246, wn_250_247, wn_250_248, wn_250_249, wn_250_251, wn_251_243, wn_251_244, wn_251_245, wn_251_246, wn_251_247, wn_251_248, wn_251_249, wn_251_250]
            rw [cpy_full hI.z hIn.z]
            refine j_iload2 C dX9_homeIn_93 ?_
            refine j_iret C hrt dX9_homeIn_94 ⟨by omega, by omega⟩ ?_
            have h43 : wf (wf (wf ω 243 (up (ω.1 243) 6 0)) 246 (ω.1 244)) 244 (ω.1 244) = wf (wf ω 246 (ω.1 244)) 243 (up (ω.1 243) 6 0) := by
              refine wo_ext (fun x => ?_) rfl
              simp only [wf]
              by_cases h1 : x = 243
              · simp [h1]
              · by_cases h2 : x = 246
                · simp [h2]
                · by_cases h3 : x = 244
                  · simp [h3]
                  · simp [h1, h2, h3]
            refine ⟨?_, ?_⟩
            · simp only [qHome]
              rw [if_neg (by omega), if_neg (by omega), hn9]
            · rw [if_neg (by omega), if_neg (by omega), h43]
          · -- 67 F
            refine j_aload0 C dX9_homeIn_70 ?_
            refine j_cVV0 C (c_X9_hourGoes (by exact hw) (by exact hIn) (by exact hWn) (by omega)) oX9_hourGoes kX9_201 ⟨_, rfl, rfl⟩ at_243 ⟨by decide, by decide⟩ rfl (Nat.le_of_ble_eq_true rfl) ⟨by decide, by decide⟩ dX9_homeIn_71 ?_
            rintro _ rfl
            try simp only [wi_wf, wf_same, wf_wf, tM0, tM1, tM2, tM3, tM4, tM5, tM6, tB0, tB1, tB2, tB3, tB4, tB5, tB6, tL0, tL1, tL2, up_up, wn_243_244, wn_243_245, wn_243_246, wn_243_247, wn_243_248, wn_243_249, wn_243_250, wn_243_251, wn_244_243, wn_244_245, wn_244_246, wn_244_247, wn_244_248, wn_244_249, wn_244_250, wn_244_251, wn_245_243, wn_245_244, wn_245_246, wn_245_247, wn_245_248, wn_245_249, wn_245_250, wn_245_251, wn_246_243, wn_246_244, wn_246_245, wn_246_247, wn_246_248, wn_246_249, wn_246_250, wn_246_251, wn_247_243, wn_247_244, wn_247_245, wn_247_246, wn_247_248, wn_247_249, wn_247_250, wn_247_251, wn_248_243, wn_248_244, wn_248_245, wn_248_246, wn_248_247, wn_248_249, wn_248_250, wn_248_251, wn_249_243, wn_249_244, wn_249_245, wn_249_246, wn_249_247, wn_249_248, wn_249_250, wn_249_251, wn_250_243, wn_250_244, wn_250_245, wn_250_246, wn_250_247, wn_250_248, wn_250_249, wn_250_251, wn_251_243, wn_251_244, wn_251_245, wn_251_246, wn_251_247, wn_251_248, wn_251_249, wn_251_250]
            refine j_iinc2n C rfl dX9_homeIn_74 ?_
            refine j_goto C dX9_homeIn_77 ?_
            exact j_fg (ih60 (n + 1) (by omega) (by omega) (by rw [← hi1, show 21 - n = (21 - (n + 1)) + 1 by omega]; exact (homeUp_s (by omega)).symm)) ⟨Or.inr rfl, Or.inr rfl, Or.inr rfl, trivial⟩ (by first | rfl | (simp only [wf_same, wf_wf]; rfl))
      exact j_fg (loop60 _ 0 (Nat.lt_succ_self _) (Nat.zero_le _) rfl) ⟨Or.inr rfl, Or.inr rfl, Or.inr rfl, trivial⟩ (by show _ = wf (wf (wf ω 243 _) 246 _) 244 (ω.1 244); exact (wf_id _ 244).symm)
    · -- 28 F
      refine j_iconst C dX9_homeIn_31 ?_
      refine j_goto C dX9_homeIn_32 ?_
      refine j_iconst C dX9_homeIn_36 ?_
      refine j_cVI2 C (c_X9_isThrown_1 (by exact hw) ⟨by omega, by omega⟩) oX9_isThrown kX9_207 ⟨_, rfl, rfl⟩ at_243 ⟨by decide, by decide⟩ rfl (Nat.le_of_ble_eq_true rfl) ⟨by decide, by decide⟩ dX9_homeIn_37 ?_
      rintro _ _ hz37 ⟨rfl, rfl⟩
      try simp only [wi_wf, wf_same, wf_wf, tM0, tM1, tM2, tM3, tM4, tM5, tM6, tB0, tB1, tB2, tB3, tB4, tB5, tB6, tL0, tL1, tL2, up_up, wn_243_244, wn_243_245, wn_243_246, wn_243_247, wn_243_248, wn_243_249, wn_243_250, wn_243_251, wn_244_243, wn_244_245, wn_244_246, wn_244_247, wn_244_248, wn_244_249, wn_244_250, wn_244_251, wn_245_243, wn_245_244, wn_245_246, wn_245_247, wn_245_248, wn_245_249, wn_245_250, wn_245_251, wn_246_243, wn_246_244, wn_246_245, wn_246_247, wn_246_248, wn_246_249, wn_246_250, wn_246_251, wn_247_243, wn_247_244, wn_247_245, wn_247_246, wn_247_248, wn_247_249, wn_247_250, wn_247_251, wn_248_243, wn_248_244, wn_248_245, wn_248_246, wn_248_247, wn_248_249, wn_248_250, wn_248_251, wn_249_243, wn_249_244, wn_249_245, wn_249_246, wn_249_247, wn_249_248, wn_249_250, wn_249_251, wn_250_243, wn_250_244, wn_250_245, wn_250_246, wn_250_247, wn_250_248, wn_250_249, wn_250_251, wn_251_243, wn_251_244, wn_251_245, wn_251_246, wn_251_247, wn_251_248, wn_251_249, wn_251_250] at hz37 ⊢
      refine j_if_eq C (by decide) dX9_homeIn_40 (fun hc => absurd hc (by decide)) (fun _ => ?_)
      refine j_iconst C dX9_homeIn_43 ?_
      refine j_iret C hrt dX9_homeIn_44 ⟨by omega, by omega⟩ ?_
      refine ⟨?_, ?_⟩
      · simp only [qHome]
        first | rw [if_pos (by omega)] | rw [if_neg (by omega), if_pos (by omega)]
      · first | rw [if_pos (by omega)] | rw [if_neg (by omega), if_pos (by omega)]
  · -- 6 F
    refine j_iconst C dX9_homeIn_9 ?_
    refine j_goto C dX9_homeIn_10 ?_
    refine j_iconst C dX9_homeIn_14 ?_
    refine j_cVI2 C (c_X9_isThrown_1 (by exact hw) ⟨by omega, by omega⟩) oX9_isThrown kX9_207 ⟨_, rfl, rfl⟩ at_243 ⟨by decide, by decide⟩ rfl (Nat.le_of_ble_eq_true rfl) ⟨by decide, by decide⟩ dX9_homeIn_15 ?_
    rintro _ _ hz15 ⟨rfl, rfl⟩
    try simp only [wi_wf, wf_same, wf_wf, tM0, tM1, tM2, tM3, tM4, tM5, tM6, tB0, tB1, tB2, tB3, tB4, tB5, tB6, tL0, tL1, tL2, up_up, wn_243_244, wn_243_245, wn_243_246, wn_243_247, wn_243_248, wn_243_249, wn_243_250, wn_243_251, wn_244_243, wn_244_245, wn_244_246, wn_244_247, wn_244_248, wn_244_249, wn_244_250, wn_244_251, wn_245_243, wn_245_244, wn_245_246, wn_245_247, wn_245_248, wn_245_249, wn_245_250, wn_245_251, wn_246_243, wn_246_244, wn_246_245, wn_246_247, wn_246_248, wn_246_249, wn_246_250, wn_246_251, wn_247_243, wn_247_244, wn_247_245, wn_247_246, wn_247_248, wn_247_249, wn_247_250, wn_247_251, wn_248_243, wn_248_244, wn_248_245, wn_248_246, wn_248_247, wn_248_249, wn_248_250, wn_248_251, wn_249_243, wn_249_244, wn_249_245, wn_249_246, wn_249_247, wn_249_248, wn_249_250, wn_249_251, wn_250_243, wn_250_244, wn_250_245, wn_250_246, wn_250_247, wn_250_248, wn_250_249, wn_250_251, wn_251_243, wn_251_244, wn_251_245, wn_251_246, wn_251_247, wn_251_248, wn_251_249, wn_251_250] at hz15 ⊢
    refine j_if_ne C (by decide) dX9_homeIn_18 (fun _ => ?_) (fun hc => absurd hc (by decide))
    refine j_iconst C dX9_homeIn_43 ?_
    refine j_iret C hrt dX9_homeIn_44 ⟨by omega, by omega⟩ ?_
    refine ⟨?_, ?_⟩
    · simp only [qHome]
      first | rw [if_pos (by omega)] | rw [if_neg (by omega), if_pos (by omega)]
    · first | rw [if_pos (by omega)] | rw [if_neg (by omega), if_pos (by omega)]
set_option maxRecDepth 100000 in
set_option maxHeartbeats 4000000 in
theorem c_X9_homeInAgain {Γ : Ga} {l : Launch} {ω : Wo} (hw : WM ω.2.1) {M : Int} (hI : RI M (ω.1 244))  {a : Int} (ha : Rg a) (hW1 : W1 (ω.1 244)) (hM : M + 3000 ≤ 100000000) (hh : (0 ≤ a ∧ a ≤ (ω.1 244) 2 - 1) → ∀ n : Nat, n ≤ 21 → sB (hoursUp (ω.1 244) n) a 2 = 1 → n < 21) (hz6 : ∀ y, 111 ≤ y → ω.1 246 y = 0) : CI Γ l yX9_homeInAgain cX9_homeInAgain 2 .int 6 [.ref (rl Γ 243), .int (iI a)] ω (fun z ω' => z = (qHome (ω.1 244) a).2 ∧ ω' = if ¬ (0 ≤ a ∧ a ≤ (ω.1 244) 2 - 1) then wf ω 243 (up (ω.1 243) 6 1) else if sB (ω.1 244) a 2 = 0 then wf ω 243 (up (ω.1 243) 6 2) else wf (wf ω 246 (ω.1 244)) 243 (up (ω.1 243) 6 0)) := by
  refine Met.ofJ (k := 0) [some (.ref (rl Γ 243)), some (.int (iI a))] (by decide) rfl rfl rfl (fun p e s mm args below meth c C hrt => ?_)
  refine j_aload0 C dX9_homeInAgain_0 ?_
  refine j_iload1 C dX9_homeInAgain_1 ?_
  refine j_cVI1 C (c_X9_homeIn (by exact hw) (by exact hI) ha (by exact hW1) hM (by exact hh) (by exact hz6)) oX9_homeIn kX9_217 ⟨_, rfl, rfl⟩ at_243 ⟨by decide, by decide⟩ rfl (Nat.le_of_ble_eq_true rfl) ⟨by decide, by decide⟩ dX9_homeInAgain_2 ?_
  intro z1 w1 hz1 hp1
  refine j_iret C hrt dX9_homeInAgain_5 hz1 ?_
  exact hp1
set_option maxRecDepth 100000 in
set_option maxHeartbeats 4000000 in
theorem c_X9_account {Γ : Ga} {l : Launch} {ω : Wo} (hw : WM ω.2.1) {M : Int} (hI : RI M (ω.1 244))  {a : Int} (ha : Rg a) : CI Γ l yX9_account cX9_account 2 .int 2 [.ref (rl Γ 243), .int (iI a)] ω (fun z ω' => z = (qAcc (ω.1 244) (ω.1 243 5) (ω.1 243 15) a).2 ∧ ω' = wf ω 243 (up (ω.1 243) 6 (qAcc (ω.1 244) (ω.1 243 5) (ω.1 243 15) a).1)) := by
  refine Met.ofJ (k := 0) [some (.ref (rl Γ 243)), some (.int (iI a))] (by decide) rfl rfl rfl (fun p e s mm args below meth c C hrt => ?_)
  have g := hI.s
  have gc := hI.c
  have gM := hI.2.1
  have gst := stayUp_rg (ω.1 244) (cM (ω.1 244))
  have gsn : stayN (ω.1 244) = stayUp (ω.1 244) (cM (ω.1 244)) := rfl
  refine j_aload0 C dX9_account_0 ?_
  refine j_iload1 C dX9_account_1 ?_
  refine j_iconst C dX9_account_2 ?_
  refine j_bipush C (by decide) dX9_account_3 ?_
  refine j_cSI3 C (c_X9_isIn ⟨by omega, by omega⟩ ⟨by omega, by omega⟩ ⟨by omega, by omega⟩) oX9_isIn kX9_60 ⟨by decide, by decide⟩ rfl (Nat.le_of_ble_eq_true rfl) ⟨by decide, by decide⟩ dX9_account_5 ?_
  rintro _ _ hz5 ⟨rfl, rfl⟩
  try simp only [wi_wf, wf_same, wf_wf, tM0, tM1, tM2, tM3, tM4, tM5, tM6, tB0, tB1, tB2, tB3, tB4, tB5, tB6, tL0, tL1, tL2, up_up, wn_243_244, wn_243_245, wn_243_246, wn_243_247, wn_243_248, wn_243_249, wn_243_250, wn_243_251, wn_244_243, wn_244_245, wn_244_246, wn_244_247, wn_244_248, wn_244_249, wn_244_250, wn_244_251, wn_245_243, wn_245_244, wn_245_246, wn_245_247, wn_245_248, wn_245_249, wn_245_250, wn_245_251, wn_246_243, wn_246_244, wn_246_245, wn_246_247, wn_246_248, wn_246_249, wn_246_250, wn_246_251, wn_247_243, wn_247_244, wn_247_245, wn_247_246, wn_247_248, wn_247_249, wn_247_250, wn_247_251, wn_248_243, wn_248_244, wn_248_245, wn_248_246, wn_248_247, wn_248_249, wn_248_250, wn_248_251, wn_249_243, wn_249_244, wn_249_245, wn_249_246, wn_249_247, wn_249_248, wn_249_250, wn_249_251, wn_250_243, wn_250_244, wn_250_245, wn_250_246, wn_250_247, wn_250_248, wn_250_249, wn_250_251, wn_251_243, wn_251_244, wn_251_245, wn_251_246, wn_251_247, wn_251_248, wn_251_249, wn_251_250] at hz5 ⊢
  refine j_ifneb C dX9_account_8 (fun hc8 => ?_) (fun hc8 => ?_)
  · -- 8 T
    refine j_iconst C dX9_account_15 ?_
    refine j_iconst C dX9_account_16 ?_
    refine j_cVI2 C (c_X9_isThrown_0 (by exact hw) ⟨by omega, by omega⟩) oX9_isThrown kX9_207 ⟨_, rfl, rfl⟩ at_243 ⟨by decide, by decide⟩ rfl (Nat.le_of_ble_eq_true rfl) ⟨by decide, by decide⟩ dX9_account_17 ?_
    rintro _ _ hz17 ⟨rfl, rfl⟩
    try simp only [wi_wf, wf_same, wf_wf, tM0, tM1, tM2, tM3, tM4, tM5, tM6, tB0, tB1, tB2, tB3, tB4, tB5, tB6, tL0, tL1, tL2, up_up, wn_243_244, wn_243_245, wn_243_246, wn_243_247, wn_243_248, wn_243_249, wn_243_250, wn_243_251, wn_244_243, wn_244_245, wn_244_246, wn_244_247, wn_244_248, wn_244_249, wn_244_250, wn_244_251, wn_245_243, wn_245_244, wn_245_246, wn_245_247, wn_245_248, wn_245_249, wn_245_250, wn_245_251, wn_246_243, wn_246_244, wn_246_245, wn_246_247, wn_246_248, wn_246_249, wn_246_250, wn_246_251, wn_247_243, wn_247_244, wn_247_245, wn_247_246, wn_247_248, wn_247_249, wn_247_250, wn_247_251, wn_248_243, wn_248_244, wn_248_245, wn_248_246, wn_248_247, wn_248_249, wn_248_250, wn_248_251, wn_249_243, wn_249_244, wn_249_245, wn_249_246, wn_249_247, wn_249_248, wn_249_250, wn_249_251, wn_250_243, wn_250_244, wn_250_245, wn_250_246, wn_250_247, wn_250_248, wn_250_249, wn_250_251, wn_251_243, wn_251_244, wn_251_245, wn_251_246, wn_251_247, wn_251_248, wn_251_249, wn_251_250] at hz17 ⊢
    refine j_if_eq C (by decide) dX9_account_20 (fun _ => ?_) (fun hc => absurd hc (by decide))
    refine j_iload1 C dX9_account_25 ?_
    obtain h | h | h | h | h | h | h | h | h | h | h | h | h : a = 0 ∨ a = 1 ∨ a = 2 ∨ a = 3 ∨ a = 4 ∨ a = 5 ∨ a = 6 ∨ a = 7 ∨ a = 8 ∨ a = 9 ∨ a = 10 ∨ a = 11 ∨ a = 12 := by omega
    all_goals subst h
    · -- 26 case 0
      refine j_tswIn C (by decide) (by decide) (off := 62) rfl (tgt := 88) (by decide) dX9_account_26 ?_
      refine j_aload0 C dX9_account_88 ?_
      refine j_getr C fX9_9 at_243 rfl hw.r0 dX9_account_89 ?_
      refine j_iload1 C dX9_account_92 ?_
      refine j_iald C at_244 ⟨rfl, rfl⟩ (N := 111) rfl (by decide) ⟨by omega, by omega⟩ rfl dX9_account_93 (fun hr93 => ?_)
      try simp only [wf_same, wn_243_244, wn_243_245, wn_243_246, wn_243_247, wn_243_248, wn_243_249, wn_243_250, wn_243_251, wn_244_243, wn_244_245, wn_244_246, wn_244_247, wn_244_248, wn_244_249, wn_244_250, wn_244_251, wn_245_243, wn_245_244, wn_245_246, wn_245_247, wn_245_248, wn_245_249, wn_245_250, wn_245_251, wn_246_243, wn_246_244, wn_246_245, wn_246_247, wn_246_248, wn_246_249, wn_246_250, wn_246_251, wn_247_243, wn_247_244, wn_247_245, wn_247_246, wn_247_248, wn_247_249, wn_247_250, wn_247_251, wn_248_243, wn_248_244, wn_248_245, wn_248_246, wn_248_247, wn_248_249, wn_248_250, wn_248_251, wn_249_243, wn_249_244, wn_249_245, wn_249_246, wn_249_247, wn_249_248, wn_249_250, wn_249_251, wn_250_243, wn_250_244, wn_250_245, wn_250_246, wn_250_247, wn_250_248, wn_250_249, wn_250_251, wn_251_243, wn_251_244, wn_251_245, wn_251_246, wn_251_247, wn_251_248, wn_251_249, wn_251_250] at hr93 ⊢
      refine j_iret C hrt dX9_account_94 ⟨by omega, by omega⟩ ?_
      first
      | exact ⟨rfl, rfl⟩
      | (refine ⟨?_, ?_⟩ <;> (simp only [qAcc]; rw [if_pos (by omega)]))
    · -- 26 case 1
      refine j_tswIn C (by decide) (by decide) (off := 62) rfl (tgt := 88) (by decide) dX9_account_26 ?_
      refine j_aload0 C dX9_account_88 ?_
      refine j_getr C fX9_9 at_243 rfl hw.r0 dX9_account_89 ?_
      refine j_iload1 C dX9_account_92 ?_
      refine j_iald C at_244 ⟨rfl, rfl⟩ (N := 111) rfl (by decide) ⟨by omega, by omega⟩ rfl dX9_account_93 (fun hr93 => ?_)
      try simp only [wf_same, wn_243_244, wn_243_245, wn_243_246, wn_243_247, wn_243_248, wn_243_249, wn_243_250, wn_243_251, wn_244_243, wn_244_245, wn_244_246, wn_244_247, wn_244_248, wn_244_249, wn_244_250, wn_244_251, wn_245_243, wn_245_244, wn_245_246, wn_245_247, wn_245_248, wn_245_249, wn_245_250, wn_245_251, wn_246_243, wn_246_244, wn_246_245, wn_246_247, wn_246_248, wn_246_249, wn_246_250, wn_246_251, wn_247_243, wn_247_244, wn_247_245, wn_247_246, wn_247_248, wn_247_249, wn_247_250, wn_247_251, wn_248_243, wn_248_244, wn_248_245, wn_248_246, wn_248_247, wn_248_249, wn_248_250, wn_248_251, wn_249_243, wn_249_244, wn_249_245, wn_249_246, wn_249_247, wn_249_248, wn_249_250, wn_249_251, wn_250_243, wn_250_244, wn_250_245, wn_250_246, wn_250_247, wn_250_248, wn_250_249, wn_250_251, wn_251_243, wn_251_244, wn_251_245, wn_251_246, wn_251_247, wn_251_248, wn_251_249, wn_251_250] at hr93 ⊢
      refine j_iret C hrt dX9_account_94 ⟨by omega, by omega⟩ ?_
      first
      | exact ⟨rfl, rfl⟩
      | (refine ⟨?_, ?_⟩ <;> (simp only [qAcc]; rw [if_pos (by omega)]))
    · -- 26 case 2
      refine j_tswIn C (by decide) (by decide) (off := 69) rfl (tgt := 95) (by decide) dX9_account_26 ?_
      refine j_aload0 C dX9_account_95 ?_
      refine j_getr C fX9_9 at_243 rfl hw.r0 dX9_account_96 ?_
      refine j_iconst C dX9_account_99 ?_
      refine j_ialdK C at_244 ⟨rfl, rfl⟩ (N := 111) rfl (by decide) (k := 1) rfl (by decide) dX9_account_100 (fun hr100 => ?_)
      try simp only [wf_same, wn_243_244, wn_243_245, wn_243_246, wn_243_247, wn_243_248, wn_243_249, wn_243_250, wn_243_251, wn_244_243, wn_244_245, wn_244_246, wn_244_247, wn_244_248, wn_244_249, wn_244_250, wn_244_251, wn_245_243, wn_245_244, wn_245_246, wn_245_247, wn_245_248, wn_245_249, wn_245_250, wn_245_251, wn_246_243, wn_246_244, wn_246_245, wn_246_247, wn_246_248, wn_246_249, wn_246_250, wn_246_251, wn_247_243, wn_247_244, wn_247_245, wn_247_246, wn_247_248, wn_247_249, wn_247_250, wn_247_251, wn_248_243, wn_248_244, wn_248_245, wn_248_246, wn_248_247, wn_248_249, wn_248_250, wn_248_251, wn_249_243, wn_249_244, wn_249_245, wn_249_246, wn_249_247, wn_249_248, wn_249_250, wn_249_251, wn_250_243, wn_250_244, wn_250_245, wn_250_246, wn_250_247, wn_250_248, wn_250_249, wn_250_251, wn_251_243, wn_251_244, wn_251_245, wn_251_246, wn_251_247, wn_251_248, wn_251_249, wn_251_250] at hr100 ⊢
      refine j_aload0 C dX9_account_101 ?_
      refine j_cVI0 C (c_X9_remaining (by exact hw) (by exact hI)) oX9_remaining kX9_113 ⟨_, rfl, rfl⟩ at_243 ⟨by decide, by decide⟩ rfl (Nat.le_of_ble_eq_true rfl) ⟨by decide, by decide⟩ dX9_account_102 ?_
      rintro _ _ hz102 ⟨rfl, rfl⟩
      try simp only [wi_wf, wf_same, wf_wf, tM0, tM1, tM2, tM3, tM4, tM5, tM6, tB0, tB1, tB2, tB3, tB4, tB5, tB6, tL0, tL1, tL2, up_up, wn_243_244, wn_243_245, wn_243_246, wn_243_247, wn_243_248, wn_243_249, wn_243_250, wn_243_251, wn_244_243, wn_244_245, wn_244_246, wn_244_247, wn_244_248, wn_244_249, wn_244_250, wn_244_251, wn_245_243, wn_245_244, wn_245_246, wn_245_247, wn_245_248, wn_245_249, wn_245_250, wn_245_251, wn_246_243, wn_246_244, wn_246_245, wn_246_247, wn_246_248, wn_246_249, wn_246_250, wn_246_251, wn_247_243, wn_247_244, wn_247_245, wn_247_246, wn_247_248, wn_247_249, wn_247_250, wn_247_251, wn_248_243, wn_248_244, wn_248_245, wn_248_246, wn_248_247, wn_248_249, wn_248_250, wn_248_251, wn_249_243, wn_249_244, wn_249_245, wn_249_246, wn_249_247, wn_249_248, wn_249_250, wn_249_251, wn_250_243, wn_250_244, wn_250_245, wn_250_246, wn_250_247, wn_250_248, wn_250_249, wn_250_251, wn_251_243, wn_251_244, wn_251_245, wn_251_246, wn_251_247, wn_251_248, wn_251_249, wn_251_250] at hz102 ⊢
      refine j_isub C dX9_account_105 ?_
      refine j_iret C hrt dX9_account_106 ⟨by omega, by omega⟩ ?_
      first
      | exact ⟨rfl, rfl⟩
      | (refine ⟨?_, ?_⟩ <;> (simp only [qAcc]; rw [if_pos (by omega)]))
    · -- 26 case 3
      refine j_tswIn C (by decide) (by decide) (off := 81) rfl (tgt := 107) (by decide) dX9_account_26 ?_
      refine j_aload0 C dX9_account_107 ?_
      refine j_getr C fX9_9 at_243 rfl hw.r0 dX9_account_108 ?_
      refine j_iconst C dX9_account_111 ?_
      refine j_ialdK C at_244 ⟨rfl, rfl⟩ (N := 111) rfl (by decide) (k := 2) rfl (by decide) dX9_account_112 (fun hr112 => ?_)
      try simp only [wf_same, wn_243_244, wn_243_245, wn_243_246, wn_243_247, wn_243_248, wn_243_249, wn_243_250, wn_243_251, wn_244_243, wn_244_245, wn_244_246, wn_244_247, wn_244_248, wn_244_249, wn_244_250, wn_244_251, wn_245_243, wn_245_244, wn_245_246, wn_245_247, wn_245_248, wn_245_249, wn_245_250, wn_245_251, wn_246_243, wn_246_244, wn_246_245, wn_246_247, wn_246_248, wn_246_249, wn_246_250, wn_246_251, wn_247_243, wn_247_244, wn_247_245, wn_247_246, wn_247_248, wn_247_249, wn_247_250, wn_247_251, wn_248_243, wn_248_244, wn_248_245, wn_248_246, wn_248_247, wn_248_249, wn_248_250, wn_248_251, wn_249_243, wn_249_244, wn_249_245, wn_249_246, wn_249_247, wn_249_248, wn_249_250, wn_249_251, wn_250_243, wn_250_244, wn_250_245, wn_250_246, wn_250_247, wn_250_248, wn_250_249, wn_250_251, wn_251_243, wn_251_244, wn_251_245, wn_251_246, wn_251_247, wn_251_248, wn_251_249, wn_251_250] at hr112 ⊢
      refine j_iret C hrt dX9_account_113 ⟨by omega, by omega⟩ ?_
      first
      | exact ⟨rfl, rfl⟩
      | (refine ⟨?_, ?_⟩ <;> (simp only [qAcc]; rw [if_pos (by omega)]))
    · -- 26 case 4
      refine j_tswIn C (by decide) (by decide) (off := 88) rfl (tgt := 114) (by decide) dX9_account_26 ?_
      refine j_aload0 C dX9_account_114 ?_
      refine j_cVI0 C (c_X9_boatsOut (by exact hw) (by exact hI)) oX9_boatsOut kX9_270 ⟨_, rfl, rfl⟩ at_243 ⟨by decide, by decide⟩ rfl (Nat.le_of_ble_eq_true rfl) ⟨by decide, by decide⟩ dX9_account_115 ?_
      rintro _ _ hz115 ⟨rfl, rfl⟩
      try simp only [wi_wf, wf_same, wf_wf, tM0, tM1, tM2, tM3, tM4, tM5, tM6, tB0, tB1, tB2, tB3, tB4, tB5, tB6, tL0, tL1, tL2, up_up, wn_243_244, wn_243_245, wn_243_246, wn_243_247, wn_243_248, wn_243_249, wn_243_250, wn_243_251, wn_244_243, wn_244_245, wn_244_246, wn_244_247, wn_244_248, wn_244_249, wn_244_250, wn_244_251, wn_245_243, wn_245_244, wn_245_246, wn_245_247, wn_245_248, wn_245_249, wn_245_250, wn_245_251, wn_246_243, wn_246_244, wn_246_245, wn_246_247, wn_246_248, wn_246_249, wn_246_250, wn_246_251, wn_247_243, wn_247_244, wn_247_245, wn_247_246, wn_247_248, wn_247_249, wn_247_250, wn_247_251, wn_248_243, wn_248_244, wn_248_245, wn_248_246, wn_248_247, wn_248_249, wn_248_250, wn_248_251, wn_249_243, wn_249_244, wn_249_245, wn_249_246, wn_249_247, wn_249_248, wn_249_250, wn_249_251, wn_250_243, wn_250_244, wn_250_245, wn_250_246, wn_250_247, wn_250_248, wn_250_249, wn_250_251, wn_251_243, wn_251_244, wn_251_245, wn_251_246, wn_251_247, wn_251_248, wn_251_249, wn_251_250] at hz115 ⊢
      refine j_iret C hrt dX9_account_118 ⟨by omega, by omega⟩ ?_
      first
      | exact ⟨rfl, rfl⟩
      | (refine ⟨?_, ?_⟩ <;> (simp only [qAcc]; rw [if_pos (by omega)]))
    · -- 26 case 5
      refine j_tswIn C (by decide) (by decide) (off := 93) rfl (tgt := 119) (by decide) dX9_account_26 ?_
      refine j_aload0 C dX9_account_119 ?_
      refine j_getr C fX9_9 at_243 rfl hw.r0 dX9_account_120 ?_
      refine j_iconst C dX9_account_123 ?_
      refine j_ialdK C at_244 ⟨rfl, rfl⟩ (N := 111) rfl (by decide) (k := 3) rfl (by decide) dX9_account_124 (fun hr124 => ?_)
      try simp only [wf_same, wn_243_244, wn_243_245, wn_243_246, wn_243_247, wn_243_248, wn_243_249, wn_243_250, wn_243_251, wn_244_243, wn_244_245, wn_244_246, wn_244_247, wn_244_248, wn_244_249, wn_244_250, wn_244_251, wn_245_243, wn_245_244, wn_245_246, wn_245_247, wn_245_248, wn_245_249, wn_245_250, wn_245_251, wn_246_243, wn_246_244, wn_246_245, wn_246_247, wn_246_248, wn_246_249, wn_246_250, wn_246_251, wn_247_243, wn_247_244, wn_247_245, wn_247_246, wn_247_248, wn_247_249, wn_247_250, wn_247_251, wn_248_243, wn_248_244, wn_248_245, wn_248_246, wn_248_247, wn_248_249, wn_248_250, wn_248_251, wn_249_243, wn_249_244, wn_249_245, wn_249_246, wn_249_247, wn_249_248, wn_249_250, wn_249_251, wn_250_243, wn_250_244, wn_250_245, wn_250_246, wn_250_247, wn_250_248, wn_250_249, wn_250_251, wn_251_243, wn_251_244, wn_251_245, wn_251_246, wn_251_247, wn_251_248, wn_251_249, wn_251_250] at hr124 ⊢
      refine j_iret C hrt dX9_account_125 ⟨by omega, by omega⟩ ?_
      first
      | exact ⟨rfl, rfl⟩
      | (refine ⟨?_, ?_⟩ <;> (simp only [qAcc]; rw [if_pos (by omega)]))
    · -- 26 case 6
      refine j_tswIn C (by decide) (by decide) (off := 100) rfl (tgt := 126) (by decide) dX9_account_26 ?_
      refine j_aload0 C dX9_account_126 ?_
      refine j_cVI0 C (c_X9_allOars (by exact hw) (by exact hI)) oX9_allOars kX9_79 ⟨_, rfl, rfl⟩ at_243 ⟨by decide, by decide⟩ rfl (Nat.le_of_ble_eq_true rfl) ⟨by decide, by decide⟩ dX9_account_127 ?_
      rintro _ _ hz127 ⟨rfl, rfl⟩
      try simp only [wi_wf, wf_same, wf_wf, tM0, tM1, tM2, tM3, tM4, tM5, tM6, tB0, tB1, tB2, tB3, tB4, tB5, tB6, tL0, tL1, tL2, up_up, wn_243_244, wn_243_245, wn_243_246, wn_243_247, wn_243_248, wn_243_249, wn_243_250, wn_243_251, wn_244_243, wn_244_245, wn_244_246, wn_244_247, wn_244_248, wn_244_249, wn_244_250, wn_244_251, wn_245_243, wn_245_244, wn_245_246, wn_245_247, wn_245_248, wn_245_249, wn_245_250, wn_245_251, wn_246_243, wn_246_244, wn_246_245, wn_246_247, wn_246_248, wn_246_249, wn_246_250, wn_246_251, wn_247_243, wn_247_244, wn_247_245, wn_247_246, wn_247_248, wn_247_249, wn_247_250, wn_247_251, wn_248_243, wn_248_244, wn_248_245, wn_248_246, wn_248_247, wn_248_249, wn_248_250, wn_248_251, wn_249_243, wn_249_244, wn_249_245, wn_249_246, wn_249_247, wn_249_248, wn_249_250, wn_249_251, wn_250_243, wn_250_244, wn_250_245, wn_250_246, wn_250_247, wn_250_248, wn_250_249, wn_250_251, wn_251_243, wn_251_244, wn_251_245, wn_251_246, wn_251_247, wn_251_248, wn_251_249, wn_251_250] at hz127 ⊢
      refine j_iret C hrt dX9_account_130 ⟨by omega, by omega⟩ ?_
      first
      | exact ⟨rfl, rfl⟩
      | (refine ⟨?_, ?_⟩ <;> (simp only [qAcc]; rw [if_pos (by omega)]))
    · -- 26 case 7
      refine j_tswIn C (by decide) (by decide) (off := 105) rfl (tgt := 131) (by decide) dX9_account_26 ?_
      refine j_aload0 C dX9_account_131 ?_
      refine j_getr C fX9_9 at_243 rfl hw.r0 dX9_account_132 ?_
      refine j_iload1 C dX9_account_135 ?_
      refine j_bipush C (by decide) dX9_account_136 ?_
      refine j_isub C dX9_account_138 ?_
      refine j_iconst C dX9_account_139 ?_
      refine j_iadd C dX9_account_140 ?_
      refine j_iald C at_244 ⟨rfl, rfl⟩ (N := 111) rfl (by decide) ⟨by omega, by omega⟩ rfl dX9_account_141 (fun hr141 => ?_)
      try simp only [wf_same, wn_243_244, wn_243_245, wn_243_246, wn_243_247, wn_243_248, wn_243_249, wn_243_250, wn_243_251, wn_244_243, wn_244_245, wn_244_246, wn_244_247, wn_244_248, wn_244_249, wn_244_250, wn_244_251, wn_245_243, wn_245_244, wn_245_246, wn_245_247, wn_245_248, wn_245_249, wn_245_250, wn_245_251, wn_246_243, wn_246_244, wn_246_245, wn_246_247, wn_246_248, wn_246_249, wn_246_250, wn_246_251, wn_247_243, wn_247_244, wn_247_245, wn_247_246, wn_247_248, wn_247_249, wn_247_250, wn_247_251, wn_248_243, wn_248_244, wn_248_245, wn_248_246, wn_248_247, wn_248_249, wn_248_250, wn_248_251, wn_249_243, wn_249_244, wn_249_245, wn_249_246, wn_249_247, wn_249_248, wn_249_250, wn_249_251, wn_250_243, wn_250_244, wn_250_245, wn_250_246, wn_250_247, wn_250_248, wn_250_249, wn_250_251, wn_251_243, wn_251_244, wn_251_245, wn_251_246, wn_251_247, wn_251_248, wn_251_249, wn_251_250] at hr141 ⊢
      refine j_iret C hrt dX9_account_142 ⟨by omega, by omega⟩ ?_
      first
      | exact ⟨rfl, rfl⟩
      | (refine ⟨?_, ?_⟩ <;> (simp only [qAcc]; rw [if_pos (by omega)]))
    · -- 26 case 8
      refine j_tswIn C (by decide) (by decide) (off := 105) rfl (tgt := 131) (by decide) dX9_account_26 ?_
      refine j_aload0 C dX9_account_131 ?_
      refine j_getr C fX9_9 at_243 rfl hw.r0 dX9_account_132 ?_
      refine j_iload1 C dX9_account_135 ?_
      refine j_bipush C (by decide) dX9_account_136 ?_
      refine j_isub C dX9_account_138 ?_
      refine j_iconst C dX9_account_139 ?_
      refine j_iadd C dX9_account_140 ?_
      refine j_iald C at_244 ⟨rfl, rfl⟩ (N := 111) rfl (by decide) ⟨by omega, by omega⟩ rfl dX9_account_141 (fun hr141 => ?_)
      try simp only [wf_same, wn_243_244, wn_243_245, wn_243_246, wn_243_247, wn_243_248, wn_243_249, wn_243_250, wn_243_251, wn_244_243, wn_244_245, wn_244_246, wn_244_247, wn_244_248, wn_244_249, wn_244_250, wn_244_251, wn_245_243, wn_245_244, wn_245_246, wn_245_247, wn_245_248, wn_245_249, wn_245_250, wn_245_251, wn_246_243, wn_246_244, wn_246_245, wn_246_247, wn_246_248, wn_246_249, wn_246_250, wn_246_251, wn_247_243, wn_247_244, wn_247_245, wn_247_246, wn_247_248, wn_247_249, wn_247_250, wn_247_251, wn_248_243, wn_248_244, wn_248_245, wn_248_246, wn_248_247, wn_248_249, wn_248_250, wn_248_251, wn_249_243, wn_249_244, wn_249_245, wn_249_246, wn_249_247, wn_249_248, wn_249_250, wn_249_251, wn_250_243, wn_250_244, wn_250_245, wn_250_246, wn_250_247, wn_250_248, wn_250_249, wn_250_251, wn_251_243, wn_251_244, wn_251_245, wn_251_246, wn_251_247, wn_251_248, wn_251_249, wn_251_250] at hr141 ⊢
      refine j_iret C hrt dX9_account_142 ⟨by omega, by omega⟩ ?_
      first
      | exact ⟨rfl, rfl⟩
      | (refine ⟨?_, ?_⟩ <;> (simp only [qAcc]; rw [if_pos (by omega)]))
    · -- 26 case 9
      refine j_tswIn C (by decide) (by decide) (off := 105) rfl (tgt := 131) (by decide) dX9_account_26 ?_
      refine j_aload0 C dX9_account_131 ?_
      refine j_getr C fX9_9 at_243 rfl hw.r0 dX9_account_132 ?_
      refine j_iload1 C dX9_account_135 ?_
      refine j_bipush C (by decide) dX9_account_136 ?_
      refine j_isub C dX9_account_138 ?_
      refine j_iconst C dX9_account_139 ?_
      refine j_iadd C dX9_account_140 ?_
      refine j_iald C at_244 ⟨rfl, rfl⟩ (N := 111) rfl (by decide) ⟨by omega, by omega⟩ rfl dX9_account_141 (fun hr141 => ?_)
      try simp only [wf_same, wn_243_244, wn_243_245, wn_243_246, wn_243_247, wn_243_248, wn_243_249, wn_243_250, wn_243_251, wn_244_243, wn_244_245, wn_244_246, wn_244_247, wn_244_248, wn_244_249, wn_244_250, wn_244_251, wn_245_243, wn_245_244, wn_245_246, wn_245_247, wn_245_248, wn_245_249, wn_245_250, wn_245_251, wn_246_243, wn_246_244, wn_246_245, wn_246_247, wn_246_248, wn_246_249, wn_246_250, wn_246_251, wn_247_243, wn_247_244, wn_247_245, wn_247_246, wn_247_248, wn_247_249, wn_247_250, wn_247_251, wn_248_243, wn_248_244, wn_248_245, wn_248_246, wn_248_247, wn_248_249, wn_248_250, wn_248_251, wn_249_243, wn_249_244, wn_249_245, wn_249_246, wn_249_247, wn_249_248, wn_249_250, wn_249_251, wn_250_243, wn_250_244, wn_250_245, wn_250_246, wn_250_247, wn_250_248, wn_250_249, wn_250_251, wn_251_243, wn_251_244, wn_251_245, wn_251_246, wn_251_247, wn_251_248, wn_251_249, wn_251_250] at hr141 ⊢
      refine j_iret C hrt dX9_account_142 ⟨by omega, by omega⟩ ?_
      first
      | exact ⟨rfl, rfl⟩
      | (refine ⟨?_, ?_⟩ <;> (simp only [qAcc]; rw [if_pos (by omega)]))
    · -- 26 case 10
      refine j_tswIn C (by decide) (by decide) (off := 117) rfl (tgt := 143) (by decide) dX9_account_26 ?_
      refine j_aload0 C dX9_account_143 ?_
      refine j_getr C fX9_9 at_243 rfl hw.r0 dX9_account_144 ?_
      refine j_bipush C (by decide) dX9_account_147 ?_
      refine j_ialdK C at_244 ⟨rfl, rfl⟩ (N := 111) rfl (by decide) (k := 7) rfl (by decide) dX9_account_149 (fun hr149 => ?_)
      try simp only [wf_same, wn_243_244, wn_243_245, wn_243_246, wn_243_247, wn_243_248, wn_243_249, wn_243_250, wn_243_251, wn_244_243, wn_244_245, wn_244_246, wn_244_247, wn_244_248, wn_244_249, wn_244_250, wn_244_251, wn_245_243, wn_245_244, wn_245_246, wn_245_247, wn_245_248, wn_245_249, wn_245_250, wn_245_251, wn_246_243, wn_246_244, wn_246_245, wn_246_247, wn_246_248, wn_246_249, wn_246_250, wn_246_251, wn_247_243, wn_247_244, wn_247_245, wn_247_246, wn_247_248, wn_247_249, wn_247_250, wn_247_251, wn_248_243, wn_248_244, wn_248_245, wn_248_246, wn_248_247, wn_248_249, wn_248_250, wn_248_251, wn_249_243, wn_249_244, wn_249_245, wn_249_246, wn_249_247, wn_249_248, wn_249_250, wn_249_251, wn_250_243, wn_250_244, wn_250_245, wn_250_246, wn_250_247, wn_250_248, wn_250_249, wn_250_251, wn_251_243, wn_251_244, wn_251_245, wn_251_246, wn_251_247, wn_251_248, wn_251_249, wn_251_250] at hr149 ⊢
      refine j_iret C hrt dX9_account_150 ⟨by omega, by omega⟩ ?_
      first
      | exact ⟨rfl, rfl⟩
      | (refine ⟨?_, ?_⟩ <;> (simp only [qAcc]; rw [if_pos (by omega)]))
    · -- 26 case 11
      refine j_tswIn C (by decide) (by decide) (off := 125) rfl (tgt := 151) (by decide) dX9_account_26 ?_
      refine j_aload0 C dX9_account_151 ?_
      refine j_geti C fX9_45 at_243 rfl rfl dX9_account_152 (fun hr152 => ?_)
      try simp only [wf_same, wn_243_244, wn_243_245, wn_243_246, wn_243_247, wn_243_248, wn_243_249, wn_243_250, wn_243_251, wn_244_243, wn_244_245, wn_244_246, wn_244_247, wn_244_248, wn_244_249, wn_244_250, wn_244_251, wn_245_243, wn_245_244, wn_245_246, wn_245_247, wn_245_248, wn_245_249, wn_245_250, wn_245_251, wn_246_243, wn_246_244, wn_246_245, wn_246_247, wn_246_248, wn_246_249, wn_246_250, wn_246_251, wn_247_243, wn_247_244, wn_247_245, wn_247_246, wn_247_248, wn_247_249, wn_247_250, wn_247_251, wn_248_243, wn_248_244, wn_248_245, wn_248_246, wn_248_247, wn_248_249, wn_248_250, wn_248_251, wn_249_243, wn_249_244, wn_249_245, wn_249_246, wn_249_247, wn_249_248, wn_249_250, wn_249_251, wn_250_243, wn_250_244, wn_250_245, wn_250_246, wn_250_247, wn_250_248, wn_250_249, wn_250_251, wn_251_243, wn_251_244, wn_251_245, wn_251_246, wn_251_247, wn_251_248, wn_251_249, wn_251_250] at hr152 ⊢
      refine j_iret C hrt dX9_account_155 ⟨by omega, by omega⟩ ?_
      first
      | exact ⟨rfl, rfl⟩
      | (refine ⟨?_, ?_⟩ <;> (simp only [qAcc]; rw [if_pos (by omega)]))
    · -- 26 case 12
      refine j_tswOut C (by decide) (by decide) (tgt := 156) (by decide) dX9_account_26 ?_
      refine j_aload0 C dX9_account_156 ?_
      refine j_geti C fX9_227 at_243 rfl rfl dX9_account_157 (fun hr157 => ?_)
      try simp only [wf_same, wn_243_244, wn_243_245, wn_243_246, wn_243_247, wn_243_248, wn_243_249, wn_243_250, wn_243_251, wn_244_243, wn_244_245, wn_244_246, wn_244_247, wn_244_248, wn_244_249, wn_244_250, wn_244_251, wn_245_243, wn_245_244, wn_245_246, wn_245_247, wn_245_248, wn_245_249, wn_245_250, wn_245_251, wn_246_243, wn_246_244, wn_246_245, wn_246_247, wn_246_248, wn_246_249, wn_246_250, wn_246_251, wn_247_243, wn_247_244, wn_247_245, wn_247_246, wn_247_248, wn_247_249, wn_247_250, wn_247_251, wn_248_243, wn_248_244, wn_248_245, wn_248_246, wn_248_247, wn_248_249, wn_248_250, wn_248_251, wn_249_243, wn_249_244, wn_249_245, wn_249_246, wn_249_247, wn_249_248, wn_249_250, wn_249_251, wn_250_243, wn_250_244, wn_250_245, wn_250_246, wn_250_247, wn_250_248, wn_250_249, wn_250_251, wn_251_243, wn_251_244, wn_251_245, wn_251_246, wn_251_247, wn_251_248, wn_251_249, wn_251_250] at hr157 ⊢
      refine j_iret C hrt dX9_account_160 ⟨by omega, by omega⟩ ?_
      first
      | exact ⟨rfl, rfl⟩
      | (refine ⟨?_, ?_⟩ <;> (simp only [qAcc]; rw [if_pos (by omega)]))
  · -- 8 F
    refine j_iconst C dX9_account_11 ?_
    refine j_goto C dX9_account_12 ?_
    refine j_iconst C dX9_account_16 ?_
    refine j_cVI2 C (c_X9_isThrown_1 (by exact hw) ⟨by omega, by omega⟩) oX9_isThrown kX9_207 ⟨_, rfl, rfl⟩ at_243 ⟨by decide, by decide⟩ rfl (Nat.le_of_ble_eq_true rfl) ⟨by decide, by decide⟩ dX9_account_17 ?_
    rintro _ _ hz17 ⟨rfl, rfl⟩
    try simp only [wi_wf, wf_same, wf_wf, tM0, tM1, tM2, tM3, tM4, tM5, tM6, tB0, tB1, tB2, tB3, tB4, tB5, tB6, tL0, tL1, tL2, up_up, wn_243_244, wn_243_245, wn_243_246, wn_243_247, wn_243_248, wn_243_249, wn_243_250, wn_243_251, wn_244_243, wn_244_245, wn_244_246, wn_244_247, wn_244_248, wn_244_249, wn_244_250, wn_244_251, wn_245_243, wn_245_244, wn_245_246, wn_245_247, wn_245_248, wn_245_249, wn_245_250, wn_245_251, wn_246_243, wn_246_244, wn_246_245, wn_246_247, wn_246_248, wn_246_249, wn_246_250, wn_246_251, wn_247_243, wn_247_244, wn_247_245, wn_247_246, wn_247_248, wn_247_249, wn_247_250, wn_247_251, wn_248_243, wn_248_244, wn_248_245, wn_248_246, wn_248_247, wn_248_249, wn_248_250, wn_248_251, wn_249_243, wn_249_244, wn_249_245, wn_249_246, wn_249_247, wn_249_248, wn_249_250, wn_249_251, wn_250_243, wn_250_244, wn_250_245, wn_250_246, wn_250_247, wn_250_248, wn_250_249, wn_250_251, wn_251_243, wn_251_244, wn_251_245, wn_251_246, wn_251_247, wn_251_248, wn_251_249, wn_251_250] at hz17 ⊢
    refine j_if_eq C (by decide) dX9_account_20 (fun hc => absurd hc (by decide)) (fun _ => ?_)
    refine j_iconst C dX9_account_23 ?_
    refine j_iret C hrt dX9_account_24 ⟨by omega, by omega⟩ ?_
    first
    | exact ⟨rfl, rfl⟩
    | (refine ⟨?_, ?_⟩ <;> (simp only [qAcc]; rw [if_pos (by omega)]))
set_option maxRecDepth 100000 in
set_option maxHeartbeats 4000000 in
theorem c_X9_reason {Γ : Ga} {l : Launch} {ω : Wo} (hw : WM ω.2.1)  {P P2 : Prop} [Decidable P] [Decidable P2] : CI Γ l yX9_reason cX9_reason 3 .int 1 [.ref (rl Γ 243), .int (iI (bI P)), .int (iI (bI P2))] ω (fun z ω' => z = (qReason (ω.1 243) P P2).2 ∧ ω' = wf ω 243 (up (ω.1 243) 6 (qReason (ω.1 243) P P2).1)) := by
  refine Met.ofJ (k := 0) [some (.ref (rl Γ 243)), some (.int (iI (bI P))), some (.int (iI (bI P2)))] (by decide) rfl rfl rfl (fun p e s mm args below meth c C hrt => ?_)
  refine j_aload0 C dX9_reason_0 ?_
  refine j_iload1 C dX9_reason_1 ?_
  refine j_ifeqb C dX9_reason_2 (fun hc2 => ?_) (fun hc2 => ?_)
  · -- 2 T
    refine j_aload0 C dX9_reason_5 ?_
    refine j_geti C fX9_57 at_243 rfl rfl dX9_reason_6 (fun hr6 => ?_)
    try simp only [wf_same, wn_243_244, wn_243_245, wn_243_246, wn_243_247, wn_243_248, wn_243_249, wn_243_250, wn_243_251, wn_244_243, wn_244_245, wn_244_246, wn_244_247, wn_244_248, wn_244_249, wn_244_250, wn_244_251, wn_245_243, wn_245_244, wn_245_246, wn_245_247, wn_245_248, wn_245_249, wn_245_250, wn_245_251, wn_246_243, wn_246_244, wn_246_245, wn_246_247, wn_246_248, wn_246_249, wn_246_250, wn_246_251, wn_247_243, wn_247_244, wn_247_245, wn_247_246, wn_247_248, wn_247_249, wn_247_250, wn_247_251, wn_248_243, wn_248_244, wn_248_245, wn_248_246, wn_248_247, wn_248_249, wn_248_250, wn_248_251, wn_249_243, wn_249_244, wn_249_245, wn_249_246, wn_249_247, wn_249_248, wn_249_250, wn_249_251, wn_250_243, wn_250_244, wn_250_245, wn_250_246, wn_250_247, wn_250_248, wn_250_249, wn_250_251, wn_251_243, wn_251_244, wn_251_245, wn_251_246, wn_251_247, wn_251_248, wn_251_249, wn_251_250] at hr6 ⊢
    refine j_if_ne C ⟨by omega, by omega⟩ dX9_reason_9 (fun hc9 => ?_) (fun hc9 => ?_)
    · -- 9 T
      refine j_iconst C dX9_reason_16 ?_
      refine j_goto C dX9_reason_17 ?_
      refine j_iconst C dX9_reason_32 ?_
      refine j_cVI2 C (c_X9_isThrown_0 (by exact hw) ⟨by omega, by omega⟩) oX9_isThrown kX9_207 ⟨_, rfl, rfl⟩ at_243 ⟨by decide, by decide⟩ rfl (Nat.le_of_ble_eq_true rfl) ⟨by decide, by decide⟩ dX9_reason_33 ?_
      rintro _ _ hz33 ⟨rfl, rfl⟩
      try simp only [wi_wf, wf_same, wf_wf, tM0, tM1, tM2, tM3, tM4, tM5, tM6, tB0, tB1, tB2, tB3, tB4, tB5, tB6, tL0, tL1, tL2, up_up, wn_243_244, wn_243_245, wn_243_246, wn_243_247, wn_243_248, wn_243_249, wn_243_250, wn_243_251, wn_244_243, wn_244_245, wn_244_246, wn_244_247, wn_244_248, wn_244_249, wn_244_250, wn_244_251, wn_245_243, wn_245_244, wn_245_246, wn_245_247, wn_245_248, wn_245_249, wn_245_250, wn_245_251, wn_246_243, wn_246_244, wn_246_245, wn_246_247, wn_246_248, wn_246_249, wn_246_250, wn_246_251, wn_247_243, wn_247_244, wn_247_245, wn_247_246, wn_247_248, wn_247_249, wn_247_250, wn_247_251, wn_248_243, wn_248_244, wn_248_245, wn_248_246, wn_248_247, wn_248_249, wn_248_250, wn_248_251, wn_249_243, wn_249_244, wn_249_245, wn_249_246, wn_249_247, wn_249_248, wn_249_250, wn_249_251, wn_250_243, wn_250_244, wn_250_245, wn_250_246, wn_250_247, wn_250_248, wn_250_249, wn_250_251, wn_251_243, wn_251_244, wn_251_245, wn_251_246, wn_251_247, wn_251_248, wn_251_249, wn_251_250] at hz33 ⊢
      refine j_if_eq C (by decide) dX9_reason_36 (fun _ => ?_) (fun hc => absurd hc (by decide))
      refine j_iload1 C dX9_reason_41 ?_
      refine j_ifeqb C dX9_reason_42 (fun hc42 => ?_) (fun hc42 => ?_)
      · -- 42 T
        refine j_iload2 C dX9_reason_45 ?_
        refine j_ifeqb C dX9_reason_46 (fun hc46 => ?_) (fun hc46 => ?_)
        · -- 46 T
          refine j_aload0 C dX9_reason_49 ?_
          refine j_geti C fX9_252 at_243 rfl rfl dX9_reason_50 (fun hr50 => ?_)
          try simp only [wf_same, wn_243_244, wn_243_245, wn_243_246, wn_243_247, wn_243_248, wn_243_249, wn_243_250, wn_243_251, wn_244_243, wn_244_245, wn_244_246, wn_244_247, wn_244_248, wn_244_249, wn_244_250, wn_244_251, wn_245_243, wn_245_244, wn_245_246, wn_245_247, wn_245_248, wn_245_249, wn_245_250, wn_245_251, wn_246_243, wn_246_244, wn_246_245, wn_246_247, wn_246_248, wn_246_249, wn_246_250, wn_246_251, wn_247_243, wn_247_244, wn_247_245, wn_247_246, wn_247_248, wn_247_249, wn_247_250, wn_247_251, wn_248_243, wn_248_244, wn_248_245, wn_248_246, wn_248_247, wn_248_249, wn_248_250, wn_248_251, wn_249_243, wn_249_244, wn_249_245, wn_249_246, wn_249_247, wn_249_248, wn_249_250, wn_249_251, wn_250_243, wn_250_244, wn_250_245, wn_250_246, wn_250_247, wn_250_248, wn_250_249, wn_250_251, wn_251_243, wn_251_244, wn_251_245, wn_251_246, wn_251_247, wn_251_248, wn_251_249, wn_251_250] at hr50 ⊢
          refine j_goto C dX9_reason_53 ?_
          refine j_iret C hrt dX9_reason_78 ⟨by omega, by omega⟩ ?_
          first
          | exact absurd hc42 hc2
          | exact absurd hc2 hc42
          | (refine ⟨?_, ?_⟩ <;> (simp only [qReason]; (repeat (first | rw [if_pos (by assumption)] | rw [if_neg (by assumption)])); (try rfl)))
        · -- 46 F
          refine j_aload0 C dX9_reason_56 ?_
          refine j_geti C fX9_57 at_243 rfl rfl dX9_reason_57 (fun hr57 => ?_)
          try simp only [wf_same, wn_243_244, wn_243_245, wn_243_246, wn_243_247, wn_243_248, wn_243_249, wn_243_250, wn_243_251, wn_244_243, wn_244_245, wn_244_246, wn_244_247, wn_244_248, wn_244_249, wn_244_250, wn_244_251, wn_245_243, wn_245_244, wn_245_246, wn_245_247, wn_245_248, wn_245_249, wn_245_250, wn_245_251, wn_246_243, wn_246_244, wn_246_245, wn_246_247, wn_246_248, wn_246_249, wn_246_250, wn_246_251, wn_247_243, wn_247_244, wn_247_245, wn_247_246, wn_247_248, wn_247_249, wn_247_250, wn_247_251, wn_248_243, wn_248_244, wn_248_245, wn_248_246, wn_248_247, wn_248_249, wn_248_250, wn_248_251, wn_249_243, wn_249_244, wn_249_245, wn_249_246, wn_249_247, wn_249_248, wn_249_250, wn_249_251, wn_250_243, wn_250_244, wn_250_245, wn_250_246, wn_250_247, wn_250_248, wn_250_249, wn_250_251, wn_251_243, wn_251_244, wn_251_245, wn_251_246, wn_251_247, wn_251_248, wn_251_249, wn_251_250] at hr57 ⊢
          refine j_goto C dX9_reason_60 ?_
          refine j_iret C hrt dX9_reason_78 ⟨by omega, by omega⟩ ?_
          first
          | exact absurd hc42 hc2
          | exact absurd hc2 hc42
          | (refine ⟨?_, ?_⟩ <;> (simp only [qReason]; (repeat (first | rw [if_pos (by assumption)] | rw [if_neg (by assumption)])); (try rfl)))
      · -- 42 F
        refine j_iload2 C dX9_reason_63 ?_
        refine j_ifeqb C dX9_reason_64 (fun hc64 => ?_) (fun hc64 => ?_)
        · -- 64 T
          refine j_aload0 C dX9_reason_67 ?_
          refine j_geti C fX9_54 at_243 rfl rfl dX9_reason_68 (fun hr68 => ?_)
          try simp only [wf_same, wn_243_244, wn_243_245, wn_243_246, wn_243_247, wn_243_248, wn_243_249, wn_243_250, wn_243_251, wn_244_243, wn_244_245, wn_244_246, wn_244_247, wn_244_248, wn_244_249, wn_244_250, wn_244_251, wn_245_243, wn_245_244, wn_245_246, wn_245_247, wn_245_248, wn_245_249, wn_245_250, wn_245_251, wn_246_243, wn_246_244, wn_246_245, wn_246_247, wn_246_248, wn_246_249, wn_246_250, wn_246_251, wn_247_243, wn_247_244, wn_247_245, wn_247_246, wn_247_248, wn_247_249, wn_247_250, wn_247_251, wn_248_243, wn_248_244, wn_248_245, wn_248_246, wn_248_247, wn_248_249, wn_248_250, wn_248_251, wn_249_243, wn_249_244, wn_249_245, wn_249_246, wn_249_247, wn_249_248, wn_249_250, wn_249_251, wn_250_243, wn_250_244, wn_250_245, wn_250_246, wn_250_247, wn_250_248, wn_250_249, wn_250_251, wn_251_243, wn_251_244, wn_251_245, wn_251_246, wn_251_247, wn_251_248, wn_251_249, wn_251_250] at hr68 ⊢
          refine j_goto C dX9_reason_71 ?_
          refine j_iret C hrt dX9_reason_78 ⟨by omega, by omega⟩ ?_
          first
          | exact absurd hc42 hc2
          | exact absurd hc2 hc42
          | (refine ⟨?_, ?_⟩ <;> (simp only [qReason]; (repeat (first | rw [if_pos (by assumption)] | rw [if_neg (by assumption)])); (try rfl)))
        · -- 64 F
          refine j_aload0 C dX9_reason_74 ?_
          refine j_geti C fX9_51 at_243 rfl rfl dX9_reason_75 (fun hr75 => ?_)
          try simp only [wf_same, wn_243_244, wn_243_245, wn_243_246, wn_243_247, wn_243_248, wn_243_249, wn_243_250, wn_243_251, wn_244_243, wn_244_245, wn_244_246, wn_244_247, wn_244_248, wn_244_249, wn_244_250, wn_244_251, wn_245_243, wn_245_244, wn_245_246, wn_245_247, wn_245_248, wn_245_249, wn_245_250, wn_245_251, wn_246_243, wn_246_244, wn_246_245, wn_246_247, wn_246_248, wn_246_249, wn_246_250, wn_246_251, wn_247_243, wn_247_244, wn_247_245, wn_247_246, wn_247_248, wn_247_249, wn_247_250, wn_247_251, wn_248_243, wn_248_244, wn_248_245, wn_248_246, wn_248_247, wn_248_249, wn_248_250, wn_248_251, wn_249_243, wn_249_244, wn_249_245, wn_249_246, wn_249_247, wn_249_248, wn_249_250, wn_249_251, wn_250_243, wn_250_244, wn_250_245, wn_250_246, wn_250_247, wn_250_248, wn_250_249, wn_250_251, wn_251_243, wn_251_244, wn_251_245, wn_251_246, wn_251_247, wn_251_248, wn_251_249, wn_251_250] at hr75 ⊢
          refine j_iret C hrt dX9_reason_78 ⟨by omega, by omega⟩ ?_
          first
          | exact absurd hc42 hc2
          | exact absurd hc2 hc42
          | (refine ⟨?_, ?_⟩ <;> (simp only [qReason]; (repeat (first | rw [if_pos (by assumption)] | rw [if_neg (by assumption)])); (try rfl)))
    · -- 9 F
      refine j_iconst C dX9_reason_12 ?_
      refine j_goto C dX9_reason_13 ?_
      refine j_iconst C dX9_reason_32 ?_
      refine j_cVI2 C (c_X9_isThrown_1 (by exact hw) ⟨by omega, by omega⟩) oX9_isThrown kX9_207 ⟨_, rfl, rfl⟩ at_243 ⟨by decide, by decide⟩ rfl (Nat.le_of_ble_eq_true rfl) ⟨by decide, by decide⟩ dX9_reason_33 ?_
      rintro _ _ hz33 ⟨rfl, rfl⟩
      try simp only [wi_wf, wf_same, wf_wf, tM0, tM1, tM2, tM3, tM4, tM5, tM6, tB0, tB1, tB2, tB3, tB4, tB5, tB6, tL0, tL1, tL2, up_up, wn_243_244, wn_243_245, wn_243_246, wn_243_247, wn_243_248, wn_243_249, wn_243_250, wn_243_251, wn_244_243, wn_244_245, wn_244_246, wn_244_247, wn_244_248, wn_244_249, wn_244_250, wn_244_251, wn_245_243, wn_245_244, wn_245_246, wn_245_247, wn_245_248, wn_245_249, wn_245_250, wn_245_251, wn_246_243, wn_246_244, wn_246_245, wn_246_247, wn_246_248, wn_246_249, wn_246_250, wn_246_251, wn_247_243, wn_247_244, wn_247_245, wn_247_246, wn_247_248, wn_247_249, wn_247_250, wn_247_251, wn_248_243, wn_248_244, wn_248_245, wn_248_246, wn_248_247, wn_248_249, wn_248_250, wn_248_251, wn_249_243, wn_249_244, wn_249_245, wn_249_246, wn_249_247, wn_249_248, wn_249_250, wn_249_251, wn_250_243, wn_250_244, wn_250_245, wn_250_246, wn_250_247, wn_250_248, wn_250_249, wn_250_251, wn_251_243, wn_251_244, wn_251_245, wn_251_246, wn_251_247, wn_251_248, wn_251_249, wn_251_250] at hz33 ⊢
      refine j_if_eq C (by decide) dX9_reason_36 (fun hc => absurd hc (by decide)) (fun _ => ?_)
      refine j_iconst C dX9_reason_39 ?_
      refine j_iret C hrt dX9_reason_40 ⟨by omega, by omega⟩ ?_
      first
      | exact absurd hc42 hc2
      | exact absurd hc2 hc42
      | (refine ⟨?_, ?_⟩ <;> (simp only [qReason]; (repeat (first | rw [if_pos (by assumption)] | rw [if_neg (by assumption)])); (try rfl)))
  · -- 2 F
    refine j_aload0 C dX9_reason_20 ?_
    refine j_geti C fX9_51 at_243 rfl rfl dX9_reason_21 (fun hr21 => ?_)
    try simp only [wf_same, wn_243_244, wn_243_245, wn_243_246, wn_243_247, wn_243_248, wn_243_249, wn_243_250, wn_243_251, wn_244_243, wn_244_245, wn_244_246, wn_244_247, wn_244_248, wn_244_249, wn_244_250, wn_244_251, wn_245_243, wn_245_244, wn_245_246, wn_245_247, wn_245_248, wn_245_249, wn_245_250, wn_245_251, wn_246_243, wn_246_244, wn_246_245, wn_246_247, wn_246_248, wn_246_249, wn_246_250, wn_246_251, wn_247_243, wn_247_244, wn_247_245, wn_247_246, wn_247_248, wn_247_249, wn_247_250, wn_247_251, wn_248_243, wn_248_244, wn_248_245, wn_248_246, wn_248_247, wn_248_249, wn_248_250, wn_248_251, wn_249_243, wn_249_244, wn_249_245, wn_249_246, wn_249_247, wn_249_248, wn_249_250, wn_249_251, wn_250_243, wn_250_244, wn_250_245, wn_250_246, wn_250_247, wn_250_248, wn_250_249, wn_250_251, wn_251_243, wn_251_244, wn_251_245, wn_251_246, wn_251_247, wn_251_248, wn_251_249, wn_251_250] at hr21 ⊢
    refine j_if_ne C ⟨by omega, by omega⟩ dX9_reason_24 (fun hc24 => ?_) (fun hc24 => ?_)
    · -- 24 T
      refine j_iconst C dX9_reason_31 ?_
      refine j_iconst C dX9_reason_32 ?_
      refine j_cVI2 C (c_X9_isThrown_0 (by exact hw) ⟨by omega, by omega⟩) oX9_isThrown kX9_207 ⟨_, rfl, rfl⟩ at_243 ⟨by decide, by decide⟩ rfl (Nat.le_of_ble_eq_true rfl) ⟨by decide, by decide⟩ dX9_reason_33 ?_
      rintro _ _ hz33 ⟨rfl, rfl⟩
      try simp only [wi_wf, wf_same, wf_wf, tM0, tM1, tM2, tM3, tM4, tM5, tM6, tB0, tB1, tB2, tB3, tB4, tB5, tB6, tL0, tL1, tL2, up_up, wn_243_244, wn_243_245, wn_243_246, wn_243_247, wn_243_248, wn_243_249, wn_243_250, wn_243_251, wn_244_243, wn_244_245, wn_244_246, wn_244_247, wn_244_248, wn_244_249, wn_244_250, wn_244_251, wn_245_243, wn_245_244, wn_245_246, wn_245_247, wn_245_248, wn_245_249, wn_245_250, wn_245_251, wn_246_243, wn_246_244, wn_246_245, wn_246_247, wn_246_248, wn_246_249, wn_246_250, wn_246_251, wn_247_243, wn_247_244, wn_247_245, wn_247_246, wn_247_248, wn_247_249, wn_247_250, wn_247_251, wn_248_243, wn_248_244, wn_248_245, wn_248_246, wn_248_247, wn_248_249, wn_248_250, wn_248_251, wn_249_243, wn_249_244, wn_249_245, wn_249_246, wn_249_247, wn_249_248, wn_249_250, wn_249_251, wn_250_243, wn_250_244, wn_250_245, wn_250_246, wn_250_247, wn_250_248, wn_250_249, wn_250_251, wn_251_243, wn_251_244, wn_251_245, wn_251_246, wn_251_247, wn_251_248, wn_251_249, wn_251_250] at hz33 ⊢
      refine j_if_eq C (by decide) dX9_reason_36 (fun _ => ?_) (fun hc => absurd hc (by decide))
      refine j_iload1 C dX9_reason_41 ?_
      refine j_ifeqb C dX9_reason_42 (fun hc42 => ?_) (fun hc42 => ?_)
      · -- 42 T
        refine j_iload2 C dX9_reason_45 ?_
        refine j_ifeqb C dX9_reason_46 (fun hc46 => ?_) (fun hc46 => ?_)
        · -- 46 T
          refine j_aload0 C dX9_reason_49 ?_
          refine j_geti C fX9_252 at_243 rfl rfl dX9_reason_50 (fun hr50 => ?_)
          try simp only [wf_same, wn_243_244, wn_243_245, wn_243_246, wn_243_247, wn_243_248, wn_243_249, wn_243_250, wn_243_251, wn_244_243, wn_244_245, wn_244_246, wn_244_247, wn_244_248, wn_244_249, wn_244_250, wn_244_251, wn_245_243, wn_245_244, wn_245_246, wn_245_247, wn_245_248, wn_245_249, wn_245_250, wn_245_251, wn_246_243, wn_246_244, wn_246_245, wn_246_247, wn_246_248, wn_246_249, wn_246_250, wn_246_251, wn_247_243, wn_247_244, wn_247_245, wn_247_246, wn_247_248, wn_247_249, wn_247_250, wn_247_251, wn_248_243, wn_248_244, wn_248_245, wn_248_246, wn_248_247, wn_248_249, wn_248_250, wn_248_251, wn_249_243, wn_249_244, wn_249_245, wn_249_246, wn_249_247, wn_249_248, wn_249_250, wn_249_251, wn_250_243, wn_250_244, wn_250_245, wn_250_246, wn_250_247, wn_250_248, wn_250_249, wn_250_251, wn_251_243, wn_251_244, wn_251_245, wn_251_246, wn_251_247, wn_251_248, wn_251_249, wn_251_250] at hr50 ⊢
          refine j_goto C dX9_reason_53 ?_
          refine j_iret C hrt dX9_reason_78 ⟨by omega, by omega⟩ ?_
          first
          | exact absurd hc42 hc2
          | exact absurd hc2 hc42
          | (refine ⟨?_, ?_⟩ <;> (simp only [qReason]; (repeat (first | rw [if_pos (by assumption)] | rw [if_neg (by assumption)])); (try rfl)))
        · -- 46 F
          refine j_aload0 C dX9_reason_56 ?_
          refine j_geti C fX9_57 at_243 rfl rfl dX9_reason_57 (fun hr57 => ?_)
          try simp only [wf_same, wn_243_244, wn_243_245, wn_243_246, wn_243_247, wn_243_248, wn_243_249, wn_243_250, wn_243_251, wn_244_243, wn_244_245, wn_244_246, wn_244_247, wn_244_248, wn_244_249, wn_244_250, wn_244_251, wn_245_243, wn_245_244, wn_245_246, wn_245_247, wn_245_248, wn_245_249, wn_245_250, wn_245_251, wn_246_243, wn_246_244, wn_246_245, wn_246_247, wn_246_248, wn_246_249, wn_246_250, wn_246_251, wn_247_243, wn_247_244, wn_247_245, wn_247_246, wn_247_248, wn_247_249, wn_247_250, wn_247_251, wn_248_243, wn_248_244, wn_248_245, wn_248_246, wn_248_247, wn_248_249, wn_248_250, wn_248_251, wn_249_243, wn_249_244, wn_249_245, wn_249_246, wn_249_247, wn_249_248, wn_249_250, wn_249_251, wn_250_243, wn_250_244, wn_250_245, wn_250_246, wn_250_247, wn_250_248, wn_250_249, wn_250_251, wn_251_243, wn_251_244, wn_251_245, wn_251_246, wn_251_247, wn_251_248, wn_251_249, wn_251_250] at hr57 ⊢
          refine j_goto C dX9_reason_60 ?_
          refine j_iret C hrt dX9_reason_78 ⟨by omega, by omega⟩ ?_
          first
          | exact absurd hc42 hc2
          | exact absurd hc2 hc42
          | (refine ⟨?_, ?_⟩ <;> (simp only [qReason]; (repeat (first | rw [if_pos (by assumption)] | rw [if_neg (by assumption)])); (try rfl)))
      · -- 42 F
        refine j_iload2 C dX9_reason_63 ?_
        refine j_ifeqb C dX9_reason_64 (fun hc64 => ?_) (fun hc64 => ?_)
        · -- 64 T
          refine j_aload0 C dX9_reason_67 ?_
          refine j_geti C fX9_54 at_243 rfl rfl dX9_reason_68 (fun hr68 => ?_)
          try simp only [wf_same, wn_243_244, wn_243_245, wn_243_246, wn_243_247, wn_243_248, wn_243_249, wn_243_250, wn_243_251, wn_244_243, wn_244_245, wn_244_246, wn_244_247, wn_244_248, wn_244_249, wn_244_250, wn_244_251, wn_245_243, wn_245_244, wn_245_246, wn_245_247, wn_245_248, wn_245_249, wn_245_250, wn_245_251, wn_246_243, wn_246_244, wn_246_245, wn_246_247, wn_246_248, wn_246_249, wn_246_250, wn_246_251, wn_247_243, wn_247_244, wn_247_245, wn_247_246, wn_247_248, wn_247_249, wn_247_250, wn_247_251, wn_248_243, wn_248_244, wn_248_245, wn_248_246, wn_248_247, wn_248_249, wn_248_250, wn_248_251, wn_249_243, wn_249_244, wn_249_245, wn_249_246, wn_249_247, wn_249_248, wn_249_250, wn_249_251, wn_250_243, wn_250_244, wn_250_245, wn_250_246, wn_250_247, wn_250_248, wn_250_249, wn_250_251, wn_251_243, wn_251_244, wn_251_245, wn_251_246, wn_251_247, wn_251_248, wn_251_249, wn_251_250] at hr68 ⊢
          refine j_goto C dX9_reason_71 ?_
          refine j_iret C hrt dX9_reason_78 ⟨by omega, by omega⟩ ?_
          first
          | exact absurd hc42 hc2
          | exact absurd hc2 hc42
          | (refine ⟨?_, ?_⟩ <;> (simp only [qReason]; (repeat (first | rw [if_pos (by assumption)] | rw [if_neg (by assumption)])); (try rfl)))
        · -- 64 F
          refine j_aload0 C dX9_reason_74 ?_
          refine j_geti C fX9_51 at_243 rfl rfl dX9_reason_75 (fun hr75 => ?_)
          try simp only [wf_same, wn_243_244, wn_243_245, wn_243_246, wn_243_247, wn_243_248, wn_243_249, wn_243_250, wn_243_251, wn_244_243, wn_244_245, wn_244_246, wn_244_247, wn_244_248, wn_244_249, wn_244_250, wn_244_251, wn_245_243, wn_245_244, wn_245_246, wn_245_247, wn_245_248, wn_245_249, wn_245_250, wn_245_251, wn_246_243, wn_246_244, wn_246_245, wn_246_247, wn_246_248, wn_246_249, wn_246_250, wn_246_251, wn_247_243, wn_247_244, wn_247_245, wn_247_246, wn_247_248, wn_247_249, wn_247_250, wn_247_251, wn_248_243, wn_248_244, wn_248_245, wn_248_246, wn_248_247, wn_248_249, wn_248_250, wn_248_251, wn_249_243, wn_249_244, wn_249_245, wn_249_246, wn_249_247, wn_249_248, wn_249_250, wn_249_251, wn_250_243, wn_250_244, wn_250_245, wn_250_246, wn_250_247, wn_250_248, wn_250_249, wn_250_251, wn_251_243, wn_251_244, wn_251_245, wn_251_246, wn_251_247, wn_251_248, wn_251_249, wn_251_250] at hr75 ⊢
          refine j_iret C hrt dX9_reason_78 ⟨by omega, by omega⟩ ?_
          first
          | exact absurd hc42 hc2
          | exact absurd hc2 hc42
          | (refine ⟨?_, ?_⟩ <;> (simp only [qReason]; (repeat (first | rw [if_pos (by assumption)] | rw [if_neg (by assumption)])); (try rfl)))
    · -- 24 F
      refine j_iconst C dX9_reason_27 ?_
      refine j_goto C dX9_reason_28 ?_
      refine j_iconst C dX9_reason_32 ?_
      refine j_cVI2 C (c_X9_isThrown_1 (by exact hw) ⟨by omega, by omega⟩) oX9_isThrown kX9_207 ⟨_, rfl, rfl⟩ at_243 ⟨by decide, by decide⟩ rfl (Nat.le_of_ble_eq_true rfl) ⟨by decide, by decide⟩ dX9_reason_33 ?_
      rintro _ _ hz33 ⟨rfl, rfl⟩
      try simp only [wi_wf, wf_same, wf_wf, tM0, tM1, tM2, tM3, tM4, tM5, tM6, tB0, tB1, tB2, tB3, tB4, tB5, tB6, tL0, tL1, tL2, up_up, wn_243_244, wn_243_245, wn_243_246, wn_243_247, wn_243_248, wn_243_249, wn_243_250, wn_243_251, wn_244_243, wn_244_245, wn_244_246, wn_244_247, wn_244_248, wn_244_249, wn_244_250, wn_244_251, wn_245_243, wn_245_244, wn_245_246, wn_245_247, wn_245_248, wn_245_249, wn_245_250, wn_245_251, wn_246_243, wn_246_244, wn_246_245, wn_246_247, wn_246_248, wn_246_249, wn_246_250, wn_246_251, wn_247_243, wn_247_244, wn_247_245, wn_247_246, wn_247_248, wn_247_249, wn_247_250, wn_247_251, wn_248_243, wn_248_244, wn_248_245, wn_248_246, wn_248_247, wn_248_249, wn_248_250, wn_248_251, wn_249_243, wn_249_244, wn_249_245, wn_249_246, wn_249_247, wn_249_248, wn_249_250, wn_249_251, wn_250_243, wn_250_244, wn_250_245, wn_250_246, wn_250_247, wn_250_248, wn_250_249, wn_250_251, wn_251_243, wn_251_244, wn_251_245, wn_251_246, wn_251_247, wn_251_248, wn_251_249, wn_251_250] at hz33 ⊢
      refine j_if_eq C (by decide) dX9_reason_36 (fun hc => absurd hc (by decide)) (fun _ => ?_)
      refine j_iconst C dX9_reason_39 ?_
      refine j_iret C hrt dX9_reason_40 ⟨by omega, by omega⟩ ?_
      first
      | exact absurd hc42 hc2
      | exact absurd hc2 hc42
      | (refine ⟨?_, ?_⟩ <;> (simp only [qReason]; (repeat (first | rw [if_pos (by assumption)] | rw [if_neg (by assumption)])); (try rfl)))
set_option maxRecDepth 100000 in
set_option maxHeartbeats 4000000 in
theorem c_X9_undo {Γ : Ga} {l : Launch} {ω : Wo} (hw : WM ω.2.1) {M : Int} (hI : RI M (ω.1 244))  {c5 : Nat} (hc5 : ω.1 243 5 = (c5 : Int)) (hc8 : c5 ≤ 8) : CI Γ l yX9_undo cX9_undo 1 .int 1 [.ref (rl Γ 243)] ω (fun z ω' => z = (if c5 = 0 then 0 else (c5 : Int) - 1) ∧ ω' = if c5 = 0 then wf ω 243 (up (ω.1 243) 6 1) else wf (wf ω 243 (up (up (ω.1 243) 6 0) 5 ((c5 : Int) - 1))) 244 (cpy (ω.1 248) (111 * (c5 - 1)) (ω.1 244) 0 111)) := by
  refine Met.ofJ (k := 0) [some (.ref (rl Γ 243))] (by decide) rfl rfl rfl (fun p e s mm args below meth c C hrt => ?_)
  refine j_aload0 C dX9_undo_0 ?_
  refine j_aload0 C dX9_undo_1 ?_
  refine j_geti C fX9_45 at_243 rfl (by first | exact hc5 | rfl) dX9_undo_2 (fun hr2 => ?_)
  try simp only [wf_same, wn_243_244, wn_243_245, wn_243_246, wn_243_247, wn_243_248, wn_243_249, wn_243_250, wn_243_251, wn_244_243, wn_244_245, wn_244_246, wn_244_247, wn_244_248, wn_244_249, wn_244_250, wn_244_251, wn_245_243, wn_245_244, wn_245_246, wn_245_247, wn_245_248, wn_245_249, wn_245_250, wn_245_251, wn_246_243, wn_246_244, wn_246_245, wn_246_247, wn_246_248, wn_246_249, wn_246_250, wn_246_251, wn_247_243, wn_247_244, wn_247_245, wn_247_246, wn_247_248, wn_247_249, wn_247_250, wn_247_251, wn_248_243, wn_248_244, wn_248_245, wn_248_246, wn_248_247, wn_248_249, wn_248_250, wn_248_251, wn_249_243, wn_249_244, wn_249_245, wn_249_246, wn_249_247, wn_249_248, wn_249_250, wn_249_251, wn_250_243, wn_250_244, wn_250_245, wn_250_246, wn_250_247, wn_250_248, wn_250_249, wn_250_251, wn_251_243, wn_251_244, wn_251_245, wn_251_246, wn_251_247, wn_251_248, wn_251_249, wn_251_250] at hr2 ⊢
  try simp only [up_same] at hr2 ⊢
  refine j_if_ne C ⟨by omega, by omega⟩ dX9_undo_5 (fun hcq => ?_) (fun hcq => ?_)
  · -- 5 T
    refine j_iconst C dX9_undo_12 ?_
    refine j_iconst C dX9_undo_13 ?_
    refine j_cVI2 C (c_X9_isThrown_0 (by exact hw) ⟨by omega, by omega⟩) oX9_isThrown kX9_207 ⟨_, rfl, rfl⟩ at_243 ⟨by decide, by decide⟩ rfl (Nat.le_of_ble_eq_true rfl) ⟨by decide, by decide⟩ dX9_undo_14 ?_
    rintro _ _ hz14 ⟨rfl, rfl⟩
    try simp only [wi_wf, wf_same, wf_wf, tM0, tM1, tM2, tM3, tM4, tM5, tM6, tB0, tB1, tB2, tB3, tB4, tB5, tB6, tL0, tL1, tL2, up_up, wn_243_244, wn_243_245, wn_243_246, wn_243_247, wn_243_248, wn_243_249, wn_243_250, wn_243_251, wn_244_243, wn_244_245, wn_244_246, wn_244_247, wn_244_248, wn_244_249, wn_244_250, wn_244_251, wn_245_243, wn_245_244, wn_245_246, wn_245_247, wn_245_248, wn_245_249, wn_245_250, wn_245_251, wn_246_243, wn_246_244, wn_246_245, wn_246_247, wn_246_248, wn_246_249, wn_246_250, wn_246_251, wn_247_243, wn_247_244, wn_247_245, wn_247_246, wn_247_248, wn_247_249, wn_247_250, wn_247_251, wn_248_243, wn_248_244, wn_248_245, wn_248_246, wn_248_247, wn_248_249, wn_248_250, wn_248_251, wn_249_243, wn_249_244, wn_249_245, wn_249_246, wn_249_247, wn_249_248, wn_249_250, wn_249_251, wn_250_243, wn_250_244, wn_250_245, wn_250_246, wn_250_247, wn_250_248, wn_250_249, wn_250_251, wn_251_243, wn_251_244, wn_251_245, wn_251_246, wn_251_247, wn_251_248, wn_251_249, wn_251_250] at hz14 ⊢
    refine j_if_eq C (by decide) dX9_undo_17 (fun _ => ?_) (fun hc => absurd hc (by decide))
    refine j_aload0 C dX9_undo_22 ?_
    refine j_dup C rfl dX9_undo_23 ?_
    refine j_geti C fX9_45 at_243 rfl (by first | exact hc5 | rfl) dX9_undo_24 (fun hr24 => ?_)
    try simp only [wf_same, wn_243_244, wn_243_245, wn_243_246, wn_243_247, wn_243_248, wn_243_249, wn_243_250, wn_243_251, wn_244_243, wn_244_245, wn_244_246, wn_244_247, wn_244_248, wn_244_249, wn_244_250, wn_244_251, wn_245_243, wn_245_244, wn_245_246, wn_245_247, wn_245_248, wn_245_249, wn_245_250, wn_245_251, wn_246_243, wn_246_244, wn_246_245, wn_246_247, wn_246_248, wn_246_249, wn_246_250, wn_246_251, wn_247_243, wn_247_244, wn_247_245, wn_247_246, wn_247_248, wn_247_249, wn_247_250, wn_247_251, wn_248_243, wn_248_244, wn_248_245, wn_248_246, wn_248_247, wn_248_249, wn_248_250, wn_248_251, wn_249_243, wn_249_244, wn_249_245, wn_249_246, wn_249_247, wn_249_248, wn_249_250, wn_249_251, wn_250_243, wn_250_244, wn_250_245, wn_250_246, wn_250_247, wn_250_248, wn_250_249, wn_250_251, wn_251_243, wn_251_244, wn_251_245, wn_251_246, wn_251_247, wn_251_248, wn_251_249, wn_251_250] at hr24 ⊢
    try simp only [up_same] at hr24 ⊢
    refine j_iconst C dX9_undo_27 ?_
    refine j_isub C dX9_undo_28 ?_
    refine j_putI C fX9_45 at_243 rfl ty_7_5 ⟨by omega, by omega⟩ dX9_undo_29 ?_
    try simp only [wi_wf, wf_same, wf_wf, tM0, tM1, tM2, tM3, tM4, tM5, tM6, tB0, tB1, tB2, tB3, tB4, tB5, tB6, tL0, tL1, tL2, up_up, wn_243_244, wn_243_245, wn_243_246, wn_243_247, wn_243_248, wn_243_249, wn_243_250, wn_243_251, wn_244_243, wn_244_245, wn_244_246, wn_244_247, wn_244_248, wn_244_249, wn_244_250, wn_244_251, wn_245_243, wn_245_244, wn_245_246, wn_245_247, wn_245_248, wn_245_249, wn_245_250, wn_245_251, wn_246_243, wn_246_244, wn_246_245, wn_246_247, wn_246_248, wn_246_249, wn_246_250, wn_246_251, wn_247_243, wn_247_244, wn_247_245, wn_247_246, wn_247_248, wn_247_249, wn_247_250, wn_247_251, wn_248_243, wn_248_244, wn_248_245, wn_248_246, wn_248_247, wn_248_249, wn_248_250, wn_248_251, wn_249_243, wn_249_244, wn_249_245, wn_249_246, wn_249_247, wn_249_248, wn_249_250, wn_249_251, wn_250_243, wn_250_244, wn_250_245, wn_250_246, wn_250_247, wn_250_248, wn_250_249, wn_250_251, wn_251_243, wn_251_244, wn_251_245, wn_251_246, wn_251_247, wn_251_248, wn_251_249, wn_251_250]
    refine j_aload0 C dX9_undo_32 ?_
    refine j_getr C fX9_22 at_243 rfl hw.r4 dX9_undo_33 ?_
    refine j_bipush C (by decide) dX9_undo_36 ?_
    refine j_aload0 C dX9_undo_38 ?_
    refine j_geti C fX9_45 at_243 rfl (by first | exact hc5 | rfl) dX9_undo_39 (fun hr39 => ?_)
    try simp only [wf_same, wn_243_244, wn_243_245, wn_243_246, wn_243_247, wn_243_248, wn_243_249, wn_243_250, wn_243_251, wn_244_243, wn_244_245, wn_244_246, wn_244_247, wn_244_248, wn_244_249, wn_244_250, wn_244_251, wn_245_243, wn_245_244, wn_245_246, wn_245_247, wn_245_248, wn_245_249, wn_245_250, wn_245_251, wn_246_243, wn_246_244, wn_246_245, wn_246_247, wn_246_248, wn_246_249, wn_246_250, wn_246_251, wn_247_243, wn_247_244, wn_247_245, wn_247_246, wn_247_248, wn_247_249, wn_247_250, wn_247_251, wn_248_243, wn_248_244, wn_248_245, wn_248_246, wn_248_247, wn_248_249, wn_248_250, wn_248_251, wn_249_243, wn_249_244, wn_249_245, wn_249_246, wn_249_247, wn_249_248, wn_249_250, wn_249_251, wn_250_243, wn_250_244, wn_250_245, wn_250_246, wn_250_247, wn_250_248, wn_250_249, wn_250_251, wn_251_243, wn_251_244, wn_251_245, wn_251_246, wn_251_247, wn_251_248, wn_251_249, wn_251_250] at hr39 ⊢
    try simp only [up_same] at hr39 ⊢
    refine j_imul C dX9_undo_42 ?_
    refine j_aload0 C dX9_undo_43 ?_
    refine j_getr C fX9_9 at_243 rfl hw.r0 dX9_undo_44 ?_
    refine j_iconst C dX9_undo_47 ?_
    refine j_conv (S' := [.int (iI ((0 : Nat) : Int)), .ref (rl Γ 244), .int (iI ((111 * (c5 - 1) : Nat) : Int)), .ref (rl Γ 248)]) rfl (cons_i3 rfl (by omega) _) rfl ?_
    refine j_cSV4 C (c_X9_copies (f := 111 * (c5 - 1)) (g := 0) (n1 := 888) (n2 := 111) at_248 ⟨rfl, rfl⟩ rfl at_244 ⟨rfl, rfl⟩ rfl (by omega) (by omega) (by decide) (Or.inl (by decide))) oX9_copies kX9_41 ⟨by decide, by decide⟩ rfl (Nat.le_of_ble_eq_true rfl) ⟨by decide, by decide⟩ dX9_undo_48 ?_
    rintro _ rfl
    try simp only [wi_wf, wf_same, wf_wf, tM0, tM1, tM2, tM3, tM4, tM5, tM6, tB0, tB1, tB2, tB3, tB4, tB5, tB6, tL0, tL1, tL2, up_up, wn_243_244, wn_243_245, wn_243_246, wn_243_247, wn_243_248, wn_243_249, wn_243_250, wn_243_251, wn_244_243, wn_244_245, wn_244_246, wn_244_247, wn_244_248, wn_244_249, wn_244_250, wn_244_251, wn_245_243, wn_245_244, wn_245_246, wn_245_247, wn_245_248, wn_245_249, wn_245_250, wn_245_251, wn_246_243, wn_246_244, wn_246_245, wn_246_247, wn_246_248, wn_246_249, wn_246_250, wn_246_251, wn_247_243, wn_247_244, wn_247_245, wn_247_246, wn_247_248, wn_247_249, wn_247_250, wn_247_251, wn_248_243, wn_248_244, wn_248_245, wn_248_246, wn_248_247, wn_248_249, wn_248_250, wn_248_251, wn_249_243, wn_249_244, wn_249_245, wn_249_246, wn_249_247, wn_249_248, wn_249_250, wn_249_251, wn_250_243, wn_250_244, wn_250_245, wn_250_246, wn_250_247, wn_250_248, wn_250_249, wn_250_251, wn_251_243, wn_251_244, wn_251_245, wn_251_246, wn_251_247, wn_251_248, wn_251_249, wn_251_250]
    refine j_aload0 C dX9_undo_51 ?_
    refine j_geti C fX9_45 at_243 rfl (by first | exact hc5 | rfl) dX9_undo_52 (fun hr52 => ?_)
    try simp only [wf_same, wn_243_244, wn_243_245, wn_243_246, wn_243_247, wn_243_248, wn_243_249, wn_243_250, wn_243_251, wn_244_243, wn_244_245, wn_244_246, wn_244_247, wn_244_248, wn_244_249, wn_244_250, wn_244_251, wn_245_243, wn_245_244, wn_245_246, wn_245_247, wn_245_248, wn_245_249, wn_245_250, wn_245_251, wn_246_243, wn_246_244, wn_246_245, wn_246_247, wn_246_248, wn_246_249, wn_246_250, wn_246_251, wn_247_243, wn_247_244, wn_247_245, wn_247_246, wn_247_248, wn_247_249, wn_247_250, wn_247_251, wn_248_243, wn_248_244, wn_248_245, wn_248_246, wn_248_247, wn_248_249, wn_248_250, wn_248_251, wn_249_243, wn_249_244, wn_249_245, wn_249_246, wn_249_247, wn_249_248, wn_249_250, wn_249_251, wn_250_243, wn_250_244, wn_250_245, wn_250_246, wn_250_247, wn_250_248, wn_250_249, wn_250_251, wn_251_243, wn_251_244, wn_251_245, wn_251_246, wn_251_247, wn_251_248, wn_251_249, wn_251_250] at hr52 ⊢
    try simp only [up_same] at hr52 ⊢
    refine j_iret C hrt dX9_undo_55 ⟨by omega, by omega⟩ ?_
    first | exact ⟨by rw [if_pos (by omega)], by rw [if_pos (by omega)]⟩ | exact ⟨by rw [if_neg (by omega)] <;> rfl, by rw [if_neg (by omega)]⟩
  · -- 5 F
    refine j_iconst C dX9_undo_8 ?_
    refine j_goto C dX9_undo_9 ?_
    refine j_iconst C dX9_undo_13 ?_
    refine j_cVI2 C (c_X9_isThrown_1 (by exact hw) ⟨by omega, by omega⟩) oX9_isThrown kX9_207 ⟨_, rfl, rfl⟩ at_243 ⟨by decide, by decide⟩ rfl (Nat.le_of_ble_eq_true rfl) ⟨by decide, by decide⟩ dX9_undo_14 ?_
    rintro _ _ hz14 ⟨rfl, rfl⟩
    try simp only [wi_wf, wf_same, wf_wf, tM0, tM1, tM2, tM3, tM4, tM5, tM6, tB0, tB1, tB2, tB3, tB4, tB5, tB6, tL0, tL1, tL2, up_up, wn_243_244, wn_243_245, wn_243_246, wn_243_247, wn_243_248, wn_243_249, wn_243_250, wn_243_251, wn_244_243, wn_244_245, wn_244_246, wn_244_247, wn_244_248, wn_244_249, wn_244_250, wn_244_251, wn_245_243, wn_245_244, wn_245_246, wn_245_247, wn_245_248, wn_245_249, wn_245_250, wn_245_251, wn_246_243, wn_246_244, wn_246_245, wn_246_247, wn_246_248, wn_246_249, wn_246_250, wn_246_251, wn_247_243, wn_247_244, wn_247_245, wn_247_246, wn_247_248, wn_247_249, wn_247_250, wn_247_251, wn_248_243, wn_248_244, wn_248_245, wn_248_246, wn_248_247, wn_248_249, wn_248_250, wn_248_251, wn_249_243, wn_249_244, wn_249_245, wn_249_246, wn_249_247, wn_249_248, wn_249_250, wn_249_251, wn_250_243, wn_250_244, wn_250_245, wn_250_246, wn_250_247, wn_250_248, wn_250_249, wn_250_251, wn_251_243, wn_251_244, wn_251_245, wn_251_246, wn_251_247, wn_251_248, wn_251_249, wn_251_250] at hz14 ⊢
    refine j_if_eq C (by decide) dX9_undo_17 (fun hc => absurd hc (by decide)) (fun _ => ?_)
    refine j_iconst C dX9_undo_20 ?_
    refine j_iret C hrt dX9_undo_21 ⟨by omega, by omega⟩ ?_
    first | exact ⟨by rw [if_pos (by omega)], by rw [if_pos (by omega)]⟩ | exact ⟨by rw [if_neg (by omega)] <;> rfl, by rw [if_neg (by omega)]⟩
set_option maxRecDepth 100000 in
set_option maxHeartbeats 4000000 in
theorem c_X9_save {Γ : Ga} {l : Launch} {ω : Wo} (hw : WM ω.2.1) {M : Int} (hI : RI M (ω.1 244))  (hz7 : ∀ y, 111 ≤ y → ω.1 247 y = 0) : CI Γ l yX9_save cX9_save 1 .int 1 [.ref (rl Γ 243)] ω (fun z ω' => z = (ω.1 244) 0 ∧ ω' = wf (wf ω 247 (ω.1 244)) 243 (up (up (ω.1 243) 6 0) 12 1)) := by
  refine Met.ofJ (k := 0) [some (.ref (rl Γ 243))] (by decide) rfl rfl rfl (fun p e s mm args below meth c C hrt => ?_)
  refine j_aload0 C dX9_save_0 ?_
  refine j_iconst C dX9_save_1 ?_
  refine j_putI C fX9_38 at_243 rfl ty_7_6 ⟨by omega, by omega⟩ dX9_save_2 ?_
  try simp only [wi_wf, wf_same, wf_wf, tM0, tM1, tM2, tM3, tM4, tM5, tM6, tB0, tB1, tB2, tB3, tB4, tB5, tB6, tL0, tL1, tL2, up_up, wn_243_244, wn_243_245, wn_243_246, wn_243_247, wn_243_248, wn_243_249, wn_243_250, wn_243_251, wn_244_243, wn_244_245, wn_244_246, wn_244_247, wn_244_248, wn_244_249, wn_244_250, wn_244_251, wn_245_243, wn_245_244, wn_245_246, wn_245_247, wn_245_248, wn_245_249, wn_245_250, wn_245_251, wn_246_243, wn_246_244, wn_246_245, wn_246_247, wn_246_248, wn_246_249, wn_246_250, wn_246_251, wn_247_243, wn_247_244, wn_247_245, wn_247_246, wn_247_248, wn_247_249, wn_247_250, wn_247_251, wn_248_243, wn_248_244, wn_248_245, wn_248_246, wn_248_247, wn_248_249, wn_248_250, wn_248_251, wn_249_243, wn_249_244, wn_249_245, wn_249_246, wn_249_247, wn_249_248, wn_249_250, wn_249_251, wn_250_243, wn_250_244, wn_250_245, wn_250_246, wn_250_247, wn_250_248, wn_250_249, wn_250_251, wn_251_243, wn_251_244, wn_251_245, wn_251_246, wn_251_247, wn_251_248, wn_251_249, wn_251_250]
  refine j_aload0 C dX9_save_5 ?_
  refine j_getr C fX9_9 at_243 rfl hw.r0 dX9_save_6 ?_
  refine j_iconst C dX9_save_9 ?_
  refine j_aload0 C dX9_save_10 ?_
  refine j_getr C fX9_19 at_243 rfl hw.r3 dX9_save_11 ?_
  refine j_iconst C dX9_save_14 ?_
  refine j_cSV4 C (c_X9_copies (f := 0) (g := 0) (n1 := 111) (n2 := 111) at_244 ⟨rfl, rfl⟩ rfl at_247 ⟨rfl, rfl⟩ rfl (by omega) (by omega) (by decide) (Or.inl (by decide))) oX9_copies kX9_41 ⟨by decide, by decide⟩ rfl (Nat.le_of_ble_eq_true rfl) ⟨by decide, by decide⟩ dX9_save_15 ?_
  rintro _ rfl
  try simp only [wi_wf, wf_same, wf_wf, tM0, tM1, tM2, tM3, tM4, tM5, tM6, tB0, tB1, tB2, tB3, tB4, tB5, tB6, tL0, tL1, tL2, up_up, wn_243_244, wn_243_245, wn_243_246, wn_243_247, wn_243_248, wn_243_249, wn_243_250, wn_243_251, wn_244_243, wn_244_245, wn_244_246, wn_244_247, wn_244_248, wn_244_249, wn_244_250, wn_244_251, wn_245_243, wn_245_244, wn_245_246, wn_245_247, wn_245_248, wn_245_249, wn_245_250, wn_245_251, wn_246_243, wn_246_244, wn_246_245, wn_246_247, wn_246_248, wn_246_249, wn_246_250, wn_246_251, wn_247_243, wn_247_244, wn_247_245, wn_247_246, wn_247_248, wn_247_249, wn_247_250, wn_247_251, wn_248_243, wn_248_244, wn_248_245, wn_248_246, wn_248_247, wn_248_249, wn_248_250, wn_248_251, wn_249_243, wn_249_244, wn_249_245, wn_249_246, wn_249_247, wn_249_248, wn_249_250, wn_249_251, wn_250_243, wn_250_244, wn_250_245, wn_250_246, wn_250_247, wn_250_248, wn_250_249, wn_250_251, wn_251_243, wn_251_244, wn_251_245, wn_251_246, wn_251_247, wn_251_248, wn_251_249, wn_251_250]
  rw [cpy_full hI.z hz7]
  refine j_aload0 C dX9_save_18 ?_
  refine j_iconst C dX9_save_19 ?_
  refine j_putB C fX9_273 at_243 rfl ty_7_12 (Or.inr rfl) dX9_save_20 ?_
  try simp only [wi_wf, wf_same, wf_wf, tM0, tM1, tM2, tM3, tM4, tM5, tM6, tB0, tB1, tB2, tB3, tB4, tB5, tB6, tL0, tL1, tL2, up_up, wn_243_244, wn_243_245, wn_243_246, wn_243_247, wn_243_248, wn_243_249, wn_243_250, wn_243_251, wn_244_243, wn_244_245, wn_244_246, wn_244_247, wn_244_248, wn_244_249, wn_244_250, wn_244_251, wn_245_243, wn_245_244, wn_245_246, wn_245_247, wn_245_248, wn_245_249, wn_245_250, wn_245_251, wn_246_243, wn_246_244, wn_246_245, wn_246_247, wn_246_248, wn_246_249, wn_246_250, wn_246_251, wn_247_243, wn_247_244, wn_247_245, wn_247_246, wn_247_248, wn_247_249, wn_247_250, wn_247_251, wn_248_243, wn_248_244, wn_248_245, wn_248_246, wn_248_247, wn_248_249, wn_248_250, wn_248_251, wn_249_243, wn_249_244, wn_249_245, wn_249_246, wn_249_247, wn_249_248, wn_249_250, wn_249_251, wn_250_243, wn_250_244, wn_250_245, wn_250_246, wn_250_247, wn_250_248, wn_250_249, wn_250_251, wn_251_243, wn_251_244, wn_251_245, wn_251_246, wn_251_247, wn_251_248, wn_251_249, wn_251_250]
  refine j_aload0 C dX9_save_23 ?_
  refine j_getr C fX9_9 at_243 rfl hw.r0 dX9_save_24 ?_
  refine j_iconst C dX9_save_27 ?_
  refine j_ialdK C at_244 ⟨rfl, rfl⟩ (N := 111) rfl (by decide) (k := 0) rfl (by decide) dX9_save_28 (fun hr28 => ?_)
  try simp only [wf_same, wn_243_244, wn_243_245, wn_243_246, wn_243_247, wn_243_248, wn_243_249, wn_243_250, wn_243_251, wn_244_243, wn_244_245, wn_244_246, wn_244_247, wn_244_248, wn_244_249, wn_244_250, wn_244_251, wn_245_243, wn_245_244, wn_245_246, wn_245_247, wn_245_248, wn_245_249, wn_245_250, wn_245_251, wn_246_243, wn_246_244, wn_246_245, wn_246_247, wn_246_248, wn_246_249, wn_246_250, wn_246_251, wn_247_243, wn_247_244, wn_247_245, wn_247_246, wn_247_248, wn_247_249, wn_247_250, wn_247_251, wn_248_243, wn_248_244, wn_248_245, wn_248_246, wn_248_247, wn_248_249, wn_248_250, wn_248_251, wn_249_243, wn_249_244, wn_249_245, wn_249_246, wn_249_247, wn_249_248, wn_249_250, wn_249_251, wn_250_243, wn_250_244, wn_250_245, wn_250_246, wn_250_247, wn_250_248, wn_250_249, wn_250_251, wn_251_243, wn_251_244, wn_251_245, wn_251_246, wn_251_247, wn_251_248, wn_251_249, wn_251_250] at hr28 ⊢
  refine j_iret C hrt dX9_save_29 ⟨by omega, by omega⟩ ?_
  refine ⟨rfl, ?_⟩
  refine wo_ext (fun x => ?_) rfl
  simp only [wf]
  by_cases h1 : x = 243
  · simp [h1]
  · simp [h1]
set_option maxRecDepth 100000 in
set_option maxHeartbeats 4000000 in
theorem c_X9_restore {Γ : Ga} {l : Launch} {ω : Wo} (hw : WM ω.2.1) {M : Int} (hI : RI M (ω.1 244))  (hz7 : ∀ y, 111 ≤ y → ω.1 247 y = 0) : CI Γ l yX9_restore cX9_restore 1 .int 1 [.ref (rl Γ 243)] ω (fun z ω' => z = (if ω.1 243 12 = 0 then 0 else ω.1 247 0) ∧ ω' = if ω.1 243 12 = 0 then wf ω 243 (up (ω.1 243) 6 1) else wf (wf ω 244 (ω.1 247)) 243 (up (up (ω.1 243) 6 0) 5 0)) := by
  refine Met.ofJ (k := 0) [some (.ref (rl Γ 243))] (by decide) rfl rfl rfl (fun p e s mm args below meth c C hrt => ?_)
  refine j_aload0 C dX9_restore_0 ?_
  refine j_aload0 C dX9_restore_1 ?_
  refine j_geti C fX9_273 at_243 rfl rfl dX9_restore_2 (fun hr2 => ?_)
  try simp only [wf_same, wn_243_244, wn_243_245, wn_243_246, wn_243_247, wn_243_248, wn_243_249, wn_243_250, wn_243_251, wn_244_243, wn_244_245, wn_244_246, wn_244_247, wn_244_248, wn_244_249, wn_244_250, wn_244_251, wn_245_243, wn_245_244, wn_245_246, wn_245_247, wn_245_248, wn_245_249, wn_245_250, wn_245_251, wn_246_243, wn_246_244, wn_246_245, wn_246_247, wn_246_248, wn_246_249, wn_246_250, wn_246_251, wn_247_243, wn_247_244, wn_247_245, wn_247_246, wn_247_248, wn_247_249, wn_247_250, wn_247_251, wn_248_243, wn_248_244, wn_248_245, wn_248_246, wn_248_247, wn_248_249, wn_248_250, wn_248_251, wn_249_243, wn_249_244, wn_249_245, wn_249_246, wn_249_247, wn_249_248, wn_249_250, wn_249_251, wn_250_243, wn_250_244, wn_250_245, wn_250_246, wn_250_247, wn_250_248, wn_250_249, wn_250_251, wn_251_243, wn_251_244, wn_251_245, wn_251_246, wn_251_247, wn_251_248, wn_251_249, wn_251_250] at hr2 ⊢
  skip
  refine j_if_ne C ⟨by omega, by omega⟩ dX9_restore_5 (fun hc5 => ?_) (fun hc5 => ?_)
  · -- 5 T
    refine j_iconst C dX9_restore_12 ?_
    refine j_iconst C dX9_restore_13 ?_
    refine j_cVI2 C (c_X9_isThrown_0 (by exact hw) ⟨by omega, by omega⟩) oX9_isThrown kX9_207 ⟨_, rfl, rfl⟩ at_243 ⟨by decide, by decide⟩ rfl (Nat.le_of_ble_eq_true rfl) ⟨by decide, by decide⟩ dX9_restore_14 ?_
    rintro _ _ hz14 ⟨rfl, rfl⟩
    try simp only [wi_wf, wf_same, wf_wf, tM0, tM1, tM2, tM3, tM4, tM5, tM6, tB0, tB1, tB2, tB3, tB4, tB5, tB6, tL0, tL1, tL2, up_up, wn_243_244, wn_243_245, wn_243_246, wn_243_247, wn_243_248, wn_243_249, wn_243_250, wn_243_251, wn_244_243, wn_244_245, wn_244_246, wn_244_247, wn_244_248, wn_244_249, wn_244_250, wn_244_251, wn_245_243, wn_245_244, wn_245_246, wn_245_247, wn_245_248, wn_245_249, wn_245_250, wn_245_251, wn_246_243, wn_246_244, wn_246_245, wn_246_247, wn_246_248, wn_246_249, wn_246_250, wn_246_251, wn_247_243, wn_247_244, wn_247_245, wn_247_246, wn_247_248, wn_247_249, wn_247_250, wn_247_251, wn_248_243, wn_248_244, wn_248_245, wn_248_246, wn_248_247, wn_248_249, wn_248_250, wn_248_251, wn_249_243, wn_249_244, wn_249_245, wn_249_246, wn_249_247, wn_249_248, wn_249_250, wn_249_251, wn_250_243, wn_250_244, wn_250_245, wn_250_246, wn_250_247, wn_250_248, wn_250_249, wn_250_251, wn_251_243, wn_251_244, wn_251_245, wn_251_246, wn_251_247, wn_251_248, wn_251_249, wn_251_250] at hz14 ⊢
    refine j_if_eq C (by decide) dX9_restore_17 (fun _ => ?_) (fun hc => absurd hc (by decide))
    refine j_aload0 C dX9_restore_22 ?_
    refine j_getr C fX9_19 at_243 rfl hw.r3 dX9_restore_23 ?_
    refine j_iconst C dX9_restore_26 ?_
    refine j_aload0 C dX9_restore_27 ?_
    refine j_getr C fX9_9 at_243 rfl hw.r0 dX9_restore_28 ?_
    refine j_iconst C dX9_restore_31 ?_
    refine j_cSV4 C (c_X9_copies (f := 0) (g := 0) (n1 := 111) (n2 := 111) at_247 ⟨rfl, rfl⟩ rfl at_244 ⟨rfl, rfl⟩ rfl (by omega) (by omega) (by decide) (Or.inl (by decide))) oX9_copies kX9_41 ⟨by decide, by decide⟩ rfl (Nat.le_of_ble_eq_true rfl) ⟨by decide, by decide⟩ dX9_restore_32 ?_
    rintro _ rfl
    try simp only [wi_wf, wf_same, wf_wf, tM0, tM1, tM2, tM3, tM4, tM5, tM6, tB0, tB1, tB2, tB3, tB4, tB5, tB6, tL0, tL1, tL2, up_up, wn_243_244, wn_243_245, wn_243_246, wn_243_247, wn_243_248, wn_243_249, wn_243_250, wn_243_251, wn_244_243, wn_244_245, wn_244_246, wn_244_247, wn_244_248, wn_244_249, wn_244_250, wn_244_251, wn_245_243, wn_245_244, wn_245_246, wn_245_247, wn_245_248, wn_245_249, wn_245_250, wn_245_251, wn_246_243, wn_246_244, wn_246_245, wn_246_247, wn_246_248, wn_246_249, wn_246_250, wn_246_251, wn_247_243, wn_247_244, wn_247_245, wn_247_246, wn_247_248, wn_247_249, wn_247_250, wn_247_251, wn_248_243, wn_248_244, wn_248_245, wn_248_246, wn_248_247, wn_248_249, wn_248_250, wn_248_251, wn_249_243, wn_249_244, wn_249_245, wn_249_246, wn_249_247, wn_249_248, wn_249_250, wn_249_251, wn_250_243, wn_250_244, wn_250_245, wn_250_246, wn_250_247, wn_250_248, wn_250_249, wn_250_251, wn_251_243, wn_251_244, wn_251_245, wn_251_246, wn_251_247, wn_251_248, wn_251_249, wn_251_250]
    rw [cpy_full hz7 hI.z]
    refine j_aload0 C dX9_restore_35 ?_
    refine j_iconst C dX9_restore_36 ?_
    refine j_putI C fX9_45 at_243 rfl ty_7_5 ⟨by omega, by omega⟩ dX9_restore_37 ?_
    try simp only [wi_wf, wf_same, wf_wf, tM0, tM1, tM2, tM3, tM4, tM5, tM6, tB0, tB1, tB2, tB3, tB4, tB5, tB6, tL0, tL1, tL2, up_up, wn_243_244, wn_243_245, wn_243_246, wn_243_247, wn_243_248, wn_243_249, wn_243_250, wn_243_251, wn_244_243, wn_244_245, wn_244_246, wn_244_247, wn_244_248, wn_244_249, wn_244_250, wn_244_251, wn_245_243, wn_245_244, wn_245_246, wn_245_247, wn_245_248, wn_245_249, wn_245_250, wn_245_251, wn_246_243, wn_246_244, wn_246_245, wn_246_247, wn_246_248, wn_246_249, wn_246_250, wn_246_251, wn_247_243, wn_247_244, wn_247_245, wn_247_246, wn_247_248, wn_247_249, wn_247_250, wn_247_251, wn_248_243, wn_248_244, wn_248_245, wn_248_246, wn_248_247, wn_248_249, wn_248_250, wn_248_251, wn_249_243, wn_249_244, wn_249_245, wn_249_246, wn_249_247, wn_249_248, wn_249_250, wn_249_251, wn_250_243, wn_250_244, wn_250_245, wn_250_246, wn_250_247, wn_250_248, wn_250_249, wn_250_251, wn_251_243, wn_251_244, wn_251_245, wn_251_246, wn_251_247, wn_251_248, wn_251_249, wn_251_250]
    refine j_aload0 C dX9_restore_40 ?_
    refine j_getr C fX9_9 at_243 rfl hw.r0 dX9_restore_41 ?_
    refine j_iconst C dX9_restore_44 ?_
    refine j_ialdK C at_244 ⟨rfl, rfl⟩ (N := 111) rfl (by decide) (k := 0) rfl (by decide) dX9_restore_45 (fun hr45 => ?_)
    try simp only [wf_same, wn_243_244, wn_243_245, wn_243_246, wn_243_247, wn_243_248, wn_243_249, wn_243_250, wn_243_251, wn_244_243, wn_244_245, wn_244_246, wn_244_247, wn_244_248, wn_244_249, wn_244_250, wn_244_251, wn_245_243, wn_245_244, wn_245_246, wn_245_247, wn_245_248, wn_245_249, wn_245_250, wn_245_251, wn_246_243, wn_246_244, wn_246_245, wn_246_247, wn_246_248, wn_246_249, wn_246_250, wn_246_251, wn_247_243, wn_247_244, wn_247_245, wn_247_246, wn_247_248, wn_247_249, wn_247_250, wn_247_251, wn_248_243, wn_248_244, wn_248_245, wn_248_246, wn_248_247, wn_248_249, wn_248_250, wn_248_251, wn_249_243, wn_249_244, wn_249_245, wn_249_246, wn_249_247, wn_249_248, wn_249_250, wn_249_251, wn_250_243, wn_250_244, wn_250_245, wn_250_246, wn_250_247, wn_250_248, wn_250_249, wn_250_251, wn_251_243, wn_251_244, wn_251_245, wn_251_246, wn_251_247, wn_251_248, wn_251_249, wn_251_250] at hr45 ⊢
    refine j_iret C hrt dX9_restore_46 ⟨by omega, by omega⟩ ?_
    first | exact ⟨by rw [if_pos (by omega)], by rw [if_pos (by omega)]⟩ | (refine ⟨by rw [if_neg (by omega)], ?_⟩; rw [if_neg (by omega)]; refine wo_ext (fun x => ?_) rfl; simp only [wf]; by_cases h1 : x = 243 <;> simp [h1])
  · -- 5 F
    refine j_iconst C dX9_restore_8 ?_
    refine j_goto C dX9_restore_9 ?_
    refine j_iconst C dX9_restore_13 ?_
    refine j_cVI2 C (c_X9_isThrown_1 (by exact hw) ⟨by omega, by omega⟩) oX9_isThrown kX9_207 ⟨_, rfl, rfl⟩ at_243 ⟨by decide, by decide⟩ rfl (Nat.le_of_ble_eq_true rfl) ⟨by decide, by decide⟩ dX9_restore_14 ?_
    rintro _ _ hz14 ⟨rfl, rfl⟩
    try simp only [wi_wf, wf_same, wf_wf, tM0, tM1, tM2, tM3, tM4, tM5, tM6, tB0, tB1, tB2, tB3, tB4, tB5, tB6, tL0, tL1, tL2, up_up, wn_243_244, wn_243_245, wn_243_246, wn_243_247, wn_243_248, wn_243_249, wn_243_250, wn_243_251, wn_244_243, wn_244_245, wn_244_246, wn_244_247, wn_244_248, wn_244_249, wn_244_250, wn_244_251, wn_245_243, wn_245_244, wn_245_246, wn_245_247, wn_245_248, wn_245_249, wn_245_250, wn_245_251, wn_246_243, wn_246_244, wn_246_245, wn_246_247, wn_246_248, wn_246_249, wn_246_250, wn_246_251, wn_247_243, wn_247_244, wn_247_245, wn_247_246, wn_247_248, wn_247_249, wn_247_250, wn_247_251, wn_248_243, wn_248_244, wn_248_245, wn_248_246, wn_248_247, wn_248_249, wn_248_250, wn_248_251, wn_249_243, wn_249_244, wn_249_245, wn_249_246, wn_249_247, wn_249_248, wn_249_250, wn_249_251, wn_250_243, wn_250_244, wn_250_245, wn_250_246, wn_250_247, wn_250_248, wn_250_249, wn_250_251, wn_251_243, wn_251_244, wn_251_245, wn_251_246, wn_251_247, wn_251_248, wn_251_249, wn_251_250] at hz14 ⊢
    refine j_if_eq C (by decide) dX9_restore_17 (fun hc => absurd hc (by decide)) (fun _ => ?_)
    refine j_iconst C dX9_restore_20 ?_
    refine j_iret C hrt dX9_restore_21 ⟨by omega, by omega⟩ ?_
    first | exact ⟨by rw [if_pos (by omega)], by rw [if_pos (by omega)]⟩ | (refine ⟨by rw [if_neg (by omega)], ?_⟩; rw [if_neg (by omega)]; refine wo_ext (fun x => ?_) rfl; simp only [wf]; by_cases h1 : x = 243 <;> simp [h1])
set_option maxRecDepth 100000 in
set_option maxHeartbeats 4000000 in
theorem c_X9_append {Γ : Ga} {l : Launch} {ω : Wo} (hw : WM ω.2.1)  {v : Int} (hv : 0 ≤ v ∧ v < 65536) {n : Nat} (h15 : ω.1 243 15 = (n : Int)) (hn : n ≤ 60) : CI Γ l yX9_append cX9_append 2 .int 1 [.ref (rl Γ 243), .int (iI v)] ω (fun z ω' => z = (if n = 60 then 0 else (n : Int) + 1) ∧ ω' = if n = 60 then wf ω 243 (up (ω.1 243) 6 1) else wf (wf ω 249 (up (ω.1 249) n v)) 243 (up (up (ω.1 243) 6 0) 15 ((n : Int) + 1))) := by
  refine Met.ofJ (k := 0) [some (.ref (rl Γ 243)), some (.int (iI v))] (by decide) rfl rfl rfl (fun p e s mm args below meth c C hrt => ?_)
  refine j_aload0 C dX9_append_0 ?_
  refine j_aload0 C dX9_append_1 ?_
  refine j_geti C fX9_227 at_243 rfl (by first | exact h15 | rfl) dX9_append_2 (fun hr2 => ?_)
  try simp only [wf_same, wn_243_244, wn_243_245, wn_243_246, wn_243_247, wn_243_248, wn_243_249, wn_243_250, wn_243_251, wn_244_243, wn_244_245, wn_244_246, wn_244_247, wn_244_248, wn_244_249, wn_244_250, wn_244_251, wn_245_243, wn_245_244, wn_245_246, wn_245_247, wn_245_248, wn_245_249, wn_245_250, wn_245_251, wn_246_243, wn_246_244, wn_246_245, wn_246_247, wn_246_248, wn_246_249, wn_246_250, wn_246_251, wn_247_243, wn_247_244, wn_247_245, wn_247_246, wn_247_248, wn_247_249, wn_247_250, wn_247_251, wn_248_243, wn_248_244, wn_248_245, wn_248_246, wn_248_247, wn_248_249, wn_248_250, wn_248_251, wn_249_243, wn_249_244, wn_249_245, wn_249_246, wn_249_247, wn_249_248, wn_249_250, wn_249_251, wn_250_243, wn_250_244, wn_250_245, wn_250_246, wn_250_247, wn_250_248, wn_250_249, wn_250_251, wn_251_243, wn_251_244, wn_251_245, wn_251_246, wn_251_247, wn_251_248, wn_251_249, wn_251_250] at hr2 ⊢
  try simp only [up_same] at hr2 ⊢
  refine j_bipush C (by decide) dX9_append_5 ?_
  refine j_icmp_ne C ⟨by omega, by omega⟩ ⟨by omega, by omega⟩ dX9_append_7 (fun hc7 => ?_) (fun hc7 => ?_)
  · -- 7 T
    refine j_iconst C dX9_append_14 ?_
    refine j_iconst C dX9_append_15 ?_
    refine j_cVI2 C (c_X9_isThrown_0 (by exact hw) ⟨by omega, by omega⟩) oX9_isThrown kX9_207 ⟨_, rfl, rfl⟩ at_243 ⟨by decide, by decide⟩ rfl (Nat.le_of_ble_eq_true rfl) ⟨by decide, by decide⟩ dX9_append_16 ?_
    rintro _ _ hz16 ⟨rfl, rfl⟩
    try simp only [wi_wf, wf_same, wf_wf, tM0, tM1, tM2, tM3, tM4, tM5, tM6, tB0, tB1, tB2, tB3, tB4, tB5, tB6, tL0, tL1, tL2, up_up, wn_243_244, wn_243_245, wn_243_246, wn_243_247, wn_243_248, wn_243_249, wn_243_250, wn_243_251, wn_244_243, wn_244_245, wn_244_246, wn_244_247, wn_244_248, wn_244_249, wn_244_250, wn_244_251, wn_245_243, wn_245_244, wn_245_246, wn_245_247, wn_245_248, wn_245_249, wn_245_250, wn_245_251, wn_246_243, wn_246_244, wn_246_245, wn_246_247, wn_246_248, wn_246_249, wn_246_250, wn_246_251, wn_247_243, wn_247_244, wn_247_245, wn_247_246, wn_247_248, wn_247_249, wn_247_250, wn_247_251, wn_248_243, wn_248_244, wn_248_245, wn_248_246, wn_248_247, wn_248_249, wn_248_250, wn_248_251, wn_249_243, wn_249_244, wn_249_245, wn_249_246, wn_249_247, wn_249_248, wn_249_250, wn_249_251, wn_250_243, wn_250_244, wn_250_245, wn_250_246, wn_250_247, wn_250_248, wn_250_249, wn_250_251, wn_251_243, wn_251_244, wn_251_245, wn_251_246, wn_251_247, wn_251_248, wn_251_249, wn_251_250] at hz16 ⊢
    refine j_if_eq C (by decide) dX9_append_19 (fun _ => ?_) (fun hc => absurd hc (by decide))
    refine j_aload0 C dX9_append_24 ?_
    refine j_getr C fX9_29 at_243 rfl hw.r13 dX9_append_25 ?_
    refine j_aload0 C dX9_append_28 ?_
    refine j_geti C fX9_227 at_243 rfl (by first | exact h15 | rfl) dX9_append_29 (fun hr29 => ?_)
    try simp only [wf_same, wn_243_244, wn_243_245, wn_243_246, wn_243_247, wn_243_248, wn_243_249, wn_243_250, wn_243_251, wn_244_243, wn_244_245, wn_244_246, wn_244_247, wn_244_248, wn_244_249, wn_244_250, wn_244_251, wn_245_243, wn_245_244, wn_245_246, wn_245_247, wn_245_248, wn_245_249, wn_245_250, wn_245_251, wn_246_243, wn_246_244, wn_246_245, wn_246_247, wn_246_248, wn_246_249, wn_246_250, wn_246_251, wn_247_243, wn_247_244, wn_247_245, wn_247_246, wn_247_248, wn_247_249, wn_247_250, wn_247_251, wn_248_243, wn_248_244, wn_248_245, wn_248_246, wn_248_247, wn_248_249, wn_248_250, wn_248_251, wn_249_243, wn_249_244, wn_249_245, wn_249_246, wn_249_247, wn_249_248, wn_249_250, wn_249_251, wn_250_243, wn_250_244, wn_250_245, wn_250_246, wn_250_247, wn_250_248, wn_250_249, wn_250_251, wn_251_243, wn_251_244, wn_251_245, wn_251_246, wn_251_247, wn_251_248, wn_251_249, wn_251_250] at hr29 ⊢
    try simp only [up_same] at hr29 ⊢
    refine j_iload1 C dX9_append_32 ?_
    refine j_iast C at_249 ⟨rfl, rfl⟩ (N := 60) rfl (by decide) ⟨by omega, by omega⟩ ⟨by omega, by omega⟩ dX9_append_33 ?_
    try simp only [wi_wf, wf_same, wf_wf, tM0, tM1, tM2, tM3, tM4, tM5, tM6, tB0, tB1, tB2, tB3, tB4, tB5, tB6, tL0, tL1, tL2, up_up, wn_243_244, wn_243_245, wn_243_246, wn_243_247, wn_243_248, wn_243_249, wn_243_250, wn_243_251, wn_244_243, wn_244_245, wn_244_246, wn_244_247, wn_244_248, wn_244_249, wn_244_250, wn_244_251, wn_245_243, wn_245_244, wn_245_246, wn_245_247, wn_245_248, wn_245_249, wn_245_250, wn_245_251, wn_246_243, wn_246_244, wn_246_245, wn_246_247, wn_246_248, wn_246_249, wn_246_250, wn_246_251, wn_247_243, wn_247_244, wn_247_245, wn_247_246, wn_247_248, wn_247_249, wn_247_250, wn_247_251, wn_248_243, wn_248_244, wn_248_245, wn_248_246, wn_248_247, wn_248_249, wn_248_250, wn_248_251, wn_249_243, wn_249_244, wn_249_245, wn_249_246, wn_249_247, wn_249_248, wn_249_250, wn_249_251, wn_250_243, wn_250_244, wn_250_245, wn_250_246, wn_250_247, wn_250_248, wn_250_249, wn_250_251, wn_251_243, wn_251_244, wn_251_245, wn_251_246, wn_251_247, wn_251_248, wn_251_249, wn_251_250]
    refine j_aload0 C dX9_append_34 ?_
    refine j_dup C rfl dX9_append_35 ?_
    refine j_geti C fX9_227 at_243 rfl (by first | exact h15 | rfl) dX9_append_36 (fun hr36 => ?_)
    try simp only [wf_same, wn_243_244, wn_243_245, wn_243_246, wn_243_247, wn_243_248, wn_243_249, wn_243_250, wn_243_251, wn_244_243, wn_244_245, wn_244_246, wn_244_247, wn_244_248, wn_244_249, wn_244_250, wn_244_251, wn_245_243, wn_245_244, wn_245_246, wn_245_247, wn_245_248, wn_245_249, wn_245_250, wn_245_251, wn_246_243, wn_246_244, wn_246_245, wn_246_247, wn_246_248, wn_246_249, wn_246_250, wn_246_251, wn_247_243, wn_247_244, wn_247_245, wn_247_246, wn_247_248, wn_247_249, wn_247_250, wn_247_251, wn_248_243, wn_248_244, wn_248_245, wn_248_246, wn_248_247, wn_248_249, wn_248_250, wn_248_251, wn_249_243, wn_249_244, wn_249_245, wn_249_246, wn_249_247, wn_249_248, wn_249_250, wn_249_251, wn_250_243, wn_250_244, wn_250_245, wn_250_246, wn_250_247, wn_250_248, wn_250_249, wn_250_251, wn_251_243, wn_251_244, wn_251_245, wn_251_246, wn_251_247, wn_251_248, wn_251_249, wn_251_250] at hr36 ⊢
    try simp only [up_same] at hr36 ⊢
    refine j_iconst C dX9_append_39 ?_
    refine j_iadd C dX9_append_40 ?_
    refine j_putI C fX9_227 at_243 rfl ty_7_15 ⟨by omega, by omega⟩ dX9_append_41 ?_
    try simp only [wi_wf, wf_same, wf_wf, tM0, tM1, tM2, tM3, tM4, tM5, tM6, tB0, tB1, tB2, tB3, tB4, tB5, tB6, tL0, tL1, tL2, up_up, wn_243_244, wn_243_245, wn_243_246, wn_243_247, wn_243_248, wn_243_249, wn_243_250, wn_243_251, wn_244_243, wn_244_245, wn_244_246, wn_244_247, wn_244_248, wn_244_249, wn_244_250, wn_244_251, wn_245_243, wn_245_244, wn_245_246, wn_245_247, wn_245_248, wn_245_249, wn_245_250, wn_245_251, wn_246_243, wn_246_244, wn_246_245, wn_246_247, wn_246_248, wn_246_249, wn_246_250, wn_246_251, wn_247_243, wn_247_244, wn_247_245, wn_247_246, wn_247_248, wn_247_249, wn_247_250, wn_247_251, wn_248_243, wn_248_244, wn_248_245, wn_248_246, wn_248_247, wn_248_249, wn_248_250, wn_248_251, wn_249_243, wn_249_244, wn_249_245, wn_249_246, wn_249_247, wn_249_248, wn_249_250, wn_249_251, wn_250_243, wn_250_244, wn_250_245, wn_250_246, wn_250_247, wn_250_248, wn_250_249, wn_250_251, wn_251_243, wn_251_244, wn_251_245, wn_251_246, wn_251_247, wn_251_248, wn_251_249, wn_251_250]
    refine j_aload0 C dX9_append_44 ?_
    refine j_geti C fX9_227 at_243 rfl (by first | exact h15 | rfl) dX9_append_45 (fun hr45 => ?_)
    try simp only [wf_same, wn_243_244, wn_243_245, wn_243_246, wn_243_247, wn_243_248, wn_243_249, wn_243_250, wn_243_251, wn_244_243, wn_244_245, wn_244_246, wn_244_247, wn_244_248, wn_244_249, wn_244_250, wn_244_251, wn_245_243, wn_245_244, wn_245_246, wn_245_247, wn_245_248, wn_245_249, wn_245_250, wn_245_251, wn_246_243, wn_246_244, wn_246_245, wn_246_247, wn_246_248, wn_246_249, wn_246_250, wn_246_251, wn_247_243, wn_247_244, wn_247_245, wn_247_246, wn_247_248, wn_247_249, wn_247_250, wn_247_251, wn_248_243, wn_248_244, wn_248_245, wn_248_246, wn_248_247, wn_248_249, wn_248_250, wn_248_251, wn_249_243, wn_249_244, wn_249_245, wn_249_246, wn_249_247, wn_249_248, wn_249_250, wn_249_251, wn_250_243, wn_250_244, wn_250_245, wn_250_246, wn_250_247, wn_250_248, wn_250_249, wn_250_251, wn_251_243, wn_251_244, wn_251_245, wn_251_246, wn_251_247, wn_251_248, wn_251_249, wn_251_250] at hr45 ⊢
    try simp only [up_same] at hr45 ⊢
    refine j_iret C hrt dX9_append_48 ⟨by omega, by omega⟩ ?_
    first | exact ⟨by rw [if_pos (by omega)], by rw [if_pos (by omega)]⟩ | (refine ⟨by rw [if_neg (by omega)] <;> rfl, ?_⟩; rw [if_neg (by omega)]; refine wo_ext (fun x => ?_) rfl; simp only [wf]; by_cases h1 : x = 243 <;> simp [h1])
  · -- 7 F
    refine j_iconst C dX9_append_10 ?_
    refine j_goto C dX9_append_11 ?_
    refine j_iconst C dX9_append_15 ?_
    refine j_cVI2 C (c_X9_isThrown_1 (by exact hw) ⟨by omega, by omega⟩) oX9_isThrown kX9_207 ⟨_, rfl, rfl⟩ at_243 ⟨by decide, by decide⟩ rfl (Nat.le_of_ble_eq_true rfl) ⟨by decide, by decide⟩ dX9_append_16 ?_
    rintro _ _ hz16 ⟨rfl, rfl⟩
    try simp only [wi_wf, wf_same, wf_wf, tM0, tM1, tM2, tM3, tM4, tM5, tM6, tB0, tB1, tB2, tB3, tB4, tB5, tB6, tL0, tL1, tL2, up_up, wn_243_244, wn_243_245, wn_243_246, wn_243_247, wn_243_248, wn_243_249, wn_243_250, wn_243_251, wn_244_243, wn_244_245, wn_244_246, wn_244_247, wn_244_248, wn_244_249, wn_244_250, wn_244_251, wn_245_243, wn_245_244, wn_245_246, wn_245_247, wn_245_248, wn_245_249, wn_245_250, wn_245_251, wn_246_243, wn_246_244, wn_246_245, wn_246_247, wn_246_248, wn_246_249, wn_246_250, wn_246_251, wn_247_243, wn_247_244, wn_247_245, wn_247_246, wn_247_248, wn_247_249, wn_247_250, wn_247_251, wn_248_243, wn_248_244, wn_248_245, wn_248_246, wn_248_247, wn_248_249, wn_248_250, wn_248_251, wn_249_243, wn_249_244, wn_249_245, wn_249_246, wn_249_247, wn_249_248, wn_249_250, wn_249_251, wn_250_243, wn_250_244, wn_250_245, wn_250_246, wn_250_247, wn_250_248, wn_250_249, wn_250_251, wn_251_243, wn_251_244, wn_251_245, wn_251_246, wn_251_247, wn_251_248, wn_251_249, wn_251_250] at hz16 ⊢
    refine j_if_eq C (by decide) dX9_append_19 (fun hc => absurd hc (by decide)) (fun _ => ?_)
    refine j_iconst C dX9_append_22 ?_
    refine j_iret C hrt dX9_append_23 ⟨by omega, by omega⟩ ?_
    first | exact ⟨by rw [if_pos (by omega)], by rw [if_pos (by omega)]⟩ | (refine ⟨by rw [if_neg (by omega)] <;> rfl, ?_⟩; rw [if_neg (by omega)]; refine wo_ext (fun x => ?_) rfl; simp only [wf]; by_cases h1 : x = 243 <;> simp [h1])
