set_option maxRecDepth 100000 in
set_option maxHeartbeats 4000000 in
theorem c_X9_puts {Γ : Ga} {l : Launch} {ω : Wo} (hw : WM ω.2.1)  {ω0 : Wo} {r o : Row} {ll : List Int} {v : Int} (hω : ω = LWp ω0 r o ll) (hv : Rg v) (hh : hol o ll) (hl : ll.length < 40) : CV Γ l yX9_puts cX9_puts 2 0 [.ref (rl Γ 243), .int (iI v)] ω (fun ω' => ∃ o', hol o' (ll ++ [v]) ∧ ω' = LWp ω0 r o' (ll ++ [v])) := by
  refine Met.ofJ (k := 0) [some (.ref (rl Γ 243)), some (.int (iI v))] (by decide) rfl rfl rfl (fun p e s mm args below meth c C hrt => ?_)
  subst hω
  refine j_aload0 C dX9_puts_0 ?_
  refine j_getr C fX9_35 at_243 rfl hw.r18 dX9_puts_1 ?_
  refine j_aload0 C dX9_puts_4 ?_
  refine j_geti C fX9_264 at_243 rfl (rfl : _ = (ll.length : Int)) dX9_puts_5 (fun hr5 => ?_)
  try simp only [wf_same, wn_243_244, wn_243_245, wn_243_246, wn_243_247, wn_243_248, wn_243_249, wn_243_250, wn_243_251, wn_244_243, wn_244_245, wn_244_246, wn_244_247, wn_244_248, wn_244_249, wn_244_250, wn_244_251, wn_245_243, wn_245_244, wn_245_246, wn_245_247, wn_245_248, wn_245_249, wn_245_250, wn_245_251, wn_246_243, wn_246_244, wn_246_245, wn_246_247, wn_246_248, wn_246_249, wn_246_250, wn_246_251, wn_247_243, wn_247_244, wn_247_245, wn_247_246, wn_247_248, wn_247_249, wn_247_250, wn_247_251, wn_248_243, wn_248_244, wn_248_245, wn_248_246, wn_248_247, wn_248_249, wn_248_250, wn_248_251, wn_249_243, wn_249_244, wn_249_245, wn_249_246, wn_249_247, wn_249_248, wn_249_250, wn_249_251, wn_250_243, wn_250_244, wn_250_245, wn_250_246, wn_250_247, wn_250_248, wn_250_249, wn_250_251, wn_251_243, wn_251_244, wn_251_245, wn_251_246, wn_251_247, wn_251_248, wn_251_249, wn_251_250, NW_r3, NW_r5, NW_r4, NW_r9, up_same, Int.toNat_natCast, EW_4, EW_5, EW_3, EW_0, refM_44, refM_45, refM_43, LW_3, LW_4, LW_1] at hr5 ⊢
  refine j_iload1 C dX9_puts_8 ?_
  refine j_iast C at_251 ⟨rfl, rfl⟩ (N := 40) rfl (by decide) ⟨by omega, by omega⟩ ⟨by omega, by omega⟩ dX9_puts_9 ?_
  try simp only [wi_wf, wf_same, wf_wf, tM0, tM1, tM2, tM3, tM4, tM5, tM6, tB0, tB1, tB2, tB3, tB4, tB5, tB6, tL0, tL1, tL2, up_up, wn_243_244, wn_243_245, wn_243_246, wn_243_247, wn_243_248, wn_243_249, wn_243_250, wn_243_251, wn_244_243, wn_244_245, wn_244_246, wn_244_247, wn_244_248, wn_244_249, wn_244_250, wn_244_251, wn_245_243, wn_245_244, wn_245_246, wn_245_247, wn_245_248, wn_245_249, wn_245_250, wn_245_251, wn_246_243, wn_246_244, wn_246_245, wn_246_247, wn_246_248, wn_246_249, wn_246_250, wn_246_251, wn_247_243, wn_247_244, wn_247_245, wn_247_246, wn_247_248, wn_247_249, wn_247_250, wn_247_251, wn_248_243, wn_248_244, wn_248_245, wn_248_246, wn_248_247, wn_248_249, wn_248_250, wn_248_251, wn_249_243, wn_249_244, wn_249_245, wn_249_246, wn_249_247, wn_249_248, wn_249_250, wn_249_251, wn_250_243, wn_250_244, wn_250_245, wn_250_246, wn_250_247, wn_250_248, wn_250_249, wn_250_251, wn_251_243, wn_251_244, wn_251_245, wn_251_246, wn_251_247, wn_251_248, wn_251_249, wn_251_250, NW_3, NW_5, NW_r3, NW_r5, NW_r4, NW_r9, NW_NW, up_same, Int.toNat_natCast, row_17a, row_17b, row_17c, EW_4, EW_5, EW_3, EW_0, refM_44, refM_45, refM_43, LW_3, LW_4, LW_1]
  refine j_aload0 C dX9_puts_10 ?_
  refine j_dup C rfl dX9_puts_11 ?_
  refine j_geti C fX9_264 at_243 rfl (rfl : _ = (ll.length : Int)) dX9_puts_12 (fun hr12 => ?_)
  try simp only [wf_same, wn_243_244, wn_243_245, wn_243_246, wn_243_247, wn_243_248, wn_243_249, wn_243_250, wn_243_251, wn_244_243, wn_244_245, wn_244_246, wn_244_247, wn_244_248, wn_244_249, wn_244_250, wn_244_251, wn_245_243, wn_245_244, wn_245_246, wn_245_247, wn_245_248, wn_245_249, wn_245_250, wn_245_251, wn_246_243, wn_246_244, wn_246_245, wn_246_247, wn_246_248, wn_246_249, wn_246_250, wn_246_251, wn_247_243, wn_247_244, wn_247_245, wn_247_246, wn_247_248, wn_247_249, wn_247_250, wn_247_251, wn_248_243, wn_248_244, wn_248_245, wn_248_246, wn_248_247, wn_248_249, wn_248_250, wn_248_251, wn_249_243, wn_249_244, wn_249_245, wn_249_246, wn_249_247, wn_249_248, wn_249_250, wn_249_251, wn_250_243, wn_250_244, wn_250_245, wn_250_246, wn_250_247, wn_250_248, wn_250_249, wn_250_251, wn_251_243, wn_251_244, wn_251_245, wn_251_246, wn_251_247, wn_251_248, wn_251_249, wn_251_250, NW_r3, NW_r5, NW_r4, NW_r9, up_same, Int.toNat_natCast, EW_4, EW_5, EW_3, EW_0, refM_44, refM_45, refM_43, LW_3, LW_4, LW_1] at hr12 ⊢
  refine j_iconst C dX9_puts_15 ?_
  refine j_iadd C dX9_puts_16 ?_
  refine j_putI C fX9_264 at_243 rfl ty_7_19 ⟨by omega, by omega⟩ dX9_puts_17 ?_
  try simp only [wi_wf, wf_same, wf_wf, tM0, tM1, tM2, tM3, tM4, tM5, tM6, tB0, tB1, tB2, tB3, tB4, tB5, tB6, tL0, tL1, tL2, up_up, wn_243_244, wn_243_245, wn_243_246, wn_243_247, wn_243_248, wn_243_249, wn_243_250, wn_243_251, wn_244_243, wn_244_245, wn_244_246, wn_244_247, wn_244_248, wn_244_249, wn_244_250, wn_244_251, wn_245_243, wn_245_244, wn_245_246, wn_245_247, wn_245_248, wn_245_249, wn_245_250, wn_245_251, wn_246_243, wn_246_244, wn_246_245, wn_246_247, wn_246_248, wn_246_249, wn_246_250, wn_246_251, wn_247_243, wn_247_244, wn_247_245, wn_247_246, wn_247_248, wn_247_249, wn_247_250, wn_247_251, wn_248_243, wn_248_244, wn_248_245, wn_248_246, wn_248_247, wn_248_249, wn_248_250, wn_248_251, wn_249_243, wn_249_244, wn_249_245, wn_249_246, wn_249_247, wn_249_248, wn_249_250, wn_249_251, wn_250_243, wn_250_244, wn_250_245, wn_250_246, wn_250_247, wn_250_248, wn_250_249, wn_250_251, wn_251_243, wn_251_244, wn_251_245, wn_251_246, wn_251_247, wn_251_248, wn_251_249, wn_251_250, NW_3, NW_5, NW_r3, NW_r5, NW_r4, NW_r9, NW_NW, up_same, Int.toNat_natCast, row_17a, row_17b, row_17c, EW_4, EW_5, EW_3, EW_0, refM_44, refM_45, refM_43, LW_3, LW_4, LW_1]
  refine j_vret C hrt dX9_puts_20 ?_
  obtain ⟨o9, h9, e9⟩ := LW_put (ω := ω0) (r := r) (v := v) hh
  exact ⟨o9, h9, by rw [← e9, up_up]⟩
set_option maxRecDepth 100000 in
set_option maxHeartbeats 4000000 in
theorem c_X9_line {Γ : Ga} {l : Launch} {ω : Wo} (hw : WM ω.2.1) {M : Int} (hI : RI M (ω.1 244))  {b : Int} (hb : Rg b) : CI Γ l yX9_line cX9_line 3 .int 2 [.ref (rl Γ 243), .int (iI b)] ω (fun z ω' => LnP ω b z ω') := by
  refine Met.ofJ (k := 1) [some (.ref (rl Γ 243)), some (.int (iI b)), none] (by decide) rfl rfl rfl (fun p e s mm args below meth c C hrt => ?_)
  have g := hI.s
  have gc := hI.c
  refine j_aload0 C dX9_line_0 ?_
  refine j_aload0 C dX9_line_1 ?_
  refine j_iload1 C dX9_line_2 ?_
  refine j_cVI1 C (c_X9_isBoat (by exact hw) ⟨by omega, by omega⟩ (by exact hI)) oX9_isBoat kX9_155 ⟨_, rfl, rfl⟩ at_243 ⟨by decide, by decide⟩ rfl (Nat.le_of_ble_eq_true rfl) ⟨by decide, by decide⟩ dX9_line_3 ?_
  rintro _ _ hz3 ⟨rfl, rfl⟩
  try simp only [wi_wf, wf_same, wf_wf, tM0, tM1, tM2, tM3, tM4, tM5, tM6, tB0, tB1, tB2, tB3, tB4, tB5, tB6, tL0, tL1, tL2, up_up, wn_243_244, wn_243_245, wn_243_246, wn_243_247, wn_243_248, wn_243_249, wn_243_250, wn_243_251, wn_244_243, wn_244_245, wn_244_246, wn_244_247, wn_244_248, wn_244_249, wn_244_250, wn_244_251, wn_245_243, wn_245_244, wn_245_246, wn_245_247, wn_245_248, wn_245_249, wn_245_250, wn_245_251, wn_246_243, wn_246_244, wn_246_245, wn_246_247, wn_246_248, wn_246_249, wn_246_250, wn_246_251, wn_247_243, wn_247_244, wn_247_245, wn_247_246, wn_247_248, wn_247_249, wn_247_250, wn_247_251, wn_248_243, wn_248_244, wn_248_245, wn_248_246, wn_248_247, wn_248_249, wn_248_250, wn_248_251, wn_249_243, wn_249_244, wn_249_245, wn_249_246, wn_249_247, wn_249_248, wn_249_250, wn_249_251, wn_250_243, wn_250_244, wn_250_245, wn_250_246, wn_250_247, wn_250_248, wn_250_249, wn_250_251, wn_251_243, wn_251_244, wn_251_245, wn_251_246, wn_251_247, wn_251_248, wn_251_249, wn_251_250, NW_3, NW_5, NW_r3, NW_r5, NW_r4, NW_r9, NW_NW, up_same, Int.toNat_natCast, row_17a, row_17b, row_17c, EW_4, EW_5, EW_3, EW_0, refM_44, refM_45, refM_43, LW_3, LW_4, LW_1] at hz3 ⊢
  refine j_ifneb C dX9_line_6 (fun hc6 => ?_) (fun hc6 => ?_)
  · -- 6 T
    refine j_iconst C dX9_line_13 ?_
    refine j_iconst C dX9_line_14 ?_
    refine j_cVI2 C (c_X9_isThrown_0 (by exact hw) ⟨by omega, by omega⟩) oX9_isThrown kX9_207 ⟨_, rfl, rfl⟩ at_243 ⟨by decide, by decide⟩ rfl (Nat.le_of_ble_eq_true rfl) ⟨by decide, by decide⟩ dX9_line_15 ?_
    rintro _ _ hz15 ⟨rfl, rfl⟩
    try simp only [wi_wf, wf_same, wf_wf, tM0, tM1, tM2, tM3, tM4, tM5, tM6, tB0, tB1, tB2, tB3, tB4, tB5, tB6, tL0, tL1, tL2, up_up, wn_243_244, wn_243_245, wn_243_246, wn_243_247, wn_243_248, wn_243_249, wn_243_250, wn_243_251, wn_244_243, wn_244_245, wn_244_246, wn_244_247, wn_244_248, wn_244_249, wn_244_250, wn_244_251, wn_245_243, wn_245_244, wn_245_246, wn_245_247, wn_245_248, wn_245_249, wn_245_250, wn_245_251, wn_246_243, wn_246_244, wn_246_245, wn_246_247, wn_246_248, wn_246_249, wn_246_250, wn_246_251, wn_247_243, wn_247_244, wn_247_245, wn_247_246, wn_247_248, wn_247_249, wn_247_250, wn_247_251, wn_248_243, wn_248_244, wn_248_245, wn_248_246, wn_248_247, wn_248_249, wn_248_250, wn_248_251, wn_249_243, wn_249_244, wn_249_245, wn_249_246, wn_249_247, wn_249_248, wn_249_250, wn_249_251, wn_250_243, wn_250_244, wn_250_245, wn_250_246, wn_250_247, wn_250_248, wn_250_249, wn_250_251, wn_251_243, wn_251_244, wn_251_245, wn_251_246, wn_251_247, wn_251_248, wn_251_249, wn_251_250, NW_3, NW_5, NW_r3, NW_r5, NW_r4, NW_r9, NW_NW, up_same, Int.toNat_natCast, row_17a, row_17b, row_17c, EW_4, EW_5, EW_3, EW_0, refM_44, refM_45, refM_43, LW_3, LW_4, LW_1] at hz15 ⊢
    refine j_if_eq C (by decide) dX9_line_18 (fun _ => ?_) (fun hc => absurd hc (by decide))
    refine j_aload0 C dX9_line_23 ?_
    refine j_iconst C dX9_line_24 ?_
    refine j_putI C fX9_264 at_243 rfl ty_7_19 ⟨by omega, by omega⟩ dX9_line_25 ?_
    try simp only [wi_wf, wf_same, wf_wf, tM0, tM1, tM2, tM3, tM4, tM5, tM6, tB0, tB1, tB2, tB3, tB4, tB5, tB6, tL0, tL1, tL2, up_up, wn_243_244, wn_243_245, wn_243_246, wn_243_247, wn_243_248, wn_243_249, wn_243_250, wn_243_251, wn_244_243, wn_244_245, wn_244_246, wn_244_247, wn_244_248, wn_244_249, wn_244_250, wn_244_251, wn_245_243, wn_245_244, wn_245_246, wn_245_247, wn_245_248, wn_245_249, wn_245_250, wn_245_251, wn_246_243, wn_246_244, wn_246_245, wn_246_247, wn_246_248, wn_246_249, wn_246_250, wn_246_251, wn_247_243, wn_247_244, wn_247_245, wn_247_246, wn_247_248, wn_247_249, wn_247_250, wn_247_251, wn_248_243, wn_248_244, wn_248_245, wn_248_246, wn_248_247, wn_248_249, wn_248_250, wn_248_251, wn_249_243, wn_249_244, wn_249_245, wn_249_246, wn_249_247, wn_249_248, wn_249_250, wn_249_251, wn_250_243, wn_250_244, wn_250_245, wn_250_246, wn_250_247, wn_250_248, wn_250_249, wn_250_251, wn_251_243, wn_251_244, wn_251_245, wn_251_246, wn_251_247, wn_251_248, wn_251_249, wn_251_250, NW_3, NW_5, NW_r3, NW_r5, NW_r4, NW_r9, NW_NW, up_same, Int.toNat_natCast, row_17a, row_17b, row_17c, EW_4, EW_5, EW_3, EW_0, refM_44, refM_45, refM_43, LW_3, LW_4, LW_1]
    refine j_conv rfl rfl (show _ = LWp ω (up (ω.1 243) 6 0) (ω.1 251) [] from ?_) ?_
    · exact (wf_id _ 251).symm
    have ho0 := hol_nil (ω.1 251)
    have gb := hI.b b (by omega)
    refine j_aload0 C dX9_line_28 ?_
    refine j_bipush C (by decide) dX9_line_29 ?_
    refine j_iload1 C dX9_line_31 ?_
    refine j_iadd C dX9_line_32 ?_
    refine j_cVV1 C (c_X9_puts (by exact hw) rfl ⟨by omega, by omega⟩ (by assumption) (by simp)) oX9_puts kX9_267 ⟨_, rfl, rfl⟩ at_243 ⟨by decide, by decide⟩ rfl (Nat.le_of_ble_eq_true rfl) ⟨by decide, by decide⟩ dX9_line_33 ?_
    rintro _ ⟨o33, ho33, rfl⟩
    refine j_aload0 C dX9_line_36 ?_
    refine j_bipush C (by decide) dX9_line_37 ?_
    refine j_cVV1 C (c_X9_puts (by exact hw) rfl ⟨by omega, by omega⟩ (by assumption) (by simp)) oX9_puts kX9_267 ⟨_, rfl, rfl⟩ at_243 ⟨by decide, by decide⟩ rfl (Nat.le_of_ble_eq_true rfl) ⟨by decide, by decide⟩ dX9_line_39 ?_
    rintro _ ⟨o39, ho39, rfl⟩
    refine j_aload0 C dX9_line_42 ?_
    refine j_bipush C (by decide) dX9_line_43 ?_
    refine j_aload0 C dX9_line_45 ?_
    refine j_iload1 C dX9_line_46 ?_
    refine j_iconst C dX9_line_47 ?_
    refine j_cVI2 C (c_X9_ofBoat (by exact hw) (by omega) (by omega)) oX9_ofBoat kX9_72 ⟨_, rfl, rfl⟩ at_243 ⟨by decide, by decide⟩ rfl (Nat.le_of_ble_eq_true rfl) ⟨by decide, by decide⟩ dX9_line_48 ?_
    rintro _ _ hz48 ⟨rfl, rfl⟩
    try simp only [wi_wf, wf_same, wf_wf, tM0, tM1, tM2, tM3, tM4, tM5, tM6, tB0, tB1, tB2, tB3, tB4, tB5, tB6, tL0, tL1, tL2, up_up, wn_243_244, wn_243_245, wn_243_246, wn_243_247, wn_243_248, wn_243_249, wn_243_250, wn_243_251, wn_244_243, wn_244_245, wn_244_246, wn_244_247, wn_244_248, wn_244_249, wn_244_250, wn_244_251, wn_245_243, wn_245_244, wn_245_246, wn_245_247, wn_245_248, wn_245_249, wn_245_250, wn_245_251, wn_246_243, wn_246_244, wn_246_245, wn_246_247, wn_246_248, wn_246_249, wn_246_250, wn_246_251, wn_247_243, wn_247_244, wn_247_245, wn_247_246, wn_247_248, wn_247_249, wn_247_250, wn_247_251, wn_248_243, wn_248_244, wn_248_245, wn_248_246, wn_248_247, wn_248_249, wn_248_250, wn_248_251, wn_249_243, wn_249_244, wn_249_245, wn_249_246, wn_249_247, wn_249_248, wn_249_250, wn_249_251, wn_250_243, wn_250_244, wn_250_245, wn_250_246, wn_250_247, wn_250_248, wn_250_249, wn_250_251, wn_251_243, wn_251_244, wn_251_245, wn_251_246, wn_251_247, wn_251_248, wn_251_249, wn_251_250, NW_3, NW_5, NW_r3, NW_r5, NW_r4, NW_r9, NW_NW, up_same, Int.toNat_natCast, row_17a, row_17b, row_17c, EW_4, EW_5, EW_3, EW_0, refM_44, refM_45, refM_43, LW_3, LW_4, LW_1] at hz48 ⊢
    refine j_iadd C dX9_line_51 ?_
    refine j_cVV1 C (c_X9_puts (by exact hw) rfl ⟨by omega, by omega⟩ (by assumption) (by simp)) oX9_puts kX9_267 ⟨_, rfl, rfl⟩ at_243 ⟨by decide, by decide⟩ rfl (Nat.le_of_ble_eq_true rfl) ⟨by decide, by decide⟩ dX9_line_52 ?_
    rintro _ ⟨o52, ho52, rfl⟩
    refine j_aload0 C dX9_line_55 ?_
    refine j_bipush C (by decide) dX9_line_56 ?_
    refine j_cVV1 C (c_X9_puts (by exact hw) rfl ⟨by omega, by omega⟩ (by assumption) (by simp)) oX9_puts kX9_267 ⟨_, rfl, rfl⟩ at_243 ⟨by decide, by decide⟩ rfl (Nat.le_of_ble_eq_true rfl) ⟨by decide, by decide⟩ dX9_line_58 ?_
    rintro _ ⟨o58, ho58, rfl⟩
    refine j_aload0 C dX9_line_61 ?_
    refine j_bipush C (by decide) dX9_line_62 ?_
    refine j_aload0 C dX9_line_64 ?_
    refine j_iload1 C dX9_line_65 ?_
    refine j_iconst C dX9_line_66 ?_
    refine j_cVI2 C (c_X9_ofBoat (by exact hw) (by omega) (by omega)) oX9_ofBoat kX9_72 ⟨_, rfl, rfl⟩ at_243 ⟨by decide, by decide⟩ rfl (Nat.le_of_ble_eq_true rfl) ⟨by decide, by decide⟩ dX9_line_67 ?_
    rintro _ _ hz67 ⟨rfl, rfl⟩
    try simp only [wi_wf, wf_same, wf_wf, tM0, tM1, tM2, tM3, tM4, tM5, tM6, tB0, tB1, tB2, tB3, tB4, tB5, tB6, tL0, tL1, tL2, up_up, wn_243_244, wn_243_245, wn_243_246, wn_243_247, wn_243_248, wn_243_249, wn_243_250, wn_243_251, wn_244_243, wn_244_245, wn_244_246, wn_244_247, wn_244_248, wn_244_249, wn_244_250, wn_244_251, wn_245_243, wn_245_244, wn_245_246, wn_245_247, wn_245_248, wn_245_249, wn_245_250, wn_245_251, wn_246_243, wn_246_244, wn_246_245, wn_246_247, wn_246_248, wn_246_249, wn_246_250, wn_246_251, wn_247_243, wn_247_244, wn_247_245, wn_247_246, wn_247_248, wn_247_249, wn_247_250, wn_247_251, wn_248_243, wn_248_244, wn_248_245, wn_248_246, wn_248_247, wn_248_249, wn_248_250, wn_248_251, wn_249_243, wn_249_244, wn_249_245, wn_249_246, wn_249_247, wn_249_248, wn_249_250, wn_249_251, wn_250_243, wn_250_244, wn_250_245, wn_250_246, wn_250_247, wn_250_248, wn_250_249, wn_250_251, wn_251_243, wn_251_244, wn_251_245, wn_251_246, wn_251_247, wn_251_248, wn_251_249, wn_251_250, NW_3, NW_5, NW_r3, NW_r5, NW_r4, NW_r9, NW_NW, up_same, Int.toNat_natCast, row_17a, row_17b, row_17c, EW_4, EW_5, EW_3, EW_0, refM_44, refM_45, refM_43, LW_3, LW_4, LW_1] at hz67 ⊢
    refine j_iadd C dX9_line_70 ?_
    refine j_cVV1 C (c_X9_puts (by exact hw) rfl ⟨by omega, by omega⟩ (by assumption) (by simp)) oX9_puts kX9_267 ⟨_, rfl, rfl⟩ at_243 ⟨by decide, by decide⟩ rfl (Nat.le_of_ble_eq_true rfl) ⟨by decide, by decide⟩ dX9_line_71 ?_
    rintro _ ⟨o71, ho71, rfl⟩
    refine j_aload0 C dX9_line_74 ?_
    refine j_iload1 C dX9_line_75 ?_
    refine j_iconst C dX9_line_76 ?_
    refine j_cVI2 C (c_X9_ofBoat (by exact hw) (by omega) (by omega)) oX9_ofBoat kX9_72 ⟨_, rfl, rfl⟩ at_243 ⟨by decide, by decide⟩ rfl (Nat.le_of_ble_eq_true rfl) ⟨by decide, by decide⟩ dX9_line_77 ?_
    rintro _ _ hz77 ⟨rfl, rfl⟩
    try simp only [wi_wf, wf_same, wf_wf, tM0, tM1, tM2, tM3, tM4, tM5, tM6, tB0, tB1, tB2, tB3, tB4, tB5, tB6, tL0, tL1, tL2, up_up, wn_243_244, wn_243_245, wn_243_246, wn_243_247, wn_243_248, wn_243_249, wn_243_250, wn_243_251, wn_244_243, wn_244_245, wn_244_246, wn_244_247, wn_244_248, wn_244_249, wn_244_250, wn_244_251, wn_245_243, wn_245_244, wn_245_246, wn_245_247, wn_245_248, wn_245_249, wn_245_250, wn_245_251, wn_246_243, wn_246_244, wn_246_245, wn_246_247, wn_246_248, wn_246_249, wn_246_250, wn_246_251, wn_247_243, wn_247_244, wn_247_245, wn_247_246, wn_247_248, wn_247_249, wn_247_250, wn_247_251, wn_248_243, wn_248_244, wn_248_245, wn_248_246, wn_248_247, wn_248_249, wn_248_250, wn_248_251, wn_249_243, wn_249_244, wn_249_245, wn_249_246, wn_249_247, wn_249_248, wn_249_250, wn_249_251, wn_250_243, wn_250_244, wn_250_245, wn_250_246, wn_250_247, wn_250_248, wn_250_249, wn_250_251, wn_251_243, wn_251_244, wn_251_245, wn_251_246, wn_251_247, wn_251_248, wn_251_249, wn_251_250, NW_3, NW_5, NW_r3, NW_r5, NW_r4, NW_r9, NW_NW, up_same, Int.toNat_natCast, row_17a, row_17b, row_17c, EW_4, EW_5, EW_3, EW_0, refM_44, refM_45, refM_43, LW_3, LW_4, LW_1] at hz77 ⊢
    refine j_iconst C dX9_line_80 ?_
    refine j_icmp_ne C ⟨by omega, by omega⟩ ⟨by omega, by omega⟩ dX9_line_81 (fun hc81 => ?_) (fun hc81 => ?_)
    · -- 81 T
      refine j_aload0 C dX9_line_164 ?_
      refine j_geti C fX9_264 at_243 rfl rfl dX9_line_165 (fun hr165 => ?_)
      try simp only [wf_same, wn_243_244, wn_243_245, wn_243_246, wn_243_247, wn_243_248, wn_243_249, wn_243_250, wn_243_251, wn_244_243, wn_244_245, wn_244_246, wn_244_247, wn_244_248, wn_244_249, wn_244_250, wn_244_251, wn_245_243, wn_245_244, wn_245_246, wn_245_247, wn_245_248, wn_245_249, wn_245_250, wn_245_251, wn_246_243, wn_246_244, wn_246_245, wn_246_247, wn_246_248, wn_246_249, wn_246_250, wn_246_251, wn_247_243, wn_247_244, wn_247_245, wn_247_246, wn_247_248, wn_247_249, wn_247_250, wn_247_251, wn_248_243, wn_248_244, wn_248_245, wn_248_246, wn_248_247, wn_248_249, wn_248_250, wn_248_251, wn_249_243, wn_249_244, wn_249_245, wn_249_246, wn_249_247, wn_249_248, wn_249_250, wn_249_251, wn_250_243, wn_250_244, wn_250_245, wn_250_246, wn_250_247, wn_250_248, wn_250_249, wn_250_251, wn_251_243, wn_251_244, wn_251_245, wn_251_246, wn_251_247, wn_251_248, wn_251_249, wn_251_250, NW_r3, NW_r5, NW_r4, NW_r9, up_same, Int.toNat_natCast, EW_4, EW_5, EW_3, EW_0, refM_44, refM_45, refM_43, LW_3, LW_4, LW_1] at hr165 ⊢
      refine j_iret C hrt dX9_line_168 (by assumption) ?_
      first | exact LnP.fin (by omega) (lineL_out (by omega)) (by assumption) | exact LnP.fin (by omega) (lineL_in (by omega)) (by assumption)
    · -- 81 F
      refine j_aload0 C dX9_line_84 ?_
      refine j_bipush C (by decide) dX9_line_85 ?_
      refine j_cVV1 C (c_X9_puts (by exact hw) rfl ⟨by omega, by omega⟩ (by assumption) (by simp)) oX9_puts kX9_267 ⟨_, rfl, rfl⟩ at_243 ⟨by decide, by decide⟩ rfl (Nat.le_of_ble_eq_true rfl) ⟨by decide, by decide⟩ dX9_line_87 ?_
      rintro _ ⟨o87, ho87, rfl⟩
      refine j_iconst C dX9_line_90 ?_
      refine j_istore2 C rfl dX9_line_91 ?_
      have loop92 : ∀ (N : Nat) (k : Nat) (o : Row), (cM (ω.1 244) - k) < N → (k ≤ cM (ω.1 244)) → (hol o (preL (ω.1 244) b ++ crewL (ω.1 244) b k)) → J Γ p l e (rmk 2 0 0) s mm args below meth c (MQ below (QI Γ (fun z ω' => LnP ω b z ω')) args s 0 0 (gA Γ)) 254 0 0 92 [some (.ref (rl Γ 243)), some (.int (iI b)), some (.int (iI ((k : Nat) : Int)))] [] (LWp ω (up (ω.1 243) 6 0) o (preL (ω.1 244) b ++ crewL (ω.1 244) b k)) := by
        intro N
        induction N with
        | zero => intro k o hN; exact absurd hN (Nat.not_lt_zero _)
        | succ N ih92 =>
          intro k o hN hi0 hi1
          have hkw := crewO_lt hI b
          refine j_iload2 C dX9_line_92 ?_
          refine j_aload0 C dX9_line_93 ?_
          refine j_getr C fX9_9 at_243 rfl hw.r0 dX9_line_94 ?_
          refine j_iconst C dX9_line_97 ?_
          refine j_ialdK C at_244 ⟨rfl, rfl⟩ (N := 111) rfl (by decide) (k := 1) rfl (by decide) dX9_line_98 (fun hr98 => ?_)
          try simp only [wf_same, wn_243_244, wn_243_245, wn_243_246, wn_243_247, wn_243_248, wn_243_249, wn_243_250, wn_243_251, wn_244_243, wn_244_245, wn_244_246, wn_244_247, wn_244_248, wn_244_249, wn_244_250, wn_244_251, wn_245_243, wn_245_244, wn_245_246, wn_245_247, wn_245_248, wn_245_249, wn_245_250, wn_245_251, wn_246_243, wn_246_244, wn_246_245, wn_246_247, wn_246_248, wn_246_249, wn_246_250, wn_246_251, wn_247_243, wn_247_244, wn_247_245, wn_247_246, wn_247_248, wn_247_249, wn_247_250, wn_247_251, wn_248_243, wn_248_244, wn_248_245, wn_248_246, wn_248_247, wn_248_249, wn_248_250, wn_248_251, wn_249_243, wn_249_244, wn_249_245, wn_249_246, wn_249_247, wn_249_248, wn_249_250, wn_249_251, wn_250_243, wn_250_244, wn_250_245, wn_250_246, wn_250_247, wn_250_248, wn_250_249, wn_250_251, wn_251_243, wn_251_244, wn_251_245, wn_251_246, wn_251_247, wn_251_248, wn_251_249, wn_251_250, NW_r3, NW_r5, NW_r4, NW_r9, up_same, Int.toNat_natCast, EW_4, EW_5, EW_3, EW_0, refM_44, refM_45, refM_43, LW_3, LW_4, LW_1] at hr98 ⊢
          refine j_icmp_ge C ⟨by omega, by omega⟩ ⟨by omega, by omega⟩ dX9_line_99 (fun hc99 => ?_) (fun hc99 => ?_)
          · -- 99 T
            have hk9 : k = cM (ω.1 244) := by omega
            subst hk9
            refine j_aload0 C dX9_line_145 ?_
            refine j_bipush C (by decide) dX9_line_146 ?_
            refine j_cVV1 C (c_X9_puts (by exact hw) rfl ⟨by omega, by omega⟩ (by assumption) ((by have := preL_len (ω.1 244) b (cM (ω.1 244)); simp only [List.length_append, List.length_cons, List.length_nil] at *; omega))) oX9_puts kX9_267 ⟨_, rfl, rfl⟩ at_243 ⟨by decide, by decide⟩ rfl (Nat.le_of_ble_eq_true rfl) ⟨by decide, by decide⟩ dX9_line_148 ?_
            rintro _ ⟨o148, ho148, rfl⟩
            refine j_aload0 C dX9_line_151 ?_
            refine j_bipush C (by decide) dX9_line_152 ?_
            refine j_aload0 C dX9_line_154 ?_
            refine j_iload1 C dX9_line_155 ?_
            refine j_iconst C dX9_line_156 ?_
            refine j_cVI2 C (c_X9_ofBoat (by exact hw) (by omega) (by omega)) oX9_ofBoat kX9_72 ⟨_, rfl, rfl⟩ at_243 ⟨by decide, by decide⟩ rfl (Nat.le_of_ble_eq_true rfl) ⟨by decide, by decide⟩ dX9_line_157 ?_
            rintro _ _ hz157 ⟨rfl, rfl⟩
            try simp only [wi_wf, wf_same, wf_wf, tM0, tM1, tM2, tM3, tM4, tM5, tM6, tB0, tB1, tB2, tB3, tB4, tB5, tB6, tL0, tL1, tL2, up_up, wn_243_244, wn_243_245, wn_243_246, wn_243_247, wn_243_248, wn_243_249, wn_243_250, wn_243_251, wn_244_243, wn_244_245, wn_244_246, wn_244_247, wn_244_248, wn_244_249, wn_244_250, wn_244_251, wn_245_243, wn_245_244, wn_245_246, wn_245_247, wn_245_248, wn_245_249, wn_245_250, wn_245_251, wn_246_243, wn_246_244, wn_246_245, wn_246_247, wn_246_248, wn_246_249, wn_246_250, wn_246_251, wn_247_243, wn_247_244, wn_247_245, wn_247_246, wn_247_248, wn_247_249, wn_247_250, wn_247_251, wn_248_243, wn_248_244, wn_248_245, wn_248_246, wn_248_247, wn_248_249, wn_248_250, wn_248_251, wn_249_243, wn_249_244, wn_249_245, wn_249_246, wn_249_247, wn_249_248, wn_249_250, wn_249_251, wn_250_243, wn_250_244, wn_250_245, wn_250_246, wn_250_247, wn_250_248, wn_250_249, wn_250_251, wn_251_243, wn_251_244, wn_251_245, wn_251_246, wn_251_247, wn_251_248, wn_251_249, wn_251_250, NW_3, NW_5, NW_r3, NW_r5, NW_r4, NW_r9, NW_NW, up_same, Int.toNat_natCast, row_17a, row_17b, row_17c, EW_4, EW_5, EW_3, EW_0, refM_44, refM_45, refM_43, LW_3, LW_4, LW_1] at hz157 ⊢
            refine j_iadd C dX9_line_160 ?_
            refine j_cVV1 C (c_X9_puts (by exact hw) rfl ⟨by omega, by omega⟩ (by assumption) ((by have := preL_len (ω.1 244) b (cM (ω.1 244)); simp only [List.length_append, List.length_cons, List.length_nil] at *; omega))) oX9_puts kX9_267 ⟨_, rfl, rfl⟩ at_243 ⟨by decide, by decide⟩ rfl (Nat.le_of_ble_eq_true rfl) ⟨by decide, by decide⟩ dX9_line_161 ?_
            rintro _ ⟨o161, ho161, rfl⟩
            refine j_aload0 C dX9_line_164 ?_
            refine j_geti C fX9_264 at_243 rfl rfl dX9_line_165 (fun hr165 => ?_)
            try simp only [wf_same, wn_243_244, wn_243_245, wn_243_246, wn_243_247, wn_243_248, wn_243_249, wn_243_250, wn_243_251, wn_244_243, wn_244_245, wn_244_246, wn_244_247, wn_244_248, wn_244_249, wn_244_250, wn_244_251, wn_245_243, wn_245_244, wn_245_246, wn_245_247, wn_245_248, wn_245_249, wn_245_250, wn_245_251, wn_246_243, wn_246_244, wn_246_245, wn_246_247, wn_246_248, wn_246_249, wn_246_250, wn_246_251, wn_247_243, wn_247_244, wn_247_245, wn_247_246, wn_247_248, wn_247_249, wn_247_250, wn_247_251, wn_248_243, wn_248_244, wn_248_245, wn_248_246, wn_248_247, wn_248_249, wn_248_250, wn_248_251, wn_249_243, wn_249_244, wn_249_245, wn_249_246, wn_249_247, wn_249_248, wn_249_250, wn_249_251, wn_250_243, wn_250_244, wn_250_245, wn_250_246, wn_250_247, wn_250_248, wn_250_249, wn_250_251, wn_251_243, wn_251_244, wn_251_245, wn_251_246, wn_251_247, wn_251_248, wn_251_249, wn_251_250, NW_r3, NW_r5, NW_r4, NW_r9, up_same, Int.toNat_natCast, EW_4, EW_5, EW_3, EW_0, refM_44, refM_45, refM_43, LW_3, LW_4, LW_1] at hr165 ⊢
            refine j_iret C hrt dX9_line_168 (by assumption) ?_
            first | exact LnP.fin (by omega) (lineL_out (by omega)) (by assumption) | exact LnP.fin (by omega) (lineL_in (by omega)) (by assumption)
          · -- 99 F
            refine j_aload0 C dX9_line_102 ?_
            refine j_iload1 C dX9_line_103 ?_
            refine j_cVI1 C (c_X9_crewOf (by exact hw) hb (by exact hI)) oX9_crewOf kX9_211 ⟨_, rfl, rfl⟩ at_243 ⟨by decide, by decide⟩ rfl (Nat.le_of_ble_eq_true rfl) ⟨by decide, by decide⟩ dX9_line_104 ?_
            rintro _ _ hz104 ⟨rfl, rfl⟩
            try simp only [wi_wf, wf_same, wf_wf, tM0, tM1, tM2, tM3, tM4, tM5, tM6, tB0, tB1, tB2, tB3, tB4, tB5, tB6, tL0, tL1, tL2, up_up, wn_243_244, wn_243_245, wn_243_246, wn_243_247, wn_243_248, wn_243_249, wn_243_250, wn_243_251, wn_244_243, wn_244_245, wn_244_246, wn_244_247, wn_244_248, wn_244_249, wn_244_250, wn_244_251, wn_245_243, wn_245_244, wn_245_246, wn_245_247, wn_245_248, wn_245_249, wn_245_250, wn_245_251, wn_246_243, wn_246_244, wn_246_245, wn_246_247, wn_246_248, wn_246_249, wn_246_250, wn_246_251, wn_247_243, wn_247_244, wn_247_245, wn_247_246, wn_247_248, wn_247_249, wn_247_250, wn_247_251, wn_248_243, wn_248_244, wn_248_245, wn_248_246, wn_248_247, wn_248_249, wn_248_250, wn_248_251, wn_249_243, wn_249_244, wn_249_245, wn_249_246, wn_249_247, wn_249_248, wn_249_250, wn_249_251, wn_250_243, wn_250_244, wn_250_245, wn_250_246, wn_250_247, wn_250_248, wn_250_249, wn_250_251, wn_251_243, wn_251_244, wn_251_245, wn_251_246, wn_251_247, wn_251_248, wn_251_249, wn_251_250, NW_3, NW_5, NW_r3, NW_r5, NW_r4, NW_r9, NW_NW, up_same, Int.toNat_natCast, row_17a, row_17b, row_17c, EW_4, EW_5, EW_3, EW_0, refM_44, refM_45, refM_43, LW_3, LW_4, LW_1] at hz104 ⊢
            refine j_iload2 C dX9_line_107 ?_
            refine j_ishr C (by omega) (by omega) dX9_line_108 ?_
            refine j_iconstN C (k := 1) rfl dX9_line_109 ?_
            refine j_iand1 C dX9_line_110 ?_
            refine j_iconst C dX9_line_111 ?_
            refine j_icmp_ne C ⟨by omega, by omega⟩ ⟨by omega, by omega⟩ dX9_line_112 (fun hc112 => ?_) (fun hc112 => ?_)
            · -- 112 T
              refine j_iinc2n C rfl dX9_line_139 ?_
              refine j_goto C dX9_line_142 ?_
              first | exact j_fg (ih92 (k + 1) o136 (by omega) (by omega) (by rw [← crewL_2 (by omega) hc130, ← List.append_assoc, ← List.append_assoc]; exact ho136)) ⟨Or.inr rfl, Or.inr rfl, Or.inr rfl, trivial⟩ (by rw [← crewL_2 (by omega) hc130, ← List.append_assoc, ← List.append_assoc]) | exact j_fg (ih92 (k + 1) o120 (by omega) (by omega) (by rw [← crewL_1 (by omega) hc130, ← List.append_assoc]; exact ho120)) ⟨Or.inr rfl, Or.inr rfl, Or.inr rfl, trivial⟩ (by rw [← crewL_1 (by omega) hc130, ← List.append_assoc]) | exact j_fg (ih92 (k + 1) o (by omega) (by omega) (by rw [← crewL_0 (by omega)]; exact hi1)) ⟨Or.inr rfl, Or.inr rfl, Or.inr rfl, trivial⟩ (by rw [← crewL_0 (by omega)])
            · -- 112 F
              refine j_aload0 C dX9_line_115 ?_
              refine j_bipush C (by decide) dX9_line_116 ?_
              refine j_iload2 C dX9_line_118 ?_
              refine j_iadd C dX9_line_119 ?_
              refine j_cVV1 C (c_X9_puts (by exact hw) rfl ⟨by omega, by omega⟩ (by assumption) ((by have := preL_len (ω.1 244) b k; simp only [List.length_append, List.length_cons, List.length_nil] at *; omega))) oX9_puts kX9_267 ⟨_, rfl, rfl⟩ at_243 ⟨by decide, by decide⟩ rfl (Nat.le_of_ble_eq_true rfl) ⟨by decide, by decide⟩ dX9_line_120 ?_
              rintro _ ⟨o120, ho120, rfl⟩
              refine j_aload0 C dX9_line_123 ?_
              refine j_iload1 C dX9_line_124 ?_
              refine j_iconst C dX9_line_125 ?_
              refine j_cVI2 C (c_X9_ofBoat (by exact hw) (by omega) (by omega)) oX9_ofBoat kX9_72 ⟨_, rfl, rfl⟩ at_243 ⟨by decide, by decide⟩ rfl (Nat.le_of_ble_eq_true rfl) ⟨by decide, by decide⟩ dX9_line_126 ?_
              rintro _ _ hz126 ⟨rfl, rfl⟩
              try simp only [wi_wf, wf_same, wf_wf, tM0, tM1, tM2, tM3, tM4, tM5, tM6, tB0, tB1, tB2, tB3, tB4, tB5, tB6, tL0, tL1, tL2, up_up, wn_243_244, wn_243_245, wn_243_246, wn_243_247, wn_243_248, wn_243_249, wn_243_250, wn_243_251, wn_244_243, wn_244_245, wn_244_246, wn_244_247, wn_244_248, wn_244_249, wn_244_250, wn_244_251, wn_245_243, wn_245_244, wn_245_246, wn_245_247, wn_245_248, wn_245_249, wn_245_250, wn_245_251, wn_246_243, wn_246_244, wn_246_245, wn_246_247, wn_246_248, wn_246_249, wn_246_250, wn_246_251, wn_247_243, wn_247_244, wn_247_245, wn_247_246, wn_247_248, wn_247_249, wn_247_250, wn_247_251, wn_248_243, wn_248_244, wn_248_245, wn_248_246, wn_248_247, wn_248_249, wn_248_250, wn_248_251, wn_249_243, wn_249_244, wn_249_245, wn_249_246, wn_249_247, wn_249_248, wn_249_250, wn_249_251, wn_250_243, wn_250_244, wn_250_245, wn_250_246, wn_250_247, wn_250_248, wn_250_249, wn_250_251, wn_251_243, wn_251_244, wn_251_245, wn_251_246, wn_251_247, wn_251_248, wn_251_249, wn_251_250, NW_3, NW_5, NW_r3, NW_r5, NW_r4, NW_r9, NW_NW, up_same, Int.toNat_natCast, row_17a, row_17b, row_17c, EW_4, EW_5, EW_3, EW_0, refM_44, refM_45, refM_43, LW_3, LW_4, LW_1] at hz126 ⊢
              refine j_iload2 C dX9_line_129 ?_
              refine j_icmp_ne C ⟨by omega, by omega⟩ ⟨by omega, by omega⟩ dX9_line_130 (fun hc130 => ?_) (fun hc130 => ?_)
              · -- 130 T
                refine j_iinc2n C rfl dX9_line_139 ?_
                refine j_goto C dX9_line_142 ?_
                first | exact j_fg (ih92 (k + 1) o136 (by omega) (by omega) (by rw [← crewL_2 (by omega) hc130, ← List.append_assoc, ← List.append_assoc]; exact ho136)) ⟨Or.inr rfl, Or.inr rfl, Or.inr rfl, trivial⟩ (by rw [← crewL_2 (by omega) hc130, ← List.append_assoc, ← List.append_assoc]) | exact j_fg (ih92 (k + 1) o120 (by omega) (by omega) (by rw [← crewL_1 (by omega) hc130, ← List.append_assoc]; exact ho120)) ⟨Or.inr rfl, Or.inr rfl, Or.inr rfl, trivial⟩ (by rw [← crewL_1 (by omega) hc130, ← List.append_assoc]) | exact j_fg (ih92 (k + 1) o (by omega) (by omega) (by rw [← crewL_0 (by omega)]; exact hi1)) ⟨Or.inr rfl, Or.inr rfl, Or.inr rfl, trivial⟩ (by rw [← crewL_0 (by omega)])
              · -- 130 F
                refine j_aload0 C dX9_line_133 ?_
                refine j_bipush C (by decide) dX9_line_134 ?_
                refine j_cVV1 C (c_X9_puts (by exact hw) rfl ⟨by omega, by omega⟩ (by assumption) ((by have := preL_len (ω.1 244) b k; simp only [List.length_append, List.length_cons, List.length_nil] at *; omega))) oX9_puts kX9_267 ⟨_, rfl, rfl⟩ at_243 ⟨by decide, by decide⟩ rfl (Nat.le_of_ble_eq_true rfl) ⟨by decide, by decide⟩ dX9_line_136 ?_
                rintro _ ⟨o136, ho136, rfl⟩
                refine j_iinc2n C rfl dX9_line_139 ?_
                refine j_goto C dX9_line_142 ?_
                first | exact j_fg (ih92 (k + 1) o136 (by omega) (by omega) (by rw [← crewL_2 (by omega) hc130, ← List.append_assoc, ← List.append_assoc]; exact ho136)) ⟨Or.inr rfl, Or.inr rfl, Or.inr rfl, trivial⟩ (by rw [← crewL_2 (by omega) hc130, ← List.append_assoc, ← List.append_assoc]) | exact j_fg (ih92 (k + 1) o120 (by omega) (by omega) (by rw [← crewL_1 (by omega) hc130, ← List.append_assoc]; exact ho120)) ⟨Or.inr rfl, Or.inr rfl, Or.inr rfl, trivial⟩ (by rw [← crewL_1 (by omega) hc130, ← List.append_assoc]) | exact j_fg (ih92 (k + 1) o (by omega) (by omega) (by rw [← crewL_0 (by omega)]; exact hi1)) ⟨Or.inr rfl, Or.inr rfl, Or.inr rfl, trivial⟩ (by rw [← crewL_0 (by omega)])
      exact j_fg (loop92 _ 0 o87 (Nat.lt_succ_self _) (Nat.zero_le _) ho87) ⟨Or.inr rfl, Or.inr rfl, Or.inr rfl, trivial⟩ rfl
  · -- 6 F
    refine j_iconst C dX9_line_9 ?_
    refine j_goto C dX9_line_10 ?_
    refine j_iconst C dX9_line_14 ?_
    refine j_cVI2 C (c_X9_isThrown_1 (by exact hw) ⟨by omega, by omega⟩) oX9_isThrown kX9_207 ⟨_, rfl, rfl⟩ at_243 ⟨by decide, by decide⟩ rfl (Nat.le_of_ble_eq_true rfl) ⟨by decide, by decide⟩ dX9_line_15 ?_
    rintro _ _ hz15 ⟨rfl, rfl⟩
    try simp only [wi_wf, wf_same, wf_wf, tM0, tM1, tM2, tM3, tM4, tM5, tM6, tB0, tB1, tB2, tB3, tB4, tB5, tB6, tL0, tL1, tL2, up_up, wn_243_244, wn_243_245, wn_243_246, wn_243_247, wn_243_248, wn_243_249, wn_243_250, wn_243_251, wn_244_243, wn_244_245, wn_244_246, wn_244_247, wn_244_248, wn_244_249, wn_244_250, wn_244_251, wn_245_243, wn_245_244, wn_245_246, wn_245_247, wn_245_248, wn_245_249, wn_245_250, wn_245_251, wn_246_243, wn_246_244, wn_246_245, wn_246_247, wn_246_248, wn_246_249, wn_246_250, wn_246_251, wn_247_243, wn_247_244, wn_247_245, wn_247_246, wn_247_248, wn_247_249, wn_247_250, wn_247_251, wn_248_243, wn_248_244, wn_248_245, wn_248_246, wn_248_247, wn_248_249, wn_248_250, wn_248_251, wn_249_243, wn_249_244, wn_249_245, wn_249_246, wn_249_247, wn_249_248, wn_249_250, wn_249_251, wn_250_243, wn_250_244, wn_250_245, wn_250_246, wn_250_247, wn_250_248, wn_250_249, wn_250_251, wn_251_243, wn_251_244, wn_251_245, wn_251_246, wn_251_247, wn_251_248, wn_251_249, wn_251_250, NW_3, NW_5, NW_r3, NW_r5, NW_r4, NW_r9, NW_NW, up_same, Int.toNat_natCast, row_17a, row_17b, row_17c, EW_4, EW_5, EW_3, EW_0, refM_44, refM_45, refM_43, LW_3, LW_4, LW_1] at hz15 ⊢
    refine j_if_eq C (by decide) dX9_line_18 (fun hc => absurd hc (by decide)) (fun _ => ?_)
    refine j_iconst C dX9_line_21 ?_
    refine j_iret C hrt dX9_line_22 ⟨by omega, by omega⟩ ?_
    exact Or.inl ⟨by omega, rfl, rfl⟩
set_option maxRecDepth 100000 in
set_option maxHeartbeats 4000000 in
theorem c_X9_character {Γ : Ga} {l : Launch} {ω : Wo} (hw : WM ω.2.1)  {a : Int} (ha : Rg a) {c19 : Nat} (h19 : ω.1 243 19 = (c19 : Int)) (hc19 : c19 ≤ 40) (hr : ∀ y, y < c19 → 0 ≤ ω.1 251 y ∧ ω.1 251 y < 65536) : CI Γ l yX9_character cX9_character 2 .char 1 [.ref (rl Γ 243), .int (iI a)] ω (fun z ω' => z = (if 0 ≤ a ∧ a ≤ (c19 : Int) - 1 then ω.1 251 a.toNat else 0) ∧ ω' = wf ω 243 (up (ω.1 243) 6 (if 0 ≤ a ∧ a ≤ (c19 : Int) - 1 then 0 else 1))) := by
  refine Met.ofJ (k := 0) [some (.ref (rl Γ 243)), some (.int (iI a))] (by decide) rfl rfl rfl (fun p e s mm args below meth c C hrt => ?_)
  refine j_aload0 C dX9_character_0 ?_
  refine j_iload1 C dX9_character_1 ?_
  refine j_iconst C dX9_character_2 ?_
  refine j_aload0 C dX9_character_3 ?_
  refine j_geti C fX9_264 at_243 rfl h19 dX9_character_4 (fun hr4 => ?_)
  try simp only [wf_same, wn_243_244, wn_243_245, wn_243_246, wn_243_247, wn_243_248, wn_243_249, wn_243_250, wn_243_251, wn_244_243, wn_244_245, wn_244_246, wn_244_247, wn_244_248, wn_244_249, wn_244_250, wn_244_251, wn_245_243, wn_245_244, wn_245_246, wn_245_247, wn_245_248, wn_245_249, wn_245_250, wn_245_251, wn_246_243, wn_246_244, wn_246_245, wn_246_247, wn_246_248, wn_246_249, wn_246_250, wn_246_251, wn_247_243, wn_247_244, wn_247_245, wn_247_246, wn_247_248, wn_247_249, wn_247_250, wn_247_251, wn_248_243, wn_248_244, wn_248_245, wn_248_246, wn_248_247, wn_248_249, wn_248_250, wn_248_251, wn_249_243, wn_249_244, wn_249_245, wn_249_246, wn_249_247, wn_249_248, wn_249_250, wn_249_251, wn_250_243, wn_250_244, wn_250_245, wn_250_246, wn_250_247, wn_250_248, wn_250_249, wn_250_251, wn_251_243, wn_251_244, wn_251_245, wn_251_246, wn_251_247, wn_251_248, wn_251_249, wn_251_250, NW_r3, NW_r5, NW_r4, NW_r9, up_same, Int.toNat_natCast, EW_4, EW_5, EW_3, EW_0, refM_44, refM_45, refM_43, LW_3, LW_4, LW_1] at hr4 ⊢
  refine j_iconst C dX9_character_7 ?_
  refine j_isub C dX9_character_8 ?_
  refine j_cSI3 C (c_X9_isIn ⟨by omega, by omega⟩ ⟨by omega, by omega⟩ ⟨by omega, by omega⟩) oX9_isIn kX9_60 ⟨by decide, by decide⟩ rfl (Nat.le_of_ble_eq_true rfl) ⟨by decide, by decide⟩ dX9_character_9 ?_
  rintro _ _ hz9 ⟨rfl, rfl⟩
  try simp only [wi_wf, wf_same, wf_wf, tM0, tM1, tM2, tM3, tM4, tM5, tM6, tB0, tB1, tB2, tB3, tB4, tB5, tB6, tL0, tL1, tL2, up_up, wn_243_244, wn_243_245, wn_243_246, wn_243_247, wn_243_248, wn_243_249, wn_243_250, wn_243_251, wn_244_243, wn_244_245, wn_244_246, wn_244_247, wn_244_248, wn_244_249, wn_244_250, wn_244_251, wn_245_243, wn_245_244, wn_245_246, wn_245_247, wn_245_248, wn_245_249, wn_245_250, wn_245_251, wn_246_243, wn_246_244, wn_246_245, wn_246_247, wn_246_248, wn_246_249, wn_246_250, wn_246_251, wn_247_243, wn_247_244, wn_247_245, wn_247_246, wn_247_248, wn_247_249, wn_247_250, wn_247_251, wn_248_243, wn_248_244, wn_248_245, wn_248_246, wn_248_247, wn_248_249, wn_248_250, wn_248_251, wn_249_243, wn_249_244, wn_249_245, wn_249_246, wn_249_247, wn_249_248, wn_249_250, wn_249_251, wn_250_243, wn_250_244, wn_250_245, wn_250_246, wn_250_247, wn_250_248, wn_250_249, wn_250_251, wn_251_243, wn_251_244, wn_251_245, wn_251_246, wn_251_247, wn_251_248, wn_251_249, wn_251_250, NW_3, NW_5, NW_r3, NW_r5, NW_r4, NW_r9, NW_NW, up_same, Int.toNat_natCast, row_17a, row_17b, row_17c, EW_4, EW_5, EW_3, EW_0, refM_44, refM_45, refM_43, LW_3, LW_4, LW_1] at hz9 ⊢
  refine j_ifneb C dX9_character_12 (fun hc12 => ?_) (fun hc12 => ?_)
  · -- 12 T
    refine j_iconst C dX9_character_19 ?_
    refine j_iconst C dX9_character_20 ?_
    refine j_cVI2 C (c_X9_isThrown_0 (by exact hw) ⟨by omega, by omega⟩) oX9_isThrown kX9_207 ⟨_, rfl, rfl⟩ at_243 ⟨by decide, by decide⟩ rfl (Nat.le_of_ble_eq_true rfl) ⟨by decide, by decide⟩ dX9_character_21 ?_
    rintro _ _ hz21 ⟨rfl, rfl⟩
    try simp only [wi_wf, wf_same, wf_wf, tM0, tM1, tM2, tM3, tM4, tM5, tM6, tB0, tB1, tB2, tB3, tB4, tB5, tB6, tL0, tL1, tL2, up_up, wn_243_244, wn_243_245, wn_243_246, wn_243_247, wn_243_248, wn_243_249, wn_243_250, wn_243_251, wn_244_243, wn_244_245, wn_244_246, wn_244_247, wn_244_248, wn_244_249, wn_244_250, wn_244_251, wn_245_243, wn_245_244, wn_245_246, wn_245_247, wn_245_248, wn_245_249, wn_245_250, wn_245_251, wn_246_243, wn_246_244, wn_246_245, wn_246_247, wn_246_248, wn_246_249, wn_246_250, wn_246_251, wn_247_243, wn_247_244, wn_247_245, wn_247_246, wn_247_248, wn_247_249, wn_247_250, wn_247_251, wn_248_243, wn_248_244, wn_248_245, wn_248_246, wn_248_247, wn_248_249, wn_248_250, wn_248_251, wn_249_243, wn_249_244, wn_249_245, wn_249_246, wn_249_247, wn_249_248, wn_249_250, wn_249_251, wn_250_243, wn_250_244, wn_250_245, wn_250_246, wn_250_247, wn_250_248, wn_250_249, wn_250_251, wn_251_243, wn_251_244, wn_251_245, wn_251_246, wn_251_247, wn_251_248, wn_251_249, wn_251_250, NW_3, NW_5, NW_r3, NW_r5, NW_r4, NW_r9, NW_NW, up_same, Int.toNat_natCast, row_17a, row_17b, row_17c, EW_4, EW_5, EW_3, EW_0, refM_44, refM_45, refM_43, LW_3, LW_4, LW_1] at hz21 ⊢
    refine j_if_eq C (by decide) dX9_character_24 (fun _ => ?_) (fun hc => absurd hc (by decide))
    refine j_aload0 C dX9_character_31 ?_
    refine j_getr C fX9_35 at_243 rfl hw.r18 dX9_character_32 ?_
    refine j_iload1 C dX9_character_35 ?_
    refine j_iald C at_251 ⟨rfl, rfl⟩ (N := 40) rfl (by decide) ⟨by omega, by omega⟩ rfl dX9_character_36 (fun hr36 => ?_)
    try simp only [wf_same, wn_243_244, wn_243_245, wn_243_246, wn_243_247, wn_243_248, wn_243_249, wn_243_250, wn_243_251, wn_244_243, wn_244_245, wn_244_246, wn_244_247, wn_244_248, wn_244_249, wn_244_250, wn_244_251, wn_245_243, wn_245_244, wn_245_246, wn_245_247, wn_245_248, wn_245_249, wn_245_250, wn_245_251, wn_246_243, wn_246_244, wn_246_245, wn_246_247, wn_246_248, wn_246_249, wn_246_250, wn_246_251, wn_247_243, wn_247_244, wn_247_245, wn_247_246, wn_247_248, wn_247_249, wn_247_250, wn_247_251, wn_248_243, wn_248_244, wn_248_245, wn_248_246, wn_248_247, wn_248_249, wn_248_250, wn_248_251, wn_249_243, wn_249_244, wn_249_245, wn_249_246, wn_249_247, wn_249_248, wn_249_250, wn_249_251, wn_250_243, wn_250_244, wn_250_245, wn_250_246, wn_250_247, wn_250_248, wn_250_249, wn_250_251, wn_251_243, wn_251_244, wn_251_245, wn_251_246, wn_251_247, wn_251_248, wn_251_249, wn_251_250, NW_r3, NW_r5, NW_r4, NW_r9, up_same, Int.toNat_natCast, EW_4, EW_5, EW_3, EW_0, refM_44, refM_45, refM_43, LW_3, LW_4, LW_1] at hr36 ⊢
    refine j_i2c C dX9_character_37 ?_
    have hr9 := hr a.toNat (by omega)
    rw [Int.emod_eq_of_lt hr9.1 hr9.2]
    refine j_cret C hrt dX9_character_38 (by first | exact hr9 | decide) ?_
    first | exact ⟨by rw [if_pos (by omega)], by rw [if_pos (by omega)]⟩ | exact ⟨by rw [if_neg (by omega)], by rw [if_neg (by omega)]⟩
  · -- 12 F
    refine j_iconst C dX9_character_15 ?_
    refine j_goto C dX9_character_16 ?_
    refine j_iconst C dX9_character_20 ?_
    refine j_cVI2 C (c_X9_isThrown_1 (by exact hw) ⟨by omega, by omega⟩) oX9_isThrown kX9_207 ⟨_, rfl, rfl⟩ at_243 ⟨by decide, by decide⟩ rfl (Nat.le_of_ble_eq_true rfl) ⟨by decide, by decide⟩ dX9_character_21 ?_
    rintro _ _ hz21 ⟨rfl, rfl⟩
    try simp only [wi_wf, wf_same, wf_wf, tM0, tM1, tM2, tM3, tM4, tM5, tM6, tB0, tB1, tB2, tB3, tB4, tB5, tB6, tL0, tL1, tL2, up_up, wn_243_244, wn_243_245, wn_243_246, wn_243_247, wn_243_248, wn_243_249, wn_243_250, wn_243_251, wn_244_243, wn_244_245, wn_244_246, wn_244_247, wn_244_248, wn_244_249, wn_244_250, wn_244_251, wn_245_243, wn_245_244, wn_245_246, wn_245_247, wn_245_248, wn_245_249, wn_245_250, wn_245_251, wn_246_243, wn_246_244, wn_246_245, wn_246_247, wn_246_248, wn_246_249, wn_246_250, wn_246_251, wn_247_243, wn_247_244, wn_247_245, wn_247_246, wn_247_248, wn_247_249, wn_247_250, wn_247_251, wn_248_243, wn_248_244, wn_248_245, wn_248_246, wn_248_247, wn_248_249, wn_248_250, wn_248_251, wn_249_243, wn_249_244, wn_249_245, wn_249_246, wn_249_247, wn_249_248, wn_249_250, wn_249_251, wn_250_243, wn_250_244, wn_250_245, wn_250_246, wn_250_247, wn_250_248, wn_250_249, wn_250_251, wn_251_243, wn_251_244, wn_251_245, wn_251_246, wn_251_247, wn_251_248, wn_251_249, wn_251_250, NW_3, NW_5, NW_r3, NW_r5, NW_r4, NW_r9, NW_NW, up_same, Int.toNat_natCast, row_17a, row_17b, row_17c, EW_4, EW_5, EW_3, EW_0, refM_44, refM_45, refM_43, LW_3, LW_4, LW_1] at hz21 ⊢
    refine j_if_eq C (by decide) dX9_character_24 (fun hc => absurd hc (by decide)) (fun _ => ?_)
    refine j_iconst C dX9_character_27 ?_
    refine j_goto C dX9_character_28 ?_
    refine j_cret C hrt dX9_character_38 (by first | exact hr9 | decide) ?_
    first | exact ⟨by rw [if_pos (by omega)], by rw [if_pos (by omega)]⟩ | exact ⟨by rw [if_neg (by omega)], by rw [if_neg (by omega)]⟩
