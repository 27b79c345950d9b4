set_option maxRecDepth 100000 in
set_option maxHeartbeats 4000000 in
theorem c_X9_meanWeariness {Γ : Ga} {l : Launch} {ω : Wo} (hw : WM ω.2.1) {M : Int} (hI : RI M (ω.1 244))   : CD Γ l yX9_meanWeariness cX9_meanWeariness 3 .double 2 [.ref (rl Γ 243)] ω (fun z ω' => ω' = wf ω 243 (up (ω.1 243) 6 (if stayN (ω.1 244) = 0 then 1 else 0)) ∧ (stayN (ω.1 244) ≠ 0 → z = meanV (wyUp (ω.1 244) (cM (ω.1 244))) (stayN (ω.1 244)))) := by
  refine Met.ofJ (k := 2) [some (.ref (rl Γ 243)), none, none] (by decide) rfl rfl rfl (fun p e s mm args below meth c C hrt => ?_)
  have g := hI.s
  have gc := hI.c
  have gst := stayUp_rg (ω.1 244) (cM (ω.1 244))
  have gsn : stayN (ω.1 244) = stayUp (ω.1 244) (cM (ω.1 244)) := rfl
  refine j_iconst C dX9_meanWeariness_0 ?_
  refine j_istore1 C rfl dX9_meanWeariness_1 ?_
  refine j_iconst C dX9_meanWeariness_2 ?_
  refine j_istore2 C rfl dX9_meanWeariness_3 ?_
  have loop4 : ∀ (N : Nat) (k : Nat), (cM (ω.1 244) - k) < N → (k ≤ cM (ω.1 244)) → J Γ p l e (rmk 2 0 0) s mm args below meth c (MQ below (QD Γ (fun z ω' => ω' = wf ω 243 (up (ω.1 243) 6 (if stayN (ω.1 244) = 0 then 1 else 0)) ∧ (stayN (ω.1 244) ≠ 0 → z = meanV (wyUp (ω.1 244) (cM (ω.1 244))) (stayN (ω.1 244))))) args s 0 0 (gA Γ)) 254 0 0 4 [some (.ref (rl Γ 243)), some (.int (iI (wyUp (ω.1 244) k))), some (.int (iI ((k : Nat) : Int)))] [] ω := by
    intro N
    induction N with
    | zero => intro k hN; exact absurd hN (Nat.not_lt_zero _)
    | succ N ih4 =>
      intro k hN hi0
      have gl := hI.m k
      have go := fun h => wyUp_rg hI k h
      have gM := hI.2.1
      refine j_iload2 C dX9_meanWeariness_4 ?_
      refine j_aload0 C dX9_meanWeariness_5 ?_
      refine j_getr C fX9_9 at_243 rfl hw.r0 dX9_meanWeariness_6 ?_
      refine j_iconst C dX9_meanWeariness_9 ?_
      refine j_ialdK C at_244 ⟨rfl, rfl⟩ (N := 111) rfl (by decide) (k := 1) rfl (by decide) dX9_meanWeariness_10 (fun hr10 => ?_)
      try simp only [wf_same, wn_243_244, wn_243_245, wn_243_246, wn_243_247, wn_243_248, wn_243_249, wn_243_250, wn_243_251, wn_244_243, wn_244_245, wn_244_246, wn_244_247, wn_244_248, wn_244_249, wn_244_250, wn_244_251, wn_245_243, wn_245_244, wn_245_246, wn_245_247, wn_245_248, wn_245_249, wn_245_250, wn_245_251, wn_246_243, wn_246_244, wn_246_245, wn_246_247, wn_246_248, wn_246_249, wn_246_250, wn_246_251, wn_247_243, wn_247_244, wn_247_245, wn_247_246, wn_247_248, wn_247_249, wn_247_250, wn_247_251, wn_248_243, wn_248_244, wn_248_245, wn_248_246, wn_248_247, wn_248_249, wn_248_250, wn_248_251, wn_249_243, wn_249_244, wn_249_245, wn_249_246, wn_249_247, wn_249_248, wn_249_250, wn_249_251, wn_250_243, wn_250_244, wn_250_245, wn_250_246, wn_250_247, wn_250_248, wn_250_249, wn_250_251, wn_251_243, wn_251_244, wn_251_245, wn_251_246, wn_251_247, wn_251_248, wn_251_249, wn_251_250, NW_r3, NW_r5, NW_r4, NW_r9, up_same, Int.toNat_natCast, EW_4, EW_5, EW_3, EW_0, refM_44, refM_45, refM_43, LW_3, LW_4, LW_1] at hr10 ⊢
      refine j_icmp_ge C ⟨by omega, by omega⟩ ⟨by omega, by omega⟩ dX9_meanWeariness_11 (fun hc11 => ?_) (fun hc11 => ?_)
      · -- 11 T
        have hk9 : k = cM (ω.1 244) := by omega
        subst hk9
        refine j_aload0 C dX9_meanWeariness_43 ?_
        refine j_aload0 C dX9_meanWeariness_44 ?_
        refine j_cVI0 C (c_X9_remaining (by exact hw) (by exact hI)) oX9_remaining kX9_113 ⟨_, rfl, rfl⟩ at_243 ⟨by decide, by decide⟩ rfl (Nat.le_of_ble_eq_true rfl) ⟨by decide, by decide⟩ dX9_meanWeariness_45 ?_
        rintro _ _ hz45 ⟨rfl, rfl⟩
        try simp only [wi_wf, wf_same, wf_wf, tM0, tM1, tM2, tM3, tM4, tM5, tM6, tB0, tB1, tB2, tB3, tB4, tB5, tB6, tL0, tL1, tL2, up_up, wn_243_244, wn_243_245, wn_243_246, wn_243_247, wn_243_248, wn_243_249, wn_243_250, wn_243_251, wn_244_243, wn_244_245, wn_244_246, wn_244_247, wn_244_248, wn_244_249, wn_244_250, wn_244_251, wn_245_243, wn_245_244, wn_245_246, wn_245_247, wn_245_248, wn_245_249, wn_245_250, wn_245_251, wn_246_243, wn_246_244, wn_246_245, wn_246_247, wn_246_248, wn_246_249, wn_246_250, wn_246_251, wn_247_243, wn_247_244, wn_247_245, wn_247_246, wn_247_248, wn_247_249, wn_247_250, wn_247_251, wn_248_243, wn_248_244, wn_248_245, wn_248_246, wn_248_247, wn_248_249, wn_248_250, wn_248_251, wn_249_243, wn_249_244, wn_249_245, wn_249_246, wn_249_247, wn_249_248, wn_249_250, wn_249_251, wn_250_243, wn_250_244, wn_250_245, wn_250_246, wn_250_247, wn_250_248, wn_250_249, wn_250_251, wn_251_243, wn_251_244, wn_251_245, wn_251_246, wn_251_247, wn_251_248, wn_251_249, wn_251_250, NW_3, NW_5, NW_r3, NW_r5, NW_r4, NW_r9, NW_NW, up_same, Int.toNat_natCast, row_17a, row_17b, row_17c, EW_4, EW_5, EW_3, EW_0, refM_44, refM_45, refM_43, LW_3, LW_4, LW_1] at hz45 ⊢
        refine j_if_ne C ⟨by omega, by omega⟩ dX9_meanWeariness_48 (fun hc48 => ?_) (fun hc48 => ?_)
        · -- 48 T
          refine j_iconst C dX9_meanWeariness_55 ?_
          refine j_iconst C dX9_meanWeariness_56 ?_
          refine j_cVI2 C (c_X9_isThrown_0 (by exact hw) ⟨by omega, by omega⟩) oX9_isThrown kX9_207 ⟨_, rfl, rfl⟩ at_243 ⟨by decide, by decide⟩ rfl (Nat.le_of_ble_eq_true rfl) ⟨by decide, by decide⟩ dX9_meanWeariness_57 ?_
          rintro _ _ hz57 ⟨rfl, rfl⟩
          try simp only [wi_wf, wf_same, wf_wf, tM0, tM1, tM2, tM3, tM4, tM5, tM6, tB0, tB1, tB2, tB3, tB4, tB5, tB6, tL0, tL1, tL2, up_up, wn_243_244, wn_243_245, wn_243_246, wn_243_247, wn_243_248, wn_243_249, wn_243_250, wn_243_251, wn_244_243, wn_244_245, wn_244_246, wn_244_247, wn_244_248, wn_244_249, wn_244_250, wn_244_251, wn_245_243, wn_245_244, wn_245_246, wn_245_247, wn_245_248, wn_245_249, wn_245_250, wn_245_251, wn_246_243, wn_246_244, wn_246_245, wn_246_247, wn_246_248, wn_246_249, wn_246_250, wn_246_251, wn_247_243, wn_247_244, wn_247_245, wn_247_246, wn_247_248, wn_247_249, wn_247_250, wn_247_251, wn_248_243, wn_248_244, wn_248_245, wn_248_246, wn_248_247, wn_248_249, wn_248_250, wn_248_251, wn_249_243, wn_249_244, wn_249_245, wn_249_246, wn_249_247, wn_249_248, wn_249_250, wn_249_251, wn_250_243, wn_250_244, wn_250_245, wn_250_246, wn_250_247, wn_250_248, wn_250_249, wn_250_251, wn_251_243, wn_251_244, wn_251_245, wn_251_246, wn_251_247, wn_251_248, wn_251_249, wn_251_250, NW_3, NW_5, NW_r3, NW_r5, NW_r4, NW_r9, NW_NW, up_same, Int.toNat_natCast, row_17a, row_17b, row_17c, EW_4, EW_5, EW_3, EW_0, refM_44, refM_45, refM_43, LW_3, LW_4, LW_1] at hz57 ⊢
          refine j_if_eq C (by decide) dX9_meanWeariness_60 (fun _ => ?_) (fun hc => absurd hc (by decide))
          refine j_iload1 C dX9_meanWeariness_67 ?_
          refine j_i2d C dX9_meanWeariness_68 ?_
          refine j_aload0 C dX9_meanWeariness_69 ?_
          refine j_cVI0 C (c_X9_remaining (by exact hw) (by exact hI)) oX9_remaining kX9_113 ⟨_, rfl, rfl⟩ at_243 ⟨by decide, by decide⟩ rfl (Nat.le_of_ble_eq_true rfl) ⟨by decide, by decide⟩ dX9_meanWeariness_70 ?_
          rintro _ _ hz70 ⟨rfl, rfl⟩
          try simp only [wi_wf, wf_same, wf_wf, tM0, tM1, tM2, tM3, tM4, tM5, tM6, tB0, tB1, tB2, tB3, tB4, tB5, tB6, tL0, tL1, tL2, up_up, wn_243_244, wn_243_245, wn_243_246, wn_243_247, wn_243_248, wn_243_249, wn_243_250, wn_243_251, wn_244_243, wn_244_245, wn_244_246, wn_244_247, wn_244_248, wn_244_249, wn_244_250, wn_244_251, wn_245_243, wn_245_244, wn_245_246, wn_245_247, wn_245_248, wn_245_249, wn_245_250, wn_245_251, wn_246_243, wn_246_244, wn_246_245, wn_246_247, wn_246_248, wn_246_249, wn_246_250, wn_246_251, wn_247_243, wn_247_244, wn_247_245, wn_247_246, wn_247_248, wn_247_249, wn_247_250, wn_247_251, wn_248_243, wn_248_244, wn_248_245, wn_248_246, wn_248_247, wn_248_249, wn_248_250, wn_248_251, wn_249_243, wn_249_244, wn_249_245, wn_249_246, wn_249_247, wn_249_248, wn_249_250, wn_249_251, wn_250_243, wn_250_244, wn_250_245, wn_250_246, wn_250_247, wn_250_248, wn_250_249, wn_250_251, wn_251_243, wn_251_244, wn_251_245, wn_251_246, wn_251_247, wn_251_248, wn_251_249, wn_251_250, NW_3, NW_5, NW_r3, NW_r5, NW_r4, NW_r9, NW_NW, up_same, Int.toNat_natCast, row_17a, row_17b, row_17c, EW_4, EW_5, EW_3, EW_0, refM_44, refM_45, refM_43, LW_3, LW_4, LW_1] at hz70 ⊢
          refine j_i2d C dX9_meanWeariness_73 ?_
          refine j_ddiv C (iI_nz ⟨by omega, by omega⟩) dX9_meanWeariness_74 ?_
          refine j_dret C hrt dX9_meanWeariness_75 ?_
          first | exact ⟨by rw [if_pos (by omega)], fun q => absurd (by omega) q⟩ | exact ⟨by rw [if_neg (by omega)], fun _ => rfl⟩
        · -- 48 F
          refine j_iconst C dX9_meanWeariness_51 ?_
          refine j_goto C dX9_meanWeariness_52 ?_
          refine j_iconst C dX9_meanWeariness_56 ?_
          refine j_cVI2 C (c_X9_isThrown_1 (by exact hw) ⟨by omega, by omega⟩) oX9_isThrown kX9_207 ⟨_, rfl, rfl⟩ at_243 ⟨by decide, by decide⟩ rfl (Nat.le_of_ble_eq_true rfl) ⟨by decide, by decide⟩ dX9_meanWeariness_57 ?_
          rintro _ _ hz57 ⟨rfl, rfl⟩
          try simp only [wi_wf, wf_same, wf_wf, tM0, tM1, tM2, tM3, tM4, tM5, tM6, tB0, tB1, tB2, tB3, tB4, tB5, tB6, tL0, tL1, tL2, up_up, wn_243_244, wn_243_245, wn_243_246, wn_243_247, wn_243_248, wn_243_249, wn_243_250, wn_243_251, wn_244_243, wn_244_245, wn_244_246, wn_244_247, wn_244_248, wn_244_249, wn_244_250, wn_244_251, wn_245_243, wn_245_244, wn_245_246, wn_245_247, wn_245_248, wn_245_249, wn_245_250, wn_245_251, wn_246_243, wn_246_244, wn_246_245, wn_246_247, wn_246_248, wn_246_249, wn_246_250, wn_246_251, wn_247_243, wn_247_244, wn_247_245, wn_247_246, wn_247_248, wn_247_249, wn_247_250, wn_247_251, wn_248_243, wn_248_244, wn_248_245, wn_248_246, wn_248_247, wn_248_249, wn_248_250, wn_248_251, wn_249_243, wn_249_244, wn_249_245, wn_249_246, wn_249_247, wn_249_248, wn_249_250, wn_249_251, wn_250_243, wn_250_244, wn_250_245, wn_250_246, wn_250_247, wn_250_248, wn_250_249, wn_250_251, wn_251_243, wn_251_244, wn_251_245, wn_251_246, wn_251_247, wn_251_248, wn_251_249, wn_251_250, NW_3, NW_5, NW_r3, NW_r5, NW_r4, NW_r9, NW_NW, up_same, Int.toNat_natCast, row_17a, row_17b, row_17c, EW_4, EW_5, EW_3, EW_0, refM_44, refM_45, refM_43, LW_3, LW_4, LW_1] at hz57 ⊢
          refine j_if_eq C (by decide) dX9_meanWeariness_60 (fun hc => absurd hc (by decide)) (fun _ => ?_)
          refine j_dconst0 C dX9_meanWeariness_63 ?_
          refine j_goto C dX9_meanWeariness_64 ?_
          refine j_dret C hrt dX9_meanWeariness_75 ?_
          first | exact ⟨by rw [if_pos (by omega)], fun q => absurd (by omega) q⟩ | exact ⟨by rw [if_neg (by omega)], fun _ => rfl⟩
      · -- 11 F
        refine j_iload1 C dX9_meanWeariness_14 ?_
        refine j_aload0 C dX9_meanWeariness_15 ?_
        refine j_iload2 C dX9_meanWeariness_16 ?_
        refine j_iconst C dX9_meanWeariness_17 ?_
        refine j_cVI2 C (c_X9_of (by exact hw) (by omega) (by omega)) oX9_of kX9_103 ⟨_, rfl, rfl⟩ at_243 ⟨by decide, by decide⟩ rfl (Nat.le_of_ble_eq_true rfl) ⟨by decide, by decide⟩ dX9_meanWeariness_18 ?_
        rintro _ _ hz18 ⟨rfl, rfl⟩
        try simp only [wi_wf, wf_same, wf_wf, tM0, tM1, tM2, tM3, tM4, tM5, tM6, tB0, tB1, tB2, tB3, tB4, tB5, tB6, tL0, tL1, tL2, up_up, wn_243_244, wn_243_245, wn_243_246, wn_243_247, wn_243_248, wn_243_249, wn_243_250, wn_243_251, wn_244_243, wn_244_245, wn_244_246, wn_244_247, wn_244_248, wn_244_249, wn_244_250, wn_244_251, wn_245_243, wn_245_244, wn_245_246, wn_245_247, wn_245_248, wn_245_249, wn_245_250, wn_245_251, wn_246_243, wn_246_244, wn_246_245, wn_246_247, wn_246_248, wn_246_249, wn_246_250, wn_246_251, wn_247_243, wn_247_244, wn_247_245, wn_247_246, wn_247_248, wn_247_249, wn_247_250, wn_247_251, wn_248_243, wn_248_244, wn_248_245, wn_248_246, wn_248_247, wn_248_249, wn_248_250, wn_248_251, wn_249_243, wn_249_244, wn_249_245, wn_249_246, wn_249_247, wn_249_248, wn_249_250, wn_249_251, wn_250_243, wn_250_244, wn_250_245, wn_250_246, wn_250_247, wn_250_248, wn_250_249, wn_250_251, wn_251_243, wn_251_244, wn_251_245, wn_251_246, wn_251_247, wn_251_248, wn_251_249, wn_251_250, NW_3, NW_5, NW_r3, NW_r5, NW_r4, NW_r9, NW_NW, up_same, Int.toNat_natCast, row_17a, row_17b, row_17c, EW_4, EW_5, EW_3, EW_0, refM_44, refM_45, refM_43, LW_3, LW_4, LW_1] at hz18 ⊢
        refine j_iconst C dX9_meanWeariness_21 ?_
        refine j_icmp_ne C ⟨by omega, by omega⟩ ⟨by omega, by omega⟩ dX9_meanWeariness_22 (fun hc22 => ?_) (fun hc22 => ?_)
        · -- 22 T
          refine j_aload0 C dX9_meanWeariness_29 ?_
          refine j_iload2 C dX9_meanWeariness_30 ?_
          refine j_iconst C dX9_meanWeariness_31 ?_
          refine j_cVI2 C (c_X9_of (by exact hw) (by omega) (by omega)) oX9_of kX9_103 ⟨_, rfl, rfl⟩ at_243 ⟨by decide, by decide⟩ rfl (Nat.le_of_ble_eq_true rfl) ⟨by decide, by decide⟩ dX9_meanWeariness_32 ?_
          rintro _ _ hz32 ⟨rfl, rfl⟩
          try simp only [wi_wf, wf_same, wf_wf, tM0, tM1, tM2, tM3, tM4, tM5, tM6, tB0, tB1, tB2, tB3, tB4, tB5, tB6, tL0, tL1, tL2, up_up, wn_243_244, wn_243_245, wn_243_246, wn_243_247, wn_243_248, wn_243_249, wn_243_250, wn_243_251, wn_244_243, wn_244_245, wn_244_246, wn_244_247, wn_244_248, wn_244_249, wn_244_250, wn_244_251, wn_245_243, wn_245_244, wn_245_246, wn_245_247, wn_245_248, wn_245_249, wn_245_250, wn_245_251, wn_246_243, wn_246_244, wn_246_245, wn_246_247, wn_246_248, wn_246_249, wn_246_250, wn_246_251, wn_247_243, wn_247_244, wn_247_245, wn_247_246, wn_247_248, wn_247_249, wn_247_250, wn_247_251, wn_248_243, wn_248_244, wn_248_245, wn_248_246, wn_248_247, wn_248_249, wn_248_250, wn_248_251, wn_249_243, wn_249_244, wn_249_245, wn_249_246, wn_249_247, wn_249_248, wn_249_250, wn_249_251, wn_250_243, wn_250_244, wn_250_245, wn_250_246, wn_250_247, wn_250_248, wn_250_249, wn_250_251, wn_251_243, wn_251_244, wn_251_245, wn_251_246, wn_251_247, wn_251_248, wn_251_249, wn_251_250, NW_3, NW_5, NW_r3, NW_r5, NW_r4, NW_r9, NW_NW, up_same, Int.toNat_natCast, row_17a, row_17b, row_17c, EW_4, EW_5, EW_3, EW_0, refM_44, refM_45, refM_43, LW_3, LW_4, LW_1] at hz32 ⊢
          refine j_iadd C dX9_meanWeariness_35 ?_
          refine j_istore1 C rfl dX9_meanWeariness_36 ?_
          refine j_iinc2n C rfl dX9_meanWeariness_37 ?_
          refine j_goto C dX9_meanWeariness_40 ?_
          exact j_fg (ih4 (k + 1) (by omega) (by omega)) ⟨Or.inr rfl, Or.inr (sI (by simp only [wyUp]; first | rw [if_pos (by omega)] | rw [if_neg (by omega)])), Or.inr rfl, trivial⟩ rfl
        · -- 22 F
          refine j_iconst C dX9_meanWeariness_25 ?_
          refine j_goto C dX9_meanWeariness_26 ?_
          refine j_iadd C dX9_meanWeariness_35 ?_
          refine j_istore1 C rfl dX9_meanWeariness_36 ?_
          refine j_iinc2n C rfl dX9_meanWeariness_37 ?_
          refine j_goto C dX9_meanWeariness_40 ?_
          exact j_fg (ih4 (k + 1) (by omega) (by omega)) ⟨Or.inr rfl, Or.inr (sI (by simp only [wyUp]; first | rw [if_pos (by omega)] | rw [if_neg (by omega)])), Or.inr rfl, trivial⟩ rfl
  exact loop4 _ 0 (Nat.lt_succ_self _) (Nat.zero_le _)
set_option maxRecDepth 100000 in
set_option maxHeartbeats 4000000 in
theorem c_X9_outShare {Γ : Ga} {l : Launch} {ω : Wo} (hw : WM ω.2.1) {M : Int} (hI : RI M (ω.1 244))   : CF Γ l yX9_outShare cX9_outShare 1 .float 2 [.ref (rl Γ 243)] ω (fun z ω' => ω' = wf ω 243 (up (ω.1 243) 6 0) ∧ z = shareV (outO (ω.1 244)) (allO (ω.1 244))) := by
  refine Met.ofJ (k := 0) [some (.ref (rl Γ 243))] (by decide) rfl rfl rfl (fun p e s mm args below meth c C hrt => ?_)
  have g := hI.s
  have gc := hI.c
  have g1 := oarsUp_rg hI (cL (ω.1 244)) gc.2.2.2
  have ge : allO (ω.1 244) = oarsUp (ω.1 244) (cL (ω.1 244)) := rfl
  refine j_aload0 C dX9_outShare_0 ?_
  refine j_iconst C dX9_outShare_1 ?_
  refine j_putI C fX9_38 at_243 rfl ty_7_6 ⟨by omega, by omega⟩ dX9_outShare_2 ?_
  try simp only [wi_wf, wf_same, wf_wf, tM0, tM1, tM2, tM3, tM4, tM5, tM6, tB0, tB1, tB2, tB3, tB4, tB5, tB6, tL0, tL1, tL2, up_up, wn_243_244, wn_243_245, wn_243_246, wn_243_247, wn_243_248, wn_243_249, wn_243_250, wn_243_251, wn_244_243, wn_244_245, wn_244_246, wn_244_247, wn_244_248, wn_244_249, wn_244_250, wn_244_251, wn_245_243, wn_245_244, wn_245_246, wn_245_247, wn_245_248, wn_245_249, wn_245_250, wn_245_251, wn_246_243, wn_246_244, wn_246_245, wn_246_247, wn_246_248, wn_246_249, wn_246_250, wn_246_251, wn_247_243, wn_247_244, wn_247_245, wn_247_246, wn_247_248, wn_247_249, wn_247_250, wn_247_251, wn_248_243, wn_248_244, wn_248_245, wn_248_246, wn_248_247, wn_248_249, wn_248_250, wn_248_251, wn_249_243, wn_249_244, wn_249_245, wn_249_246, wn_249_247, wn_249_248, wn_249_250, wn_249_251, wn_250_243, wn_250_244, wn_250_245, wn_250_246, wn_250_247, wn_250_248, wn_250_249, wn_250_251, wn_251_243, wn_251_244, wn_251_245, wn_251_246, wn_251_247, wn_251_248, wn_251_249, wn_251_250, NW_3, NW_5, NW_r3, NW_r5, NW_r4, NW_r9, NW_NW, up_same, Int.toNat_natCast, row_17a, row_17b, row_17c, EW_4, EW_5, EW_3, EW_0, refM_44, refM_45, refM_43, LW_3, LW_4, LW_1]
  refine j_aload0 C dX9_outShare_5 ?_
  refine j_cVI0 C (c_X9_oarsOut (by exact hw) (by exact hI)) oX9_oarsOut kX9_83 ⟨_, rfl, rfl⟩ at_243 ⟨by decide, by decide⟩ rfl (Nat.le_of_ble_eq_true rfl) ⟨by decide, by decide⟩ dX9_outShare_6 ?_
  rintro _ _ hz6 ⟨rfl, rfl⟩
  try simp only [wi_wf, wf_same, wf_wf, tM0, tM1, tM2, tM3, tM4, tM5, tM6, tB0, tB1, tB2, tB3, tB4, tB5, tB6, tL0, tL1, tL2, up_up, wn_243_244, wn_243_245, wn_243_246, wn_243_247, wn_243_248, wn_243_249, wn_243_250, wn_243_251, wn_244_243, wn_244_245, wn_244_246, wn_244_247, wn_244_248, wn_244_249, wn_244_250, wn_244_251, wn_245_243, wn_245_244, wn_245_246, wn_245_247, wn_245_248, wn_245_249, wn_245_250, wn_245_251, wn_246_243, wn_246_244, wn_246_245, wn_246_247, wn_246_248, wn_246_249, wn_246_250, wn_246_251, wn_247_243, wn_247_244, wn_247_245, wn_247_246, wn_247_248, wn_247_249, wn_247_250, wn_247_251, wn_248_243, wn_248_244, wn_248_245, wn_248_246, wn_248_247, wn_248_249, wn_248_250, wn_248_251, wn_249_243, wn_249_244, wn_249_245, wn_249_246, wn_249_247, wn_249_248, wn_249_250, wn_249_251, wn_250_243, wn_250_244, wn_250_245, wn_250_246, wn_250_247, wn_250_248, wn_250_249, wn_250_251, wn_251_243, wn_251_244, wn_251_245, wn_251_246, wn_251_247, wn_251_248, wn_251_249, wn_251_250, NW_3, NW_5, NW_r3, NW_r5, NW_r4, NW_r9, NW_NW, up_same, Int.toNat_natCast, row_17a, row_17b, row_17c, EW_4, EW_5, EW_3, EW_0, refM_44, refM_45, refM_43, LW_3, LW_4, LW_1] at hz6 ⊢
  refine j_i2f C dX9_outShare_9 ?_
  refine j_aload0 C dX9_outShare_10 ?_
  refine j_cVI0 C (c_X9_allOars (by exact hw) (by exact hI)) oX9_allOars kX9_79 ⟨_, rfl, rfl⟩ at_243 ⟨by decide, by decide⟩ rfl (Nat.le_of_ble_eq_true rfl) ⟨by decide, by decide⟩ dX9_outShare_11 ?_
  rintro _ _ hz11 ⟨rfl, rfl⟩
  try simp only [wi_wf, wf_same, wf_wf, tM0, tM1, tM2, tM3, tM4, tM5, tM6, tB0, tB1, tB2, tB3, tB4, tB5, tB6, tL0, tL1, tL2, up_up, wn_243_244, wn_243_245, wn_243_246, wn_243_247, wn_243_248, wn_243_249, wn_243_250, wn_243_251, wn_244_243, wn_244_245, wn_244_246, wn_244_247, wn_244_248, wn_244_249, wn_244_250, wn_244_251, wn_245_243, wn_245_244, wn_245_246, wn_245_247, wn_245_248, wn_245_249, wn_245_250, wn_245_251, wn_246_243, wn_246_244, wn_246_245, wn_246_247, wn_246_248, wn_246_249, wn_246_250, wn_246_251, wn_247_243, wn_247_244, wn_247_245, wn_247_246, wn_247_248, wn_247_249, wn_247_250, wn_247_251, wn_248_243, wn_248_244, wn_248_245, wn_248_246, wn_248_247, wn_248_249, wn_248_250, wn_248_251, wn_249_243, wn_249_244, wn_249_245, wn_249_246, wn_249_247, wn_249_248, wn_249_250, wn_249_251, wn_250_243, wn_250_244, wn_250_245, wn_250_246, wn_250_247, wn_250_248, wn_250_249, wn_250_251, wn_251_243, wn_251_244, wn_251_245, wn_251_246, wn_251_247, wn_251_248, wn_251_249, wn_251_250, NW_3, NW_5, NW_r3, NW_r5, NW_r4, NW_r9, NW_NW, up_same, Int.toNat_natCast, row_17a, row_17b, row_17c, EW_4, EW_5, EW_3, EW_0, refM_44, refM_45, refM_43, LW_3, LW_4, LW_1] at hz11 ⊢
  refine j_i2f C dX9_outShare_14 ?_
  refine j_fdiv C (iI_nz ⟨by omega, by omega⟩) dX9_outShare_15 ?_
  refine j_fret C hrt dX9_outShare_16 ?_
  exact ⟨rfl, rfl⟩
