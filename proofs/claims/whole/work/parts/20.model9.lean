set_option maxRecDepth 100000 in
set_option maxHeartbeats 4000000 in
theorem c_X9_sign {Γ : Ga} {l : Launch} {ω : Wo} (hw : WM ω.2.1)  {n h : Nat} (h15 : ω.1 243 15 = (n : Int)) (h16 : ω.1 243 16 = (h : Int)) (hn : n ≤ 60) (hh : h ≤ n) : CI Γ l yX9_sign cX9_sign 1 .int 0 [.ref (rl Γ 243)] ω (fun z ω' => z = sgn (ω.1 249) n h ∧ ω = ω') := by
  refine Met.ofJ (k := 0) [some (.ref (rl Γ 243))] (by decide) rfl rfl rfl (fun p e s mm args below meth c C hrt => ?_)
  refine j_aload0 C dX9_sign_0 ?_
  refine j_geti C fX9_230 at_243 rfl h16 dX9_sign_1 (fun hr1 => ?_)
  try simp only [wf_same, wn_243_244, wn_243_245, wn_243_246, wn_243_247, wn_243_248, wn_243_249, wn_243_250, wn_243_251, wn_244_243, wn_244_245, wn_244_246, wn_244_247, wn_244_248, wn_244_249, wn_244_250, wn_244_251, wn_245_243, wn_245_244, wn_245_246, wn_245_247, wn_245_248, wn_245_249, wn_245_250, wn_245_251, wn_246_243, wn_246_244, wn_246_245, wn_246_247, wn_246_248, wn_246_249, wn_246_250, wn_246_251, wn_247_243, wn_247_244, wn_247_245, wn_247_246, wn_247_248, wn_247_249, wn_247_250, wn_247_251, wn_248_243, wn_248_244, wn_248_245, wn_248_246, wn_248_247, wn_248_249, wn_248_250, wn_248_251, wn_249_243, wn_249_244, wn_249_245, wn_249_246, wn_249_247, wn_249_248, wn_249_250, wn_249_251, wn_250_243, wn_250_244, wn_250_245, wn_250_246, wn_250_247, wn_250_248, wn_250_249, wn_250_251, wn_251_243, wn_251_244, wn_251_245, wn_251_246, wn_251_247, wn_251_248, wn_251_249, wn_251_250, NW_r3, NW_r5, NW_r4, NW_r9, up_same, Int.toNat_natCast] at hr1 ⊢
  refine j_aload0 C dX9_sign_4 ?_
  refine j_geti C fX9_227 at_243 rfl h15 dX9_sign_5 (fun hr5 => ?_)
  try simp only [wf_same, wn_243_244, wn_243_245, wn_243_246, wn_243_247, wn_243_248, wn_243_249, wn_243_250, wn_243_251, wn_244_243, wn_244_245, wn_244_246, wn_244_247, wn_244_248, wn_244_249, wn_244_250, wn_244_251, wn_245_243, wn_245_244, wn_245_246, wn_245_247, wn_245_248, wn_245_249, wn_245_250, wn_245_251, wn_246_243, wn_246_244, wn_246_245, wn_246_247, wn_246_248, wn_246_249, wn_246_250, wn_246_251, wn_247_243, wn_247_244, wn_247_245, wn_247_246, wn_247_248, wn_247_249, wn_247_250, wn_247_251, wn_248_243, wn_248_244, wn_248_245, wn_248_246, wn_248_247, wn_248_249, wn_248_250, wn_248_251, wn_249_243, wn_249_244, wn_249_245, wn_249_246, wn_249_247, wn_249_248, wn_249_250, wn_249_251, wn_250_243, wn_250_244, wn_250_245, wn_250_246, wn_250_247, wn_250_248, wn_250_249, wn_250_251, wn_251_243, wn_251_244, wn_251_245, wn_251_246, wn_251_247, wn_251_248, wn_251_249, wn_251_250, NW_r3, NW_r5, NW_r4, NW_r9, up_same, Int.toNat_natCast] at hr5 ⊢
  refine j_icmp_ge C ⟨by omega, by omega⟩ ⟨by omega, by omega⟩ dX9_sign_8 (fun hc8 => ?_) (fun hc8 => ?_)
  · -- 8 T
    refine j_iconst C dX9_sign_23 ?_
    refine j_iret C hrt dX9_sign_24 ⟨by omega, by omega⟩ ?_
    refine ⟨?_, rfl⟩
    first | exact (sgn_in (by omega)).symm | exact (sgn_out (by omega)).symm
  · -- 8 F
    refine j_aload0 C dX9_sign_11 ?_
    refine j_getr C fX9_29 at_243 rfl hw.r13 dX9_sign_12 ?_
    refine j_aload0 C dX9_sign_15 ?_
    refine j_geti C fX9_230 at_243 rfl h16 dX9_sign_16 (fun hr16 => ?_)
    try simp only [wf_same, wn_243_244, wn_243_245, wn_243_246, wn_243_247, wn_243_248, wn_243_249, wn_243_250, wn_243_251, wn_244_243, wn_244_245, wn_244_246, wn_244_247, wn_244_248, wn_244_249, wn_244_250, wn_244_251, wn_245_243, wn_245_244, wn_245_246, wn_245_247, wn_245_248, wn_245_249, wn_245_250, wn_245_251, wn_246_243, wn_246_244, wn_246_245, wn_246_247, wn_246_248, wn_246_249, wn_246_250, wn_246_251, wn_247_243, wn_247_244, wn_247_245, wn_247_246, wn_247_248, wn_247_249, wn_247_250, wn_247_251, wn_248_243, wn_248_244, wn_248_245, wn_248_246, wn_248_247, wn_248_249, wn_248_250, wn_248_251, wn_249_243, wn_249_244, wn_249_245, wn_249_246, wn_249_247, wn_249_248, wn_249_250, wn_249_251, wn_250_243, wn_250_244, wn_250_245, wn_250_246, wn_250_247, wn_250_248, wn_250_249, wn_250_251, wn_251_243, wn_251_244, wn_251_245, wn_251_246, wn_251_247, wn_251_248, wn_251_249, wn_251_250, NW_r3, NW_r5, NW_r4, NW_r9, up_same, Int.toNat_natCast] at hr16 ⊢
    refine j_iald C at_249 ⟨rfl, rfl⟩ (N := 60) rfl (by decide) ⟨by omega, by omega⟩ rfl dX9_sign_19 (fun hr19 => ?_)
    try simp only [wf_same, wn_243_244, wn_243_245, wn_243_246, wn_243_247, wn_243_248, wn_243_249, wn_243_250, wn_243_251, wn_244_243, wn_244_245, wn_244_246, wn_244_247, wn_244_248, wn_244_249, wn_244_250, wn_244_251, wn_245_243, wn_245_244, wn_245_246, wn_245_247, wn_245_248, wn_245_249, wn_245_250, wn_245_251, wn_246_243, wn_246_244, wn_246_245, wn_246_247, wn_246_248, wn_246_249, wn_246_250, wn_246_251, wn_247_243, wn_247_244, wn_247_245, wn_247_246, wn_247_248, wn_247_249, wn_247_250, wn_247_251, wn_248_243, wn_248_244, wn_248_245, wn_248_246, wn_248_247, wn_248_249, wn_248_250, wn_248_251, wn_249_243, wn_249_244, wn_249_245, wn_249_246, wn_249_247, wn_249_248, wn_249_250, wn_249_251, wn_250_243, wn_250_244, wn_250_245, wn_250_246, wn_250_247, wn_250_248, wn_250_249, wn_250_251, wn_251_243, wn_251_244, wn_251_245, wn_251_246, wn_251_247, wn_251_248, wn_251_249, wn_251_250, NW_r3, NW_r5, NW_r4, NW_r9, up_same, Int.toNat_natCast] at hr19 ⊢
    refine j_goto C dX9_sign_20 ?_
    refine j_iret C hrt dX9_sign_24 ⟨by omega, by omega⟩ ?_
    refine ⟨?_, rfl⟩
    first | exact (sgn_in (by omega)).symm | exact (sgn_out (by omega)).symm
set_option maxRecDepth 100000 in
set_option maxHeartbeats 4000000 in
theorem c_X9_isSign {Γ : Ga} {l : Launch} {ω : Wo} (hw : WM ω.2.1)  {v : Int} (hv : Rg v) {n h : Nat} (h15 : ω.1 243 15 = (n : Int)) (h16 : ω.1 243 16 = (h : Int)) (hn : n ≤ 60) (hh : h ≤ n) : CI Γ l yX9_isSign cX9_isSign 3 .boolean 1 [.ref (rl Γ 243), .int (iI v)] ω (fun z ω' => z = bI (sgn (ω.1 249) n h = v) ∧ ω' = wf ω 243 (up (ω.1 243) 16 ((if sgn (ω.1 249) n h = v then h + 1 else h : Nat) : Int))) := by
  refine Met.ofJ (k := 1) [some (.ref (rl Γ 243)), some (.int (iI v)), none] (by decide) rfl rfl rfl (fun p e s mm args below meth c C hrt => ?_)
  refine j_aload0 C dX9_isSign_0 ?_
  refine j_cVI0 C (c_X9_sign (by exact hw) h15 h16 hn hh) oX9_sign kX9_233 ⟨_, rfl, rfl⟩ at_243 ⟨by decide, by decide⟩ rfl (Nat.le_of_ble_eq_true rfl) ⟨by decide, by decide⟩ dX9_isSign_1 ?_
  rintro _ _ hz1 ⟨rfl, rfl⟩
  try simp only [wi_wf, wf_same, wf_wf, tM0, tM1, tM2, tM3, tM4, tM5, tM6, tB0, tB1, tB2, tB3, tB4, tB5, tB6, tL0, tL1, tL2, up_up, wn_243_244, wn_243_245, wn_243_246, wn_243_247, wn_243_248, wn_243_249, wn_243_250, wn_243_251, wn_244_243, wn_244_245, wn_244_246, wn_244_247, wn_244_248, wn_244_249, wn_244_250, wn_244_251, wn_245_243, wn_245_244, wn_245_246, wn_245_247, wn_245_248, wn_245_249, wn_245_250, wn_245_251, wn_246_243, wn_246_244, wn_246_245, wn_246_247, wn_246_248, wn_246_249, wn_246_250, wn_246_251, wn_247_243, wn_247_244, wn_247_245, wn_247_246, wn_247_248, wn_247_249, wn_247_250, wn_247_251, wn_248_243, wn_248_244, wn_248_245, wn_248_246, wn_248_247, wn_248_249, wn_248_250, wn_248_251, wn_249_243, wn_249_244, wn_249_245, wn_249_246, wn_249_247, wn_249_248, wn_249_250, wn_249_251, wn_250_243, wn_250_244, wn_250_245, wn_250_246, wn_250_247, wn_250_248, wn_250_249, wn_250_251, wn_251_243, wn_251_244, wn_251_245, wn_251_246, wn_251_247, wn_251_248, wn_251_249, wn_251_250, NW_3, NW_5, NW_r3, NW_r5, NW_r4, NW_r9, NW_NW, up_same, Int.toNat_natCast] at hz1 ⊢
  refine j_iload1 C dX9_isSign_4 ?_
  refine j_icmp_ne C ⟨by omega, by omega⟩ ⟨by omega, by omega⟩ dX9_isSign_5 (fun hc5 => ?_) (fun hc5 => ?_)
  · -- 5 T
    refine j_iconst C dX9_isSign_12 ?_
    refine j_istore2 C rfl dX9_isSign_13 ?_
    refine j_aload0 C dX9_isSign_14 ?_
    refine j_dup C rfl dX9_isSign_15 ?_
    refine j_geti C fX9_230 at_243 rfl h16 dX9_isSign_16 (fun hr16 => ?_)
    try simp only [wf_same, wn_243_244, wn_243_245, wn_243_246, wn_243_247, wn_243_248, wn_243_249, wn_243_250, wn_243_251, wn_244_243, wn_244_245, wn_244_246, wn_244_247, wn_244_248, wn_244_249, wn_244_250, wn_244_251, wn_245_243, wn_245_244, wn_245_246, wn_245_247, wn_245_248, wn_245_249, wn_245_250, wn_245_251, wn_246_243, wn_246_244, wn_246_245, wn_246_247, wn_246_248, wn_246_249, wn_246_250, wn_246_251, wn_247_243, wn_247_244, wn_247_245, wn_247_246, wn_247_248, wn_247_249, wn_247_250, wn_247_251, wn_248_243, wn_248_244, wn_248_245, wn_248_246, wn_248_247, wn_248_249, wn_248_250, wn_248_251, wn_249_243, wn_249_244, wn_249_245, wn_249_246, wn_249_247, wn_249_248, wn_249_250, wn_249_251, wn_250_243, wn_250_244, wn_250_245, wn_250_246, wn_250_247, wn_250_248, wn_250_249, wn_250_251, wn_251_243, wn_251_244, wn_251_245, wn_251_246, wn_251_247, wn_251_248, wn_251_249, wn_251_250, NW_r3, NW_r5, NW_r4, NW_r9, up_same, Int.toNat_natCast] at hr16 ⊢
    refine j_iload2 C dX9_isSign_19 ?_
    refine j_if_eq C (by decide) dX9_isSign_20 (fun _ => ?_) (fun hc => absurd hc (by decide))
    refine j_iconst C dX9_isSign_27 ?_
    refine j_iadd C dX9_isSign_28 ?_
    refine j_putI C fX9_230 at_243 rfl ty_7_16 ⟨by omega, by omega⟩ dX9_isSign_29 ?_
    try simp only [wi_wf, wf_same, wf_wf, tM0, tM1, tM2, tM3, tM4, tM5, tM6, tB0, tB1, tB2, tB3, tB4, tB5, tB6, tL0, tL1, tL2, up_up, wn_243_244, wn_243_245, wn_243_246, wn_243_247, wn_243_248, wn_243_249, wn_243_250, wn_243_251, wn_244_243, wn_244_245, wn_244_246, wn_244_247, wn_244_248, wn_244_249, wn_244_250, wn_244_251, wn_245_243, wn_245_244, wn_245_246, wn_245_247, wn_245_248, wn_245_249, wn_245_250, wn_245_251, wn_246_243, wn_246_244, wn_246_245, wn_246_247, wn_246_248, wn_246_249, wn_246_250, wn_246_251, wn_247_243, wn_247_244, wn_247_245, wn_247_246, wn_247_248, wn_247_249, wn_247_250, wn_247_251, wn_248_243, wn_248_244, wn_248_245, wn_248_246, wn_248_247, wn_248_249, wn_248_250, wn_248_251, wn_249_243, wn_249_244, wn_249_245, wn_249_246, wn_249_247, wn_249_248, wn_249_250, wn_249_251, wn_250_243, wn_250_244, wn_250_245, wn_250_246, wn_250_247, wn_250_248, wn_250_249, wn_250_251, wn_251_243, wn_251_244, wn_251_245, wn_251_246, wn_251_247, wn_251_248, wn_251_249, wn_251_250, NW_3, NW_5, NW_r3, NW_r5, NW_r4, NW_r9, NW_NW, up_same, Int.toNat_natCast]
    refine j_iload2 C dX9_isSign_32 ?_
    refine j_zret C hrt dX9_isSign_33 (by first | exact Or.inl rfl | exact Or.inr rfl | exact bI_01 _) ?_
    first | exact ⟨(bI_t (by omega)).symm, by rw [if_pos (by omega)]; rfl⟩ | exact ⟨(bI_f (by omega)).symm, by rw [if_neg (by omega)]; rfl⟩
  · -- 5 F
    refine j_iconst C dX9_isSign_8 ?_
    refine j_goto C dX9_isSign_9 ?_
    refine j_istore2 C rfl dX9_isSign_13 ?_
    refine j_aload0 C dX9_isSign_14 ?_
    refine j_dup C rfl dX9_isSign_15 ?_
    refine j_geti C fX9_230 at_243 rfl h16 dX9_isSign_16 (fun hr16 => ?_)
    try simp only [wf_same, wn_243_244, wn_243_245, wn_243_246, wn_243_247, wn_243_248, wn_243_249, wn_243_250, wn_243_251, wn_244_243, wn_244_245, wn_244_246, wn_244_247, wn_244_248, wn_244_249, wn_244_250, wn_244_251, wn_245_243, wn_245_244, wn_245_246, wn_245_247, wn_245_248, wn_245_249, wn_245_250, wn_245_251, wn_246_243, wn_246_244, wn_246_245, wn_246_247, wn_246_248, wn_246_249, wn_246_250, wn_246_251, wn_247_243, wn_247_244, wn_247_245, wn_247_246, wn_247_248, wn_247_249, wn_247_250, wn_247_251, wn_248_243, wn_248_244, wn_248_245, wn_248_246, wn_248_247, wn_248_249, wn_248_250, wn_248_251, wn_249_243, wn_249_244, wn_249_245, wn_249_246, wn_249_247, wn_249_248, wn_249_250, wn_249_251, wn_250_243, wn_250_244, wn_250_245, wn_250_246, wn_250_247, wn_250_248, wn_250_249, wn_250_251, wn_251_243, wn_251_244, wn_251_245, wn_251_246, wn_251_247, wn_251_248, wn_251_249, wn_251_250, NW_r3, NW_r5, NW_r4, NW_r9, up_same, Int.toNat_natCast] at hr16 ⊢
    refine j_iload2 C dX9_isSign_19 ?_
    refine j_if_eq C (by decide) dX9_isSign_20 (fun hc => absurd hc (by decide)) (fun _ => ?_)
    refine j_iconst C dX9_isSign_23 ?_
    refine j_goto C dX9_isSign_24 ?_
    refine j_iadd C dX9_isSign_28 ?_
    refine j_putI C fX9_230 at_243 rfl ty_7_16 ⟨by omega, by omega⟩ dX9_isSign_29 ?_
    try simp only [wi_wf, wf_same, wf_wf, tM0, tM1, tM2, tM3, tM4, tM5, tM6, tB0, tB1, tB2, tB3, tB4, tB5, tB6, tL0, tL1, tL2, up_up, wn_243_244, wn_243_245, wn_243_246, wn_243_247, wn_243_248, wn_243_249, wn_243_250, wn_243_251, wn_244_243, wn_244_245, wn_244_246, wn_244_247, wn_244_248, wn_244_249, wn_244_250, wn_244_251, wn_245_243, wn_245_244, wn_245_246, wn_245_247, wn_245_248, wn_245_249, wn_245_250, wn_245_251, wn_246_243, wn_246_244, wn_246_245, wn_246_247, wn_246_248, wn_246_249, wn_246_250, wn_246_251, wn_247_243, wn_247_244, wn_247_245, wn_247_246, wn_247_248, wn_247_249, wn_247_250, wn_247_251, wn_248_243, wn_248_244, wn_248_245, wn_248_246, wn_248_247, wn_248_249, wn_248_250, wn_248_251, wn_249_243, wn_249_244, wn_249_245, wn_249_246, wn_249_247, wn_249_248, wn_249_250, wn_249_251, wn_250_243, wn_250_244, wn_250_245, wn_250_246, wn_250_247, wn_250_248, wn_250_249, wn_250_251, wn_251_243, wn_251_244, wn_251_245, wn_251_246, wn_251_247, wn_251_248, wn_251_249, wn_251_250, NW_3, NW_5, NW_r3, NW_r5, NW_r4, NW_r9, NW_NW, up_same, Int.toNat_natCast]
    refine j_iload2 C dX9_isSign_32 ?_
    refine j_zret C hrt dX9_isSign_33 (by first | exact Or.inl rfl | exact Or.inr rfl | exact bI_01 _) ?_
    first | exact ⟨(bI_t (by omega)).symm, by rw [if_pos (by omega)]; rfl⟩ | exact ⟨(bI_f (by omega)).symm, by rw [if_neg (by omega)]; rfl⟩
set_option maxRecDepth 100000 in
set_option maxHeartbeats 4000000 in
theorem c_X9_isNumber {Γ : Ga} {l : Launch} {ω : Wo} (hw : WM ω.2.1)  {f g : Nat} (hf : 1 ≤ f ∧ f ≤ 2) (hg : g < 63) {n h : Nat} (h15 : ω.1 243 15 = (n : Int)) (h16 : ω.1 243 16 = (h : Int)) (hn : n ≤ 60) (hh : h ≤ n) : CI Γ l yX9_isNumber cX9_isNumber 5 .boolean 1 [.ref (rl Γ 243), .int (iI ((f : Int))), .int (iI ((g : Int)))] ω (fun z ω' => z = bI (0 < (num (ω.1 249) n f h 0 0).2.2) ∧ ω' = NW ω (up (ω.1 243) 16 ((num (ω.1 249) n f h 0 0).1 : Int)) (up (ω.1 250) g (num (ω.1 249) n f h 0 0).2.1)) := by
  refine Met.ofJ (k := 2) [some (.ref (rl Γ 243)), some (.int (iI ((f : Int)))), some (.int (iI ((g : Int)))), none, none] (by decide) rfl rfl rfl (fun p e s mm args below meth c C hrt => ?_)
  refine j_iconst C dX9_isNumber_0 ?_
  refine j_istore3 C rfl dX9_isNumber_1 ?_
  refine j_iconst C dX9_isNumber_2 ?_
  refine j_istore4 C rfl dX9_isNumber_3 ?_
  have loop5 : ∀ (N : Nat) (c2 h2 : Nat) (v : Int), (f - c2) < N → (num (ω.1 249) n (f - c2) h2 v c2 = num (ω.1 249) n f h 0 0) → (c2 ≤ f) → (h2 ≤ n) → (0 ≤ v ∧ (c2 = 0 → v = 0) ∧ (c2 = 1 → v ≤ 9) ∧ (c2 = 2 → v ≤ 99)) → J Γ p l e (rmk 1 0 0) s mm args below meth c (MQ below (QI Γ (fun z ω' => z = bI (0 < (num (ω.1 249) n f h 0 0).2.2) ∧ ω' = NW ω (up (ω.1 243) 16 ((num (ω.1 249) n f h 0 0).1 : Int)) (up (ω.1 250) g (num (ω.1 249) n f h 0 0).2.1))) args s 0 0 (gA Γ)) 254 0 0 5 [some (.ref (rl Γ 243)), some (.int (iI ((f : Nat) : Int))), some (.int (iI ((g : Nat) : Int))), some (.int (iI v)), some (.int (iI ((c2 : Nat) : Int)))] [] (NW ω (up (ω.1 243) 16 (h2 : Int)) (ω.1 250)) := by
    intro N
    induction N with
    | zero => intro c2 h2 v hN; exact absurd hN (Nat.not_lt_zero _)
    | succ N ih5 =>
      intro c2 h2 v hN hi0 hi1 hi2 hi3
      refine j_iload4 C dX9_isNumber_5 ?_
      refine j_iload1 C dX9_isNumber_7 ?_
      refine j_icmp_ge C ⟨by omega, by omega⟩ ⟨by omega, by omega⟩ dX9_isNumber_8 (fun hc8 => ?_) (fun hc8 => ?_)
      · -- 8 T
        have e9 : num (ω.1 249) n f h 0 0 = (h2, v, c2) := by rw [← hi0, show f - c2 = 0 by omega]; rfl
        refine j_aload0 C dX9_isNumber_54 ?_
        refine j_getr C fX9_32 at_243 rfl hw.r14 dX9_isNumber_55 ?_
        refine j_iload2 C dX9_isNumber_58 ?_
        refine j_iload3 C dX9_isNumber_59 ?_
        refine j_iast C at_250 ⟨rfl, rfl⟩ (N := 63) rfl (by decide) ⟨by omega, by omega⟩ ⟨by omega, by omega⟩ dX9_isNumber_60 ?_
        try simp only [wi_wf, wf_same, wf_wf, tM0, tM1, tM2, tM3, tM4, tM5, tM6, tB0, tB1, tB2, tB3, tB4, tB5, tB6, tL0, tL1, tL2, up_up, wn_243_244, wn_243_245, wn_243_246, wn_243_247, wn_243_248, wn_243_249, wn_243_250, wn_243_251, wn_244_243, wn_244_245, wn_244_246, wn_244_247, wn_244_248, wn_244_249, wn_244_250, wn_244_251, wn_245_243, wn_245_244, wn_245_246, wn_245_247, wn_245_248, wn_245_249, wn_245_250, wn_245_251, wn_246_243, wn_246_244, wn_246_245, wn_246_247, wn_246_248, wn_246_249, wn_246_250, wn_246_251, wn_247_243, wn_247_244, wn_247_245, wn_247_246, wn_247_248, wn_247_249, wn_247_250, wn_247_251, wn_248_243, wn_248_244, wn_248_245, wn_248_246, wn_248_247, wn_248_249, wn_248_250, wn_248_251, wn_249_243, wn_249_244, wn_249_245, wn_249_246, wn_249_247, wn_249_248, wn_249_250, wn_249_251, wn_250_243, wn_250_244, wn_250_245, wn_250_246, wn_250_247, wn_250_248, wn_250_249, wn_250_251, wn_251_243, wn_251_244, wn_251_245, wn_251_246, wn_251_247, wn_251_248, wn_251_249, wn_251_250, NW_3, NW_5, NW_r3, NW_r5, NW_r4, NW_r9, NW_NW, up_same, Int.toNat_natCast]
        refine j_iload4 C dX9_isNumber_61 ?_
        refine j_if_le C ⟨by omega, by omega⟩ dX9_isNumber_63 (fun hc63 => ?_) (fun hc63 => ?_)
        · -- 63 T
          refine j_iconst C dX9_isNumber_70 ?_
          refine j_zret C hrt dX9_isNumber_71 (by first | exact Or.inl rfl | exact Or.inr rfl | exact bI_01 _) ?_
          rw [e9]
          first | exact ⟨(bI_t (show 0 < c2 by omega)).symm, rfl⟩ | exact ⟨(bI_f (show ¬ 0 < c2 by omega)).symm, rfl⟩
        · -- 63 F
          refine j_iconst C dX9_isNumber_66 ?_
          refine j_goto C dX9_isNumber_67 ?_
          refine j_zret C hrt dX9_isNumber_71 (by first | exact Or.inl rfl | exact Or.inr rfl | exact bI_01 _) ?_
          rw [e9]
          first | exact ⟨(bI_t (show 0 < c2 by omega)).symm, rfl⟩ | exact ⟨(bI_f (show ¬ 0 < c2 by omega)).symm, rfl⟩
      · -- 8 F
        refine j_aload0 C dX9_isNumber_11 ?_
        refine j_cVI0 C (c_X9_sign (n := n) (h := h2) (by exact hw) (by exact h15) rfl hn hi2) oX9_sign kX9_233 ⟨_, rfl, rfl⟩ at_243 ⟨by decide, by decide⟩ rfl (Nat.le_of_ble_eq_true rfl) ⟨by decide, by decide⟩ dX9_isNumber_12 ?_
        rintro _ _ hz12 ⟨rfl, rfl⟩
        try simp only [wi_wf, wf_same, wf_wf, tM0, tM1, tM2, tM3, tM4, tM5, tM6, tB0, tB1, tB2, tB3, tB4, tB5, tB6, tL0, tL1, tL2, up_up, wn_243_244, wn_243_245, wn_243_246, wn_243_247, wn_243_248, wn_243_249, wn_243_250, wn_243_251, wn_244_243, wn_244_245, wn_244_246, wn_244_247, wn_244_248, wn_244_249, wn_244_250, wn_244_251, wn_245_243, wn_245_244, wn_245_246, wn_245_247, wn_245_248, wn_245_249, wn_245_250, wn_245_251, wn_246_243, wn_246_244, wn_246_245, wn_246_247, wn_246_248, wn_246_249, wn_246_250, wn_246_251, wn_247_243, wn_247_244, wn_247_245, wn_247_246, wn_247_248, wn_247_249, wn_247_250, wn_247_251, wn_248_243, wn_248_244, wn_248_245, wn_248_246, wn_248_247, wn_248_249, wn_248_250, wn_248_251, wn_249_243, wn_249_244, wn_249_245, wn_249_246, wn_249_247, wn_249_248, wn_249_250, wn_249_251, wn_250_243, wn_250_244, wn_250_245, wn_250_246, wn_250_247, wn_250_248, wn_250_249, wn_250_251, wn_251_243, wn_251_244, wn_251_245, wn_251_246, wn_251_247, wn_251_248, wn_251_249, wn_251_250, NW_3, NW_5, NW_r3, NW_r5, NW_r4, NW_r9, NW_NW, up_same, Int.toNat_natCast] at hz12 ⊢
        refine j_bipush C (by decide) dX9_isNumber_15 ?_
        refine j_bipush C (by decide) dX9_isNumber_17 ?_
        refine j_cSI3 C (c_X9_isIn ⟨by omega, by omega⟩ ⟨by omega, by omega⟩ ⟨by omega, by omega⟩) oX9_isIn kX9_60 ⟨by decide, by decide⟩ rfl (Nat.le_of_ble_eq_true rfl) ⟨by decide, by decide⟩ dX9_isNumber_19 ?_
        rintro _ _ hz19 ⟨rfl, rfl⟩
        try simp only [wi_wf, wf_same, wf_wf, tM0, tM1, tM2, tM3, tM4, tM5, tM6, tB0, tB1, tB2, tB3, tB4, tB5, tB6, tL0, tL1, tL2, up_up, wn_243_244, wn_243_245, wn_243_246, wn_243_247, wn_243_248, wn_243_249, wn_243_250, wn_243_251, wn_244_243, wn_244_245, wn_244_246, wn_244_247, wn_244_248, wn_244_249, wn_244_250, wn_244_251, wn_245_243, wn_245_244, wn_245_246, wn_245_247, wn_245_248, wn_245_249, wn_245_250, wn_245_251, wn_246_243, wn_246_244, wn_246_245, wn_246_247, wn_246_248, wn_246_249, wn_246_250, wn_246_251, wn_247_243, wn_247_244, wn_247_245, wn_247_246, wn_247_248, wn_247_249, wn_247_250, wn_247_251, wn_248_243, wn_248_244, wn_248_245, wn_248_246, wn_248_247, wn_248_249, wn_248_250, wn_248_251, wn_249_243, wn_249_244, wn_249_245, wn_249_246, wn_249_247, wn_249_248, wn_249_250, wn_249_251, wn_250_243, wn_250_244, wn_250_245, wn_250_246, wn_250_247, wn_250_248, wn_250_249, wn_250_251, wn_251_243, wn_251_244, wn_251_245, wn_251_246, wn_251_247, wn_251_248, wn_251_249, wn_251_250, NW_3, NW_5, NW_r3, NW_r5, NW_r4, NW_r9, NW_NW, up_same, Int.toNat_natCast] at hz19 ⊢
        refine j_ifeqb C dX9_isNumber_22 (fun hc22 => ?_) (fun hc22 => ?_)
        · -- 22 T
          refine j_bipush C (by decide) dX9_isNumber_25 ?_
          refine j_iload3 C dX9_isNumber_27 ?_
          refine j_imul C dX9_isNumber_28 ?_
          refine j_aload0 C dX9_isNumber_29 ?_
          refine j_cVI0 C (c_X9_sign (n := n) (h := h2) (by exact hw) (by exact h15) rfl hn hi2) oX9_sign kX9_233 ⟨_, rfl, rfl⟩ at_243 ⟨by decide, by decide⟩ rfl (Nat.le_of_ble_eq_true rfl) ⟨by decide, by decide⟩ dX9_isNumber_30 ?_
          rintro _ _ hz30 ⟨rfl, rfl⟩
          try simp only [wi_wf, wf_same, wf_wf, tM0, tM1, tM2, tM3, tM4, tM5, tM6, tB0, tB1, tB2, tB3, tB4, tB5, tB6, tL0, tL1, tL2, up_up, wn_243_244, wn_243_245, wn_243_246, wn_243_247, wn_243_248, wn_243_249, wn_243_250, wn_243_251, wn_244_243, wn_244_245, wn_244_246, wn_244_247, wn_244_248, wn_244_249, wn_244_250, wn_244_251, wn_245_243, wn_245_244, wn_245_246, wn_245_247, wn_245_248, wn_245_249, wn_245_250, wn_245_251, wn_246_243, wn_246_244, wn_246_245, wn_246_247, wn_246_248, wn_246_249, wn_246_250, wn_246_251, wn_247_243, wn_247_244, wn_247_245, wn_247_246, wn_247_248, wn_247_249, wn_247_250, wn_247_251, wn_248_243, wn_248_244, wn_248_245, wn_248_246, wn_248_247, wn_248_249, wn_248_250, wn_248_251, wn_249_243, wn_249_244, wn_249_245, wn_249_246, wn_249_247, wn_249_248, wn_249_250, wn_249_251, wn_250_243, wn_250_244, wn_250_245, wn_250_246, wn_250_247, wn_250_248, wn_250_249, wn_250_251, wn_251_243, wn_251_244, wn_251_245, wn_251_246, wn_251_247, wn_251_248, wn_251_249, wn_251_250, NW_3, NW_5, NW_r3, NW_r5, NW_r4, NW_r9, NW_NW, up_same, Int.toNat_natCast] at hz30 ⊢
          refine j_iadd C dX9_isNumber_33 ?_
          refine j_bipush C (by decide) dX9_isNumber_34 ?_
          refine j_isub C dX9_isNumber_36 ?_
          refine j_istore3 C rfl dX9_isNumber_37 ?_
          refine j_aload0 C dX9_isNumber_38 ?_
          refine j_dup C rfl dX9_isNumber_39 ?_
          refine j_geti C fX9_230 at_243 rfl rfl dX9_isNumber_40 (fun hr40 => ?_)
          try simp only [wf_same, wn_243_244, wn_243_245, wn_243_246, wn_243_247, wn_243_248, wn_243_249, wn_243_250, wn_243_251, wn_244_243, wn_244_245, wn_244_246, wn_244_247, wn_244_248, wn_244_249, wn_244_250, wn_244_251, wn_245_243, wn_245_244, wn_245_246, wn_245_247, wn_245_248, wn_245_249, wn_245_250, wn_245_251, wn_246_243, wn_246_244, wn_246_245, wn_246_247, wn_246_248, wn_246_249, wn_246_250, wn_246_251, wn_247_243, wn_247_244, wn_247_245, wn_247_246, wn_247_248, wn_247_249, wn_247_250, wn_247_251, wn_248_243, wn_248_244, wn_248_245, wn_248_246, wn_248_247, wn_248_249, wn_248_250, wn_248_251, wn_249_243, wn_249_244, wn_249_245, wn_249_246, wn_249_247, wn_249_248, wn_249_250, wn_249_251, wn_250_243, wn_250_244, wn_250_245, wn_250_246, wn_250_247, wn_250_248, wn_250_249, wn_250_251, wn_251_243, wn_251_244, wn_251_245, wn_251_246, wn_251_247, wn_251_248, wn_251_249, wn_251_250, NW_r3, NW_r5, NW_r4, NW_r9, up_same, Int.toNat_natCast] at hr40 ⊢
          refine j_iconst C dX9_isNumber_43 ?_
          refine j_iadd C dX9_isNumber_44 ?_
          refine j_putI C fX9_230 at_243 rfl ty_7_16 ⟨by omega, by omega⟩ dX9_isNumber_45 ?_
          try simp only [wi_wf, wf_same, wf_wf, tM0, tM1, tM2, tM3, tM4, tM5, tM6, tB0, tB1, tB2, tB3, tB4, tB5, tB6, tL0, tL1, tL2, up_up, wn_243_244, wn_243_245, wn_243_246, wn_243_247, wn_243_248, wn_243_249, wn_243_250, wn_243_251, wn_244_243, wn_244_245, wn_244_246, wn_244_247, wn_244_248, wn_244_249, wn_244_250, wn_244_251, wn_245_243, wn_245_244, wn_245_246, wn_245_247, wn_245_248, wn_245_249, wn_245_250, wn_245_251, wn_246_243, wn_246_244, wn_246_245, wn_246_247, wn_246_248, wn_246_249, wn_246_250, wn_246_251, wn_247_243, wn_247_244, wn_247_245, wn_247_246, wn_247_248, wn_247_249, wn_247_250, wn_247_251, wn_248_243, wn_248_244, wn_248_245, wn_248_246, wn_248_247, wn_248_249, wn_248_250, wn_248_251, wn_249_243, wn_249_244, wn_249_245, wn_249_246, wn_249_247, wn_249_248, wn_249_250, wn_249_251, wn_250_243, wn_250_244, wn_250_245, wn_250_246, wn_250_247, wn_250_248, wn_250_249, wn_250_251, wn_251_243, wn_251_244, wn_251_245, wn_251_246, wn_251_247, wn_251_248, wn_251_249, wn_251_250, NW_3, NW_5, NW_r3, NW_r5, NW_r4, NW_r9, NW_NW, up_same, Int.toNat_natCast]
          refine j_iinc4n C rfl dX9_isNumber_48 ?_
          refine j_goto C dX9_isNumber_51 ?_
          have hl9 := dig_lt hc22
          exact j_fg (ih5 (c2 + 1) (h2 + 1) (10 * v + sgn (ω.1 249) n h2 - 48) (by omega) (by rw [← hi0, show f - c2 = (f - (c2 + 1)) + 1 by omega]; exact (num_s hc22).symm) (by omega) (by omega) ⟨by omega, by omega, by omega, by omega⟩) ⟨Or.inr rfl, Or.inr rfl, Or.inr rfl, Or.inr rfl, Or.inr rfl, trivial⟩ rfl
        · -- 22 F
          have e9 : num (ω.1 249) n f h 0 0 = (h2, v, c2) := by rw [← hi0]; exact num_e hc22
          refine j_aload0 C dX9_isNumber_54 ?_
          refine j_getr C fX9_32 at_243 rfl hw.r14 dX9_isNumber_55 ?_
          refine j_iload2 C dX9_isNumber_58 ?_
          refine j_iload3 C dX9_isNumber_59 ?_
          refine j_iast C at_250 ⟨rfl, rfl⟩ (N := 63) rfl (by decide) ⟨by omega, by omega⟩ ⟨by omega, by omega⟩ dX9_isNumber_60 ?_
          try simp only [wi_wf, wf_same, wf_wf, tM0, tM1, tM2, tM3, tM4, tM5, tM6, tB0, tB1, tB2, tB3, tB4, tB5, tB6, tL0, tL1, tL2, up_up, wn_243_244, wn_243_245, wn_243_246, wn_243_247, wn_243_248, wn_243_249, wn_243_250, wn_243_251, wn_244_243, wn_244_245, wn_244_246, wn_244_247, wn_244_248, wn_244_249, wn_244_250, wn_244_251, wn_245_243, wn_245_244, wn_245_246, wn_245_247, wn_245_248, wn_245_249, wn_245_250, wn_245_251, wn_246_243, wn_246_244, wn_246_245, wn_246_247, wn_246_248, wn_246_249, wn_246_250, wn_246_251, wn_247_243, wn_247_244, wn_247_245, wn_247_246, wn_247_248, wn_247_249, wn_247_250, wn_247_251, wn_248_243, wn_248_244, wn_248_245, wn_248_246, wn_248_247, wn_248_249, wn_248_250, wn_248_251, wn_249_243, wn_249_244, wn_249_245, wn_249_246, wn_249_247, wn_249_248, wn_249_250, wn_249_251, wn_250_243, wn_250_244, wn_250_245, wn_250_246, wn_250_247, wn_250_248, wn_250_249, wn_250_251, wn_251_243, wn_251_244, wn_251_245, wn_251_246, wn_251_247, wn_251_248, wn_251_249, wn_251_250, NW_3, NW_5, NW_r3, NW_r5, NW_r4, NW_r9, NW_NW, up_same, Int.toNat_natCast]
          refine j_iload4 C dX9_isNumber_61 ?_
          refine j_if_le C ⟨by omega, by omega⟩ dX9_isNumber_63 (fun hc63 => ?_) (fun hc63 => ?_)
          · -- 63 T
            refine j_iconst C dX9_isNumber_70 ?_
            refine j_zret C hrt dX9_isNumber_71 (by first | exact Or.inl rfl | exact Or.inr rfl | exact bI_01 _) ?_
            rw [e9]
            first | exact ⟨(bI_t (show 0 < c2 by omega)).symm, rfl⟩ | exact ⟨(bI_f (show ¬ 0 < c2 by omega)).symm, rfl⟩
          · -- 63 F
            refine j_iconst C dX9_isNumber_66 ?_
            refine j_goto C dX9_isNumber_67 ?_
            refine j_zret C hrt dX9_isNumber_71 (by first | exact Or.inl rfl | exact Or.inr rfl | exact bI_01 _) ?_
            rw [e9]
            first | exact ⟨(bI_t (show 0 < c2 by omega)).symm, rfl⟩ | exact ⟨(bI_f (show ¬ 0 < c2 by omega)).symm, rfl⟩
  exact j_fg (loop5 _ 0 h 0 (Nat.lt_succ_self _) rfl (Nat.zero_le _) hh ⟨by omega, fun _ => rfl, fun q => by omega, fun q => by omega⟩) ⟨Or.inr rfl, Or.inr rfl, Or.inr rfl, Or.inr rfl, Or.inr rfl, trivial⟩ (by rw [up_id' h16, NW_id])
set_option maxRecDepth 100000 in
set_option maxHeartbeats 4000000 in
theorem c_X9_isWord {Γ : Ga} {l : Launch} {ω : Wo}  {v : Int} (hv : Rg v) : CI Γ l yX9_isWord cX9_isWord 1 .boolean 0 [.int (iI v)] ω (fun z ω' => z = bI (isW v) ∧ ω = ω') := by
  refine Met.ofJ (k := 0) [some (.int (iI v))] (by decide) rfl rfl rfl (fun p e s mm args below meth c C hrt => ?_)
  refine j_iload0 C dX9_isWord_0 ?_
  refine j_bipush C (by decide) dX9_isWord_1 ?_
  refine j_icmp_eq C ⟨by omega, by omega⟩ ⟨by omega, by omega⟩ dX9_isWord_3 (fun hc3 => ?_) (fun hc3 => ?_)
  · -- 3 T
    refine j_iconst C dX9_isWord_54 ?_
    refine j_goto C dX9_isWord_55 ?_
    refine j_zret C hrt dX9_isWord_59 (by first | exact Or.inl rfl | exact Or.inr rfl | exact bI_01 _) ?_
    first | exact ⟨(bI_t (by unfold isW; omega)).symm, rfl⟩ | exact ⟨(bI_f (by unfold isW; omega)).symm, rfl⟩
  · -- 3 F
    refine j_iload0 C dX9_isWord_6 ?_
    refine j_bipush C (by decide) dX9_isWord_7 ?_
    refine j_icmp_eq C ⟨by omega, by omega⟩ ⟨by omega, by omega⟩ dX9_isWord_9 (fun hc9 => ?_) (fun hc9 => ?_)
    · -- 9 T
      refine j_iconst C dX9_isWord_54 ?_
      refine j_goto C dX9_isWord_55 ?_
      refine j_zret C hrt dX9_isWord_59 (by first | exact Or.inl rfl | exact Or.inr rfl | exact bI_01 _) ?_
      first | exact ⟨(bI_t (by unfold isW; omega)).symm, rfl⟩ | exact ⟨(bI_f (by unfold isW; omega)).symm, rfl⟩
    · -- 9 F
      refine j_iload0 C dX9_isWord_12 ?_
      refine j_bipush C (by decide) dX9_isWord_13 ?_
      refine j_icmp_eq C ⟨by omega, by omega⟩ ⟨by omega, by omega⟩ dX9_isWord_15 (fun hc15 => ?_) (fun hc15 => ?_)
      · -- 15 T
        refine j_iconst C dX9_isWord_54 ?_
        refine j_goto C dX9_isWord_55 ?_
        refine j_zret C hrt dX9_isWord_59 (by first | exact Or.inl rfl | exact Or.inr rfl | exact bI_01 _) ?_
        first | exact ⟨(bI_t (by unfold isW; omega)).symm, rfl⟩ | exact ⟨(bI_f (by unfold isW; omega)).symm, rfl⟩
      · -- 15 F
        refine j_iload0 C dX9_isWord_18 ?_
        refine j_bipush C (by decide) dX9_isWord_19 ?_
        refine j_icmp_eq C ⟨by omega, by omega⟩ ⟨by omega, by omega⟩ dX9_isWord_21 (fun hc21 => ?_) (fun hc21 => ?_)
        · -- 21 T
          refine j_iconst C dX9_isWord_54 ?_
          refine j_goto C dX9_isWord_55 ?_
          refine j_zret C hrt dX9_isWord_59 (by first | exact Or.inl rfl | exact Or.inr rfl | exact bI_01 _) ?_
          first | exact ⟨(bI_t (by unfold isW; omega)).symm, rfl⟩ | exact ⟨(bI_f (by unfold isW; omega)).symm, rfl⟩
        · -- 21 F
          refine j_iload0 C dX9_isWord_24 ?_
          refine j_bipush C (by decide) dX9_isWord_25 ?_
          refine j_icmp_eq C ⟨by omega, by omega⟩ ⟨by omega, by omega⟩ dX9_isWord_27 (fun hc27 => ?_) (fun hc27 => ?_)
          · -- 27 T
            refine j_iconst C dX9_isWord_54 ?_
            refine j_goto C dX9_isWord_55 ?_
            refine j_zret C hrt dX9_isWord_59 (by first | exact Or.inl rfl | exact Or.inr rfl | exact bI_01 _) ?_
            first | exact ⟨(bI_t (by unfold isW; omega)).symm, rfl⟩ | exact ⟨(bI_f (by unfold isW; omega)).symm, rfl⟩
          · -- 27 F
            refine j_iload0 C dX9_isWord_30 ?_
            refine j_bipush C (by decide) dX9_isWord_31 ?_
            refine j_icmp_eq C ⟨by omega, by omega⟩ ⟨by omega, by omega⟩ dX9_isWord_33 (fun hc33 => ?_) (fun hc33 => ?_)
            · -- 33 T
              refine j_iconst C dX9_isWord_54 ?_
              refine j_goto C dX9_isWord_55 ?_
              refine j_zret C hrt dX9_isWord_59 (by first | exact Or.inl rfl | exact Or.inr rfl | exact bI_01 _) ?_
              first | exact ⟨(bI_t (by unfold isW; omega)).symm, rfl⟩ | exact ⟨(bI_f (by unfold isW; omega)).symm, rfl⟩
            · -- 33 F
              refine j_iload0 C dX9_isWord_36 ?_
              refine j_bipush C (by decide) dX9_isWord_37 ?_
              refine j_icmp_eq C ⟨by omega, by omega⟩ ⟨by omega, by omega⟩ dX9_isWord_39 (fun hc39 => ?_) (fun hc39 => ?_)
              · -- 39 T
                refine j_iconst C dX9_isWord_54 ?_
                refine j_goto C dX9_isWord_55 ?_
                refine j_zret C hrt dX9_isWord_59 (by first | exact Or.inl rfl | exact Or.inr rfl | exact bI_01 _) ?_
                first | exact ⟨(bI_t (by unfold isW; omega)).symm, rfl⟩ | exact ⟨(bI_f (by unfold isW; omega)).symm, rfl⟩
              · -- 39 F
                refine j_iload0 C dX9_isWord_42 ?_
                refine j_bipush C (by decide) dX9_isWord_43 ?_
                refine j_icmp_eq C ⟨by omega, by omega⟩ ⟨by omega, by omega⟩ dX9_isWord_45 (fun hc45 => ?_) (fun hc45 => ?_)
                · -- 45 T
                  refine j_iconst C dX9_isWord_54 ?_
                  refine j_goto C dX9_isWord_55 ?_
                  refine j_zret C hrt dX9_isWord_59 (by first | exact Or.inl rfl | exact Or.inr rfl | exact bI_01 _) ?_
                  first | exact ⟨(bI_t (by unfold isW; omega)).symm, rfl⟩ | exact ⟨(bI_f (by unfold isW; omega)).symm, rfl⟩
                · -- 45 F
                  refine j_iload0 C dX9_isWord_48 ?_
                  refine j_bipush C (by decide) dX9_isWord_49 ?_
                  refine j_icmp_ne C ⟨by omega, by omega⟩ ⟨by omega, by omega⟩ dX9_isWord_51 (fun hc51 => ?_) (fun hc51 => ?_)
                  · -- 51 T
                    refine j_iconst C dX9_isWord_58 ?_
                    refine j_zret C hrt dX9_isWord_59 (by first | exact Or.inl rfl | exact Or.inr rfl | exact bI_01 _) ?_
                    first | exact ⟨(bI_t (by unfold isW; omega)).symm, rfl⟩ | exact ⟨(bI_f (by unfold isW; omega)).symm, rfl⟩
                  · -- 51 F
                    refine j_iconst C dX9_isWord_54 ?_
                    refine j_goto C dX9_isWord_55 ?_
                    refine j_zret C hrt dX9_isWord_59 (by first | exact Or.inl rfl | exact Or.inr rfl | exact bI_01 _) ?_
                    first | exact ⟨(bI_t (by unfold isW; omega)).symm, rfl⟩ | exact ⟨(bI_f (by unfold isW; omega)).symm, rfl⟩
set_option maxRecDepth 100000 in
set_option maxHeartbeats 4000000 in
theorem c_X9_readsCommand {Γ : Ga} {l : Launch} {ω : Wo} (hw : WM ω.2.1)  {m : Nat} (h17 : ω.1 243 17 = (m : Int)) (hm : m ≤ 20) {n h : Nat} (h15 : ω.1 243 15 = (n : Int)) (h16 : ω.1 243 16 = (h : Int)) (hn : n ≤ 60) (hh : h ≤ n) : CI Γ l yX9_readsCommand cX9_readsCommand 3 .boolean 2 [.ref (rl Γ 243)] ω (fun z ω' => RcP ω (ω.1 249) n h m z ω') := by
  refine Met.ofJ (k := 2) [some (.ref (rl Γ 243)), none, none] (by decide) rfl rfl rfl (fun p e s mm args below meth c C hrt => ?_)
  refine j_conv rfl rfl (NW_id ω).symm ?_
  refine j_iconst C dX9_readsCommand_0 ?_
  refine j_aload0 C dX9_readsCommand_1 ?_
  refine j_geti C fX9_236 at_243 rfl (by exact h17) dX9_readsCommand_2 (fun hr2 => ?_)
  try simp only [wf_same, wn_243_244, wn_243_245, wn_243_246, wn_243_247, wn_243_248, wn_243_249, wn_243_250, wn_243_251, wn_244_243, wn_244_245, wn_244_246, wn_244_247, wn_244_248, wn_244_249, wn_244_250, wn_244_251, wn_245_243, wn_245_244, wn_245_246, wn_245_247, wn_245_248, wn_245_249, wn_245_250, wn_245_251, wn_246_243, wn_246_244, wn_246_245, wn_246_247, wn_246_248, wn_246_249, wn_246_250, wn_246_251, wn_247_243, wn_247_244, wn_247_245, wn_247_246, wn_247_248, wn_247_249, wn_247_250, wn_247_251, wn_248_243, wn_248_244, wn_248_245, wn_248_246, wn_248_247, wn_248_249, wn_248_250, wn_248_251, wn_249_243, wn_249_244, wn_249_245, wn_249_246, wn_249_247, wn_249_248, wn_249_250, wn_249_251, wn_250_243, wn_250_244, wn_250_245, wn_250_246, wn_250_247, wn_250_248, wn_250_249, wn_250_251, wn_251_243, wn_251_244, wn_251_245, wn_251_246, wn_251_247, wn_251_248, wn_251_249, wn_251_250, NW_r3, NW_r5, NW_r4, NW_r9, up_same, Int.toNat_natCast] at hr2 ⊢
  refine j_imul C dX9_readsCommand_5 ?_
  refine j_conv rfl (cons_i (b := ((3 * m : Nat) : Int)) (by omega) _) rfl ?_
  refine j_istore1 C rfl dX9_readsCommand_6 ?_
  refine j_aload0 C dX9_readsCommand_7 ?_
  refine j_cVI0 C (c_X9_sign (n := n) (h := h) (by exact hw) (by exact h15) (by exact h16) hn hh) oX9_sign kX9_233 ⟨_, rfl, rfl⟩ at_243 ⟨by decide, by decide⟩ rfl (Nat.le_of_ble_eq_true rfl) ⟨by decide, by decide⟩ dX9_readsCommand_8 ?_
  rintro _ _ hz8 ⟨rfl, rfl⟩
  try simp only [wi_wf, wf_same, wf_wf, tM0, tM1, tM2, tM3, tM4, tM5, tM6, tB0, tB1, tB2, tB3, tB4, tB5, tB6, tL0, tL1, tL2, up_up, wn_243_244, wn_243_245, wn_243_246, wn_243_247, wn_243_248, wn_243_249, wn_243_250, wn_243_251, wn_244_243, wn_244_245, wn_244_246, wn_244_247, wn_244_248, wn_244_249, wn_244_250, wn_244_251, wn_245_243, wn_245_244, wn_245_246, wn_245_247, wn_245_248, wn_245_249, wn_245_250, wn_245_251, wn_246_243, wn_246_244, wn_246_245, wn_246_247, wn_246_248, wn_246_249, wn_246_250, wn_246_251, wn_247_243, wn_247_244, wn_247_245, wn_247_246, wn_247_248, wn_247_249, wn_247_250, wn_247_251, wn_248_243, wn_248_244, wn_248_245, wn_248_246, wn_248_247, wn_248_249, wn_248_250, wn_248_251, wn_249_243, wn_249_244, wn_249_245, wn_249_246, wn_249_247, wn_249_248, wn_249_250, wn_249_251, wn_250_243, wn_250_244, wn_250_245, wn_250_246, wn_250_247, wn_250_248, wn_250_249, wn_250_251, wn_251_243, wn_251_244, wn_251_245, wn_251_246, wn_251_247, wn_251_248, wn_251_249, wn_251_250, NW_3, NW_5, NW_r3, NW_r5, NW_r4, NW_r9, NW_NW, up_same, Int.toNat_natCast] at hz8 ⊢
  refine j_istore2 C rfl dX9_readsCommand_11 ?_
  refine j_aload0 C dX9_readsCommand_12 ?_
  refine j_dup C rfl dX9_readsCommand_13 ?_
  refine j_geti C fX9_236 at_243 rfl (by exact h17) dX9_readsCommand_14 (fun hr14 => ?_)
  try simp only [wf_same, wn_243_244, wn_243_245, wn_243_246, wn_243_247, wn_243_248, wn_243_249, wn_243_250, wn_243_251, wn_244_243, wn_244_245, wn_244_246, wn_244_247, wn_244_248, wn_244_249, wn_244_250, wn_244_251, wn_245_243, wn_245_244, wn_245_246, wn_245_247, wn_245_248, wn_245_249, wn_245_250, wn_245_251, wn_246_243, wn_246_244, wn_246_245, wn_246_247, wn_246_248, wn_246_249, wn_246_250, wn_246_251, wn_247_243, wn_247_244, wn_247_245, wn_247_246, wn_247_248, wn_247_249, wn_247_250, wn_247_251, wn_248_243, wn_248_244, wn_248_245, wn_248_246, wn_248_247, wn_248_249, wn_248_250, wn_248_251, wn_249_243, wn_249_244, wn_249_245, wn_249_246, wn_249_247, wn_249_248, wn_249_250, wn_249_251, wn_250_243, wn_250_244, wn_250_245, wn_250_246, wn_250_247, wn_250_248, wn_250_249, wn_250_251, wn_251_243, wn_251_244, wn_251_245, wn_251_246, wn_251_247, wn_251_248, wn_251_249, wn_251_250, NW_r3, NW_r5, NW_r4, NW_r9, up_same, Int.toNat_natCast] at hr14 ⊢
  refine j_iconst C dX9_readsCommand_17 ?_
  refine j_iadd C dX9_readsCommand_18 ?_
  refine j_putI C fX9_236 at_243 rfl ty_7_17 ⟨by omega, by omega⟩ dX9_readsCommand_19 ?_
  try simp only [wi_wf, wf_same, wf_wf, tM0, tM1, tM2, tM3, tM4, tM5, tM6, tB0, tB1, tB2, tB3, tB4, tB5, tB6, tL0, tL1, tL2, up_up, wn_243_244, wn_243_245, wn_243_246, wn_243_247, wn_243_248, wn_243_249, wn_243_250, wn_243_251, wn_244_243, wn_244_245, wn_244_246, wn_244_247, wn_244_248, wn_244_249, wn_244_250, wn_244_251, wn_245_243, wn_245_244, wn_245_246, wn_245_247, wn_245_248, wn_245_249, wn_245_250, wn_245_251, wn_246_243, wn_246_244, wn_246_245, wn_246_247, wn_246_248, wn_246_249, wn_246_250, wn_246_251, wn_247_243, wn_247_244, wn_247_245, wn_247_246, wn_247_248, wn_247_249, wn_247_250, wn_247_251, wn_248_243, wn_248_244, wn_248_245, wn_248_246, wn_248_247, wn_248_249, wn_248_250, wn_248_251, wn_249_243, wn_249_244, wn_249_245, wn_249_246, wn_249_247, wn_249_248, wn_249_250, wn_249_251, wn_250_243, wn_250_244, wn_250_245, wn_250_246, wn_250_247, wn_250_248, wn_250_249, wn_250_251, wn_251_243, wn_251_244, wn_251_245, wn_251_246, wn_251_247, wn_251_248, wn_251_249, wn_251_250, NW_3, NW_5, NW_r3, NW_r5, NW_r4, NW_r9, NW_NW, up_same, Int.toNat_natCast]
  refine j_aload0 C dX9_readsCommand_22 ?_
  refine j_getr C fX9_32 at_243 rfl hw.r14 dX9_readsCommand_23 ?_
  refine j_iload1 C dX9_readsCommand_26 ?_
  refine j_iload2 C dX9_readsCommand_27 ?_
  refine j_iast C at_250 ⟨rfl, rfl⟩ (N := 63) rfl (by decide) ⟨by omega, by omega⟩ ⟨by omega, by omega⟩ dX9_readsCommand_28 ?_
  try simp only [wi_wf, wf_same, wf_wf, tM0, tM1, tM2, tM3, tM4, tM5, tM6, tB0, tB1, tB2, tB3, tB4, tB5, tB6, tL0, tL1, tL2, up_up, wn_243_244, wn_243_245, wn_243_246, wn_243_247, wn_243_248, wn_243_249, wn_243_250, wn_243_251, wn_244_243, wn_244_245, wn_244_246, wn_244_247, wn_244_248, wn_244_249, wn_244_250, wn_244_251, wn_245_243, wn_245_244, wn_245_246, wn_245_247, wn_245_248, wn_245_249, wn_245_250, wn_245_251, wn_246_243, wn_246_244, wn_246_245, wn_246_247, wn_246_248, wn_246_249, wn_246_250, wn_246_251, wn_247_243, wn_247_244, wn_247_245, wn_247_246, wn_247_248, wn_247_249, wn_247_250, wn_247_251, wn_248_243, wn_248_244, wn_248_245, wn_248_246, wn_248_247, wn_248_249, wn_248_250, wn_248_251, wn_249_243, wn_249_244, wn_249_245, wn_249_246, wn_249_247, wn_249_248, wn_249_250, wn_249_251, wn_250_243, wn_250_244, wn_250_245, wn_250_246, wn_250_247, wn_250_248, wn_250_249, wn_250_251, wn_251_243, wn_251_244, wn_251_245, wn_251_246, wn_251_247, wn_251_248, wn_251_249, wn_251_250, NW_3, NW_5, NW_r3, NW_r5, NW_r4, NW_r9, NW_NW, up_same, Int.toNat_natCast]
  refine j_aload0 C dX9_readsCommand_29 ?_
  refine j_dup C rfl dX9_readsCommand_30 ?_
  refine j_geti C fX9_230 at_243 rfl (by exact h16) dX9_readsCommand_31 (fun hr31 => ?_)
  try simp only [wf_same, wn_243_244, wn_243_245, wn_243_246, wn_243_247, wn_243_248, wn_243_249, wn_243_250, wn_243_251, wn_244_243, wn_244_245, wn_244_246, wn_244_247, wn_244_248, wn_244_249, wn_244_250, wn_244_251, wn_245_243, wn_245_244, wn_245_246, wn_245_247, wn_245_248, wn_245_249, wn_245_250, wn_245_251, wn_246_243, wn_246_244, wn_246_245, wn_246_247, wn_246_248, wn_246_249, wn_246_250, wn_246_251, wn_247_243, wn_247_244, wn_247_245, wn_247_246, wn_247_248, wn_247_249, wn_247_250, wn_247_251, wn_248_243, wn_248_244, wn_248_245, wn_248_246, wn_248_247, wn_248_249, wn_248_250, wn_248_251, wn_249_243, wn_249_244, wn_249_245, wn_249_246, wn_249_247, wn_249_248, wn_249_250, wn_249_251, wn_250_243, wn_250_244, wn_250_245, wn_250_246, wn_250_247, wn_250_248, wn_250_249, wn_250_251, wn_251_243, wn_251_244, wn_251_245, wn_251_246, wn_251_247, wn_251_248, wn_251_249, wn_251_250, NW_r3, NW_r5, NW_r4, NW_r9, up_same, Int.toNat_natCast] at hr31 ⊢
  refine j_iload2 C dX9_readsCommand_34 ?_
  refine j_cSI1 C (c_X9_isWord ⟨by omega, by omega⟩) oX9_isWord kX9_239 ⟨by decide, by decide⟩ rfl (Nat.le_of_ble_eq_true rfl) ⟨by decide, by decide⟩ dX9_readsCommand_35 ?_
  rintro _ _ hz35 ⟨rfl, rfl⟩
  try simp only [wi_wf, wf_same, wf_wf, tM0, tM1, tM2, tM3, tM4, tM5, tM6, tB0, tB1, tB2, tB3, tB4, tB5, tB6, tL0, tL1, tL2, up_up, wn_243_244, wn_243_245, wn_243_246, wn_243_247, wn_243_248, wn_243_249, wn_243_250, wn_243_251, wn_244_243, wn_244_245, wn_244_246, wn_244_247, wn_244_248, wn_244_249, wn_244_250, wn_244_251, wn_245_243, wn_245_244, wn_245_246, wn_245_247, wn_245_248, wn_245_249, wn_245_250, wn_245_251, wn_246_243, wn_246_244, wn_246_245, wn_246_247, wn_246_248, wn_246_249, wn_246_250, wn_246_251, wn_247_243, wn_247_244, wn_247_245, wn_247_246, wn_247_248, wn_247_249, wn_247_250, wn_247_251, wn_248_243, wn_248_244, wn_248_245, wn_248_246, wn_248_247, wn_248_249, wn_248_250, wn_248_251, wn_249_243, wn_249_244, wn_249_245, wn_249_246, wn_249_247, wn_249_248, wn_249_250, wn_249_251, wn_250_243, wn_250_244, wn_250_245, wn_250_246, wn_250_247, wn_250_248, wn_250_249, wn_250_251, wn_251_243, wn_251_244, wn_251_245, wn_251_246, wn_251_247, wn_251_248, wn_251_249, wn_251_250, NW_3, NW_5, NW_r3, NW_r5, NW_r4, NW_r9, NW_NW, up_same, Int.toNat_natCast] at hz35 ⊢
  refine j_ifeqb C dX9_readsCommand_38 (fun hc38 => ?_) (fun hc38 => ?_)
  · -- 38 T
    refine j_iconst C dX9_readsCommand_41 ?_
    refine j_goto C dX9_readsCommand_42 ?_
    refine j_iadd C dX9_readsCommand_46 ?_
    refine j_putI C fX9_230 at_243 rfl ty_7_16 ⟨by omega, by omega⟩ dX9_readsCommand_47 ?_
    try simp only [wi_wf, wf_same, wf_wf, tM0, tM1, tM2, tM3, tM4, tM5, tM6, tB0, tB1, tB2, tB3, tB4, tB5, tB6, tL0, tL1, tL2, up_up, wn_243_244, wn_243_245, wn_243_246, wn_243_247, wn_243_248, wn_243_249, wn_243_250, wn_243_251, wn_244_243, wn_244_245, wn_244_246, wn_244_247, wn_244_248, wn_244_249, wn_244_250, wn_244_251, wn_245_243, wn_245_244, wn_245_246, wn_245_247, wn_245_248, wn_245_249, wn_245_250, wn_245_251, wn_246_243, wn_246_244, wn_246_245, wn_246_247, wn_246_248, wn_246_249, wn_246_250, wn_246_251, wn_247_243, wn_247_244, wn_247_245, wn_247_246, wn_247_248, wn_247_249, wn_247_250, wn_247_251, wn_248_243, wn_248_244, wn_248_245, wn_248_246, wn_248_247, wn_248_249, wn_248_250, wn_248_251, wn_249_243, wn_249_244, wn_249_245, wn_249_246, wn_249_247, wn_249_248, wn_249_250, wn_249_251, wn_250_243, wn_250_244, wn_250_245, wn_250_246, wn_250_247, wn_250_248, wn_250_249, wn_250_251, wn_251_243, wn_251_244, wn_251_245, wn_251_246, wn_251_247, wn_251_248, wn_251_249, wn_251_250, NW_3, NW_5, NW_r3, NW_r5, NW_r4, NW_r9, NW_NW, up_same, Int.toNat_natCast]
    refine j_iload2 C dX9_readsCommand_50 ?_
    have hcw := hc38
    rcases hc38 with hk | hk | hk | hk | hk | hk | hk | hk | hk
    · -- 51 case 109
      refine j_conv rfl (cons_i hk _) rfl ?_
      have hd : dOf (sgn (ω.1 249) n h) = 0 := by rw [hk]; rfl
      have e1 : num (ω.1 249) n 1 (h + 1) 0 0 = cN1 (ω.1 249) n h := by unfold cN1; rw [hd]; rfl
      have e2 : num (ω.1 249) n 0 (cN1 (ω.1 249) n h).1 0 0 = cN2 (ω.1 249) n h := by unfold cN2; rw [hd]; rfl
      have hl1 : h + 1 ≤ n := wd_lt hcw
      have hl2 : (cN1 (ω.1 249) n h).1 ≤ n := (num_rg _ _ _ _ hl1).1
      have hdg : dg2 (dOf (sgn (ω.1 249) n h)) = 0 := by rw [hd]; rfl
      refine j_lsw C (by decide) (by decide) (off := 114) (by decide) (tgt := 165) (by decide) dX9_readsCommand_51 ?_
      refine j_iload2 C dX9_readsCommand_165 ?_
      refine j_cSI1 C (c_X9_isWord ⟨by omega, by omega⟩) oX9_isWord kX9_239 ⟨by decide, by decide⟩ rfl (Nat.le_of_ble_eq_true rfl) ⟨by decide, by decide⟩ dX9_readsCommand_166 ?_
      rintro _ _ hz166 ⟨rfl, rfl⟩
      try simp only [wi_wf, wf_same, wf_wf, tM0, tM1, tM2, tM3, tM4, tM5, tM6, tB0, tB1, tB2, tB3, tB4, tB5, tB6, tL0, tL1, tL2, up_up, wn_243_244, wn_243_245, wn_243_246, wn_243_247, wn_243_248, wn_243_249, wn_243_250, wn_243_251, wn_244_243, wn_244_245, wn_244_246, wn_244_247, wn_244_248, wn_244_249, wn_244_250, wn_244_251, wn_245_243, wn_245_244, wn_245_246, wn_245_247, wn_245_248, wn_245_249, wn_245_250, wn_245_251, wn_246_243, wn_246_244, wn_246_245, wn_246_247, wn_246_248, wn_246_249, wn_246_250, wn_246_251, wn_247_243, wn_247_244, wn_247_245, wn_247_246, wn_247_248, wn_247_249, wn_247_250, wn_247_251, wn_248_243, wn_248_244, wn_248_245, wn_248_246, wn_248_247, wn_248_249, wn_248_250, wn_248_251, wn_249_243, wn_249_244, wn_249_245, wn_249_246, wn_249_247, wn_249_248, wn_249_250, wn_249_251, wn_250_243, wn_250_244, wn_250_245, wn_250_246, wn_250_247, wn_250_248, wn_250_249, wn_250_251, wn_251_243, wn_251_244, wn_251_245, wn_251_246, wn_251_247, wn_251_248, wn_251_249, wn_251_250, NW_3, NW_5, NW_r3, NW_r5, NW_r4, NW_r9, NW_NW, up_same, Int.toNat_natCast] at hz166 ⊢
      refine j_ifeqb C dX9_readsCommand_169 (fun hc169 => ?_) (fun hc169 => ?_)
      · -- 169 T
        refine j_aload0 C dX9_readsCommand_172 ?_
        refine j_iconst C dX9_readsCommand_173 ?_
        refine j_iload1 C dX9_readsCommand_174 ?_
        refine j_iconst C dX9_readsCommand_175 ?_
        refine j_iadd C dX9_readsCommand_176 ?_
        refine j_conv (S' := [.int (iI ((3 * m + 1 : Nat) : Int)), .int (iI ((1 : Nat) : Int)), .ref (rl Γ 243)]) rfl (cons_i (by omega) _) rfl ?_
        refine j_cVI2 C (c_X9_isNumber (n := n) (h := h + 1) (by exact hw) (by decide) (by omega) (by exact h15) rfl hn hl1) oX9_isNumber kX9_242 ⟨_, rfl, rfl⟩ at_243 ⟨by decide, by decide⟩ rfl (Nat.le_of_ble_eq_true rfl) ⟨by decide, by decide⟩ dX9_readsCommand_177 ?_
        rintro _ _ hz177 ⟨rfl, rfl⟩
        simp only [wi_wf, wf_same, wf_wf, tM0, tM1, tM2, tM3, tM4, tM5, tM6, tB0, tB1, tB2, tB3, tB4, tB5, tB6, tL0, tL1, tL2, up_up, wn_243_244, wn_243_245, wn_243_246, wn_243_247, wn_243_248, wn_243_249, wn_243_250, wn_243_251, wn_244_243, wn_244_245, wn_244_246, wn_244_247, wn_244_248, wn_244_249, wn_244_250, wn_244_251, wn_245_243, wn_245_244, wn_245_246, wn_245_247, wn_245_248, wn_245_249, wn_245_250, wn_245_251, wn_246_243, wn_246_244, wn_246_245, wn_246_247, wn_246_248, wn_246_249, wn_246_250, wn_246_251, wn_247_243, wn_247_244, wn_247_245, wn_247_246, wn_247_248, wn_247_249, wn_247_250, wn_247_251, wn_248_243, wn_248_244, wn_248_245, wn_248_246, wn_248_247, wn_248_249, wn_248_250, wn_248_251, wn_249_243, wn_249_244, wn_249_245, wn_249_246, wn_249_247, wn_249_248, wn_249_250, wn_249_251, wn_250_243, wn_250_244, wn_250_245, wn_250_246, wn_250_247, wn_250_248, wn_250_249, wn_250_251, wn_251_243, wn_251_244, wn_251_245, wn_251_246, wn_251_247, wn_251_248, wn_251_249, wn_251_250, NW_3, NW_5, NW_r3, NW_r5, NW_r4, NW_r9, NW_NW, up_same, Int.toNat_natCast, e1] at hz177 ⊢
        refine j_ifeqb C dX9_readsCommand_180 (fun hq1 => ?_) (fun hq1 => ?_)
        · -- 180 T
          refine j_iconst C dX9_readsCommand_183 ?_
          refine j_goto C dX9_readsCommand_184 ?_
          refine j_zret C hrt dX9_readsCommand_188 (by first | exact Or.inl rfl | exact Or.inr rfl | exact bI_01 _) ?_
          first
          | exact RcP.no (fun q => hc38 ((dOf_w _).mp q.1)) (cEnd_9 hc38) (fun y hy => by first | rw [up_ne _ _ (by omega), up_ne _ _ (by omega), up_ne _ _ (by omega)] | rw [up_ne _ _ (by omega), up_ne _ _ (by omega)] | rw [up_ne _ _ (by omega)])
          | exact RcP.ok ⟨(dOf_w _).mpr hcw, hq1, Or.inr hq2⟩ (cEnd_2 hcw hq1) (fun y hy => by first | rw [up_ne _ _ (by omega), up_ne _ _ (by omega), up_ne _ _ (by omega)] | rw [up_ne _ _ (by omega), up_ne _ _ (by omega)] | rw [up_ne _ _ (by omega)]) ⟨by first | rw [up_same] | rw [up_ne _ _ (by omega), up_same] | rw [up_ne _ _ (by omega), up_ne _ _ (by omega), up_same], by first | rw [up_same] | rw [up_ne _ _ (by omega), up_same] | rw [up_ne _ _ (by omega), up_ne _ _ (by omega), up_same], fun _ => by first | rw [up_same] | rw [up_ne _ _ (by omega), up_same] | rw [up_ne _ _ (by omega), up_ne _ _ (by omega), up_same]⟩
          | exact RcP.no (fun q => q.2.2.elim (fun r => absurd (r.symm.trans hdg) (by decide)) hq2) (cEnd_2 hcw hq1) (fun y hy => by first | rw [up_ne _ _ (by omega), up_ne _ _ (by omega), up_ne _ _ (by omega)] | rw [up_ne _ _ (by omega), up_ne _ _ (by omega)] | rw [up_ne _ _ (by omega)])
          | exact RcP.ok ⟨(dOf_w _).mpr hcw, hq1, Or.inl hdg⟩ ((cEnd_2 hcw hq1).trans (by rw [cN2_0 hdg])) (fun y hy => by first | rw [up_ne _ _ (by omega), up_ne _ _ (by omega), up_ne _ _ (by omega)] | rw [up_ne _ _ (by omega), up_ne _ _ (by omega)] | rw [up_ne _ _ (by omega)]) ⟨by first | rw [up_same] | rw [up_ne _ _ (by omega), up_same] | rw [up_ne _ _ (by omega), up_ne _ _ (by omega), up_same], by first | rw [up_same] | rw [up_ne _ _ (by omega), up_same] | rw [up_ne _ _ (by omega), up_ne _ _ (by omega), up_same], fun q => absurd hdg q⟩
          | exact RcP.no (fun q => hq1 q.2.1) (cEnd_1 hcw hq1) (fun y hy => by first | rw [up_ne _ _ (by omega), up_ne _ _ (by omega), up_ne _ _ (by omega)] | rw [up_ne _ _ (by omega), up_ne _ _ (by omega)] | rw [up_ne _ _ (by omega)])
          | (by_cases hq1 : 0 < (cN1 (ω.1 249) n h).2.2
             · rw [bI_t hq1]
               exact RcP.ok ⟨(dOf_w _).mpr hcw, hq1, Or.inl hdg⟩ ((cEnd_2 hcw hq1).trans (by rw [cN2_0 hdg])) (fun y hy => by first | rw [up_ne _ _ (by omega), up_ne _ _ (by omega), up_ne _ _ (by omega)] | rw [up_ne _ _ (by omega), up_ne _ _ (by omega)] | rw [up_ne _ _ (by omega)]) ⟨by first | rw [up_same] | rw [up_ne _ _ (by omega), up_same] | rw [up_ne _ _ (by omega), up_ne _ _ (by omega), up_same], by first | rw [up_same] | rw [up_ne _ _ (by omega), up_same] | rw [up_ne _ _ (by omega), up_ne _ _ (by omega), up_same], fun q => absurd hdg q⟩
             · rw [bI_f hq1]
               exact RcP.no (fun q => hq1 q.2.1) (cEnd_1 hcw hq1) (fun y hy => by first | rw [up_ne _ _ (by omega), up_ne _ _ (by omega), up_ne _ _ (by omega)] | rw [up_ne _ _ (by omega), up_ne _ _ (by omega)] | rw [up_ne _ _ (by omega)]))
        · -- 180 F
          refine j_iconst C dX9_readsCommand_187 ?_
          refine j_zret C hrt dX9_readsCommand_188 (by first | exact Or.inl rfl | exact Or.inr rfl | exact bI_01 _) ?_
          first
          | exact RcP.no (fun q => hc38 ((dOf_w _).mp q.1)) (cEnd_9 hc38) (fun y hy => by first | rw [up_ne _ _ (by omega), up_ne _ _ (by omega), up_ne _ _ (by omega)] | rw [up_ne _ _ (by omega), up_ne _ _ (by omega)] | rw [up_ne _ _ (by omega)])
          | exact RcP.ok ⟨(dOf_w _).mpr hcw, hq1, Or.inr hq2⟩ (cEnd_2 hcw hq1) (fun y hy => by first | rw [up_ne _ _ (by omega), up_ne _ _ (by omega), up_ne _ _ (by omega)] | rw [up_ne _ _ (by omega), up_ne _ _ (by omega)] | rw [up_ne _ _ (by omega)]) ⟨by first | rw [up_same] | rw [up_ne _ _ (by omega), up_same] | rw [up_ne _ _ (by omega), up_ne _ _ (by omega), up_same], by first | rw [up_same] | rw [up_ne _ _ (by omega), up_same] | rw [up_ne _ _ (by omega), up_ne _ _ (by omega), up_same], fun _ => by first | rw [up_same] | rw [up_ne _ _ (by omega), up_same] | rw [up_ne _ _ (by omega), up_ne _ _ (by omega), up_same]⟩
          | exact RcP.no (fun q => q.2.2.elim (fun r => absurd (r.symm.trans hdg) (by decide)) hq2) (cEnd_2 hcw hq1) (fun y hy => by first | rw [up_ne _ _ (by omega), up_ne _ _ (by omega), up_ne _ _ (by omega)] | rw [up_ne _ _ (by omega), up_ne _ _ (by omega)] | rw [up_ne _ _ (by omega)])
          | exact RcP.ok ⟨(dOf_w _).mpr hcw, hq1, Or.inl hdg⟩ ((cEnd_2 hcw hq1).trans (by rw [cN2_0 hdg])) (fun y hy => by first | rw [up_ne _ _ (by omega), up_ne _ _ (by omega), up_ne _ _ (by omega)] | rw [up_ne _ _ (by omega), up_ne _ _ (by omega)] | rw [up_ne _ _ (by omega)]) ⟨by first | rw [up_same] | rw [up_ne _ _ (by omega), up_same] | rw [up_ne _ _ (by omega), up_ne _ _ (by omega), up_same], by first | rw [up_same] | rw [up_ne _ _ (by omega), up_same] | rw [up_ne _ _ (by omega), up_ne _ _ (by omega), up_same], fun q => absurd hdg q⟩
          | exact RcP.no (fun q => hq1 q.2.1) (cEnd_1 hcw hq1) (fun y hy => by first | rw [up_ne _ _ (by omega), up_ne _ _ (by omega), up_ne _ _ (by omega)] | rw [up_ne _ _ (by omega), up_ne _ _ (by omega)] | rw [up_ne _ _ (by omega)])
          | (by_cases hq1 : 0 < (cN1 (ω.1 249) n h).2.2
             · rw [bI_t hq1]
               exact RcP.ok ⟨(dOf_w _).mpr hcw, hq1, Or.inl hdg⟩ ((cEnd_2 hcw hq1).trans (by rw [cN2_0 hdg])) (fun y hy => by first | rw [up_ne _ _ (by omega), up_ne _ _ (by omega), up_ne _ _ (by omega)] | rw [up_ne _ _ (by omega), up_ne _ _ (by omega)] | rw [up_ne _ _ (by omega)]) ⟨by first | rw [up_same] | rw [up_ne _ _ (by omega), up_same] | rw [up_ne _ _ (by omega), up_ne _ _ (by omega), up_same], by first | rw [up_same] | rw [up_ne _ _ (by omega), up_same] | rw [up_ne _ _ (by omega), up_ne _ _ (by omega), up_same], fun q => absurd hdg q⟩
             · rw [bI_f hq1]
               exact RcP.no (fun q => hq1 q.2.1) (cEnd_1 hcw hq1) (fun y hy => by first | rw [up_ne _ _ (by omega), up_ne _ _ (by omega), up_ne _ _ (by omega)] | rw [up_ne _ _ (by omega), up_ne _ _ (by omega)] | rw [up_ne _ _ (by omega)]))
      · -- 169 F
        exact absurd hcw hc169
    · -- 51 case 120
      refine j_conv rfl (cons_i hk _) rfl ?_
      have hd : dOf (sgn (ω.1 249) n h) = 1 := by rw [hk]; rfl
      have e1 : num (ω.1 249) n 1 (h + 1) 0 0 = cN1 (ω.1 249) n h := by unfold cN1; rw [hd]; rfl
      have e2 : num (ω.1 249) n 0 (cN1 (ω.1 249) n h).1 0 0 = cN2 (ω.1 249) n h := by unfold cN2; rw [hd]; rfl
      have hl1 : h + 1 ≤ n := wd_lt hcw
      have hl2 : (cN1 (ω.1 249) n h).1 ≤ n := (num_rg _ _ _ _ hl1).1
      have hdg : dg2 (dOf (sgn (ω.1 249) n h)) = 0 := by rw [hd]; rfl
      refine j_lsw C (by decide) (by decide) (off := 114) (by decide) (tgt := 165) (by decide) dX9_readsCommand_51 ?_
      refine j_iload2 C dX9_readsCommand_165 ?_
      refine j_cSI1 C (c_X9_isWord ⟨by omega, by omega⟩) oX9_isWord kX9_239 ⟨by decide, by decide⟩ rfl (Nat.le_of_ble_eq_true rfl) ⟨by decide, by decide⟩ dX9_readsCommand_166 ?_
      rintro _ _ hz166 ⟨rfl, rfl⟩
      try simp only [wi_wf, wf_same, wf_wf, tM0, tM1, tM2, tM3, tM4, tM5, tM6, tB0, tB1, tB2, tB3, tB4, tB5, tB6, tL0, tL1, tL2, up_up, wn_243_244, wn_243_245, wn_243_246, wn_243_247, wn_243_248, wn_243_249, wn_243_250, wn_243_251, wn_244_243, wn_244_245, wn_244_246, wn_244_247, wn_244_248, wn_244_249, wn_244_250, wn_244_251, wn_245_243, wn_245_244, wn_245_246, wn_245_247, wn_245_248, wn_245_249, wn_245_250, wn_245_251, wn_246_243, wn_246_244, wn_246_245, wn_246_247, wn_246_248, wn_246_249, wn_246_250, wn_246_251, wn_247_243, wn_247_244, wn_247_245, wn_247_246, wn_247_248, wn_247_249, wn_247_250, wn_247_251, wn_248_243, wn_248_244, wn_248_245, wn_248_246, wn_248_247, wn_248_249, wn_248_250, wn_248_251, wn_249_243, wn_249_244, wn_249_245, wn_249_246, wn_249_247, wn_249_248, wn_249_250, wn_249_251, wn_250_243, wn_250_244, wn_250_245, wn_250_246, wn_250_247, wn_250_248, wn_250_249, wn_250_251, wn_251_243, wn_251_244, wn_251_245, wn_251_246, wn_251_247, wn_251_248, wn_251_249, wn_251_250, NW_3, NW_5, NW_r3, NW_r5, NW_r4, NW_r9, NW_NW, up_same, Int.toNat_natCast] at hz166 ⊢
      refine j_ifeqb C dX9_readsCommand_169 (fun hc169 => ?_) (fun hc169 => ?_)
      · -- 169 T
        refine j_aload0 C dX9_readsCommand_172 ?_
        refine j_iconst C dX9_readsCommand_173 ?_
        refine j_iload1 C dX9_readsCommand_174 ?_
        refine j_iconst C dX9_readsCommand_175 ?_
        refine j_iadd C dX9_readsCommand_176 ?_
        refine j_conv (S' := [.int (iI ((3 * m + 1 : Nat) : Int)), .int (iI ((1 : Nat) : Int)), .ref (rl Γ 243)]) rfl (cons_i (by omega) _) rfl ?_
        refine j_cVI2 C (c_X9_isNumber (n := n) (h := h + 1) (by exact hw) (by decide) (by omega) (by exact h15) rfl hn hl1) oX9_isNumber kX9_242 ⟨_, rfl, rfl⟩ at_243 ⟨by decide, by decide⟩ rfl (Nat.le_of_ble_eq_true rfl) ⟨by decide, by decide⟩ dX9_readsCommand_177 ?_
        rintro _ _ hz177 ⟨rfl, rfl⟩
        simp only [wi_wf, wf_same, wf_wf, tM0, tM1, tM2, tM3, tM4, tM5, tM6, tB0, tB1, tB2, tB3, tB4, tB5, tB6, tL0, tL1, tL2, up_up, wn_243_244, wn_243_245, wn_243_246, wn_243_247, wn_243_248, wn_243_249, wn_243_250, wn_243_251, wn_244_243, wn_244_245, wn_244_246, wn_244_247, wn_244_248, wn_244_249, wn_244_250, wn_244_251, wn_245_243, wn_245_244, wn_245_246, wn_245_247, wn_245_248, wn_245_249, wn_245_250, wn_245_251, wn_246_243, wn_246_244, wn_246_245, wn_246_247, wn_246_248, wn_246_249, wn_246_250, wn_246_251, wn_247_243, wn_247_244, wn_247_245, wn_247_246, wn_247_248, wn_247_249, wn_247_250, wn_247_251, wn_248_243, wn_248_244, wn_248_245, wn_248_246, wn_248_247, wn_248_249, wn_248_250, wn_248_251, wn_249_243, wn_249_244, wn_249_245, wn_249_246, wn_249_247, wn_249_248, wn_249_250, wn_249_251, wn_250_243, wn_250_244, wn_250_245, wn_250_246, wn_250_247, wn_250_248, wn_250_249, wn_250_251, wn_251_243, wn_251_244, wn_251_245, wn_251_246, wn_251_247, wn_251_248, wn_251_249, wn_251_250, NW_3, NW_5, NW_r3, NW_r5, NW_r4, NW_r9, NW_NW, up_same, Int.toNat_natCast, e1] at hz177 ⊢
        refine j_ifeqb C dX9_readsCommand_180 (fun hq1 => ?_) (fun hq1 => ?_)
        · -- 180 T
          refine j_iconst C dX9_readsCommand_183 ?_
          refine j_goto C dX9_readsCommand_184 ?_
          refine j_zret C hrt dX9_readsCommand_188 (by first | exact Or.inl rfl | exact Or.inr rfl | exact bI_01 _) ?_
          first
          | exact RcP.no (fun q => hc38 ((dOf_w _).mp q.1)) (cEnd_9 hc38) (fun y hy => by first | rw [up_ne _ _ (by omega), up_ne _ _ (by omega), up_ne _ _ (by omega)] | rw [up_ne _ _ (by omega), up_ne _ _ (by omega)] | rw [up_ne _ _ (by omega)])
          | exact RcP.ok ⟨(dOf_w _).mpr hcw, hq1, Or.inr hq2⟩ (cEnd_2 hcw hq1) (fun y hy => by first | rw [up_ne _ _ (by omega), up_ne _ _ (by omega), up_ne _ _ (by omega)] | rw [up_ne _ _ (by omega), up_ne _ _ (by omega)] | rw [up_ne _ _ (by omega)]) ⟨by first | rw [up_same] | rw [up_ne _ _ (by omega), up_same] | rw [up_ne _ _ (by omega), up_ne _ _ (by omega), up_same], by first | rw [up_same] | rw [up_ne _ _ (by omega), up_same] | rw [up_ne _ _ (by omega), up_ne _ _ (by omega), up_same], fun _ => by first | rw [up_same] | rw [up_ne _ _ (by omega), up_same] | rw [up_ne _ _ (by omega), up_ne _ _ (by omega), up_same]⟩
          | exact RcP.no (fun q => q.2.2.elim (fun r => absurd (r.symm.trans hdg) (by decide)) hq2) (cEnd_2 hcw hq1) (fun y hy => by first | rw [up_ne _ _ (by omega), up_ne _ _ (by omega), up_ne _ _ (by omega)] | rw [up_ne _ _ (by omega), up_ne _ _ (by omega)] | rw [up_ne _ _ (by omega)])
          | exact RcP.ok ⟨(dOf_w _).mpr hcw, hq1, Or.inl hdg⟩ ((cEnd_2 hcw hq1).trans (by rw [cN2_0 hdg])) (fun y hy => by first | rw [up_ne _ _ (by omega), up_ne _ _ (by omega), up_ne _ _ (by omega)] | rw [up_ne _ _ (by omega), up_ne _ _ (by omega)] | rw [up_ne _ _ (by omega)]) ⟨by first | rw [up_same] | rw [up_ne _ _ (by omega), up_same] | rw [up_ne _ _ (by omega), up_ne _ _ (by omega), up_same], by first | rw [up_same] | rw [up_ne _ _ (by omega), up_same] | rw [up_ne _ _ (by omega), up_ne _ _ (by omega), up_same], fun q => absurd hdg q⟩
          | exact RcP.no (fun q => hq1 q.2.1) (cEnd_1 hcw hq1) (fun y hy => by first | rw [up_ne _ _ (by omega), up_ne _ _ (by omega), up_ne _ _ (by omega)] | rw [up_ne _ _ (by omega), up_ne _ _ (by omega)] | rw [up_ne _ _ (by omega)])
          | (by_cases hq1 : 0 < (cN1 (ω.1 249) n h).2.2
             · rw [bI_t hq1]
               exact RcP.ok ⟨(dOf_w _).mpr hcw, hq1, Or.inl hdg⟩ ((cEnd_2 hcw hq1).trans (by rw [cN2_0 hdg])) (fun y hy => by first | rw [up_ne _ _ (by omega), up_ne _ _ (by omega), up_ne _ _ (by omega)] | rw [up_ne _ _ (by omega), up_ne _ _ (by omega)] | rw [up_ne _ _ (by omega)]) ⟨by first | rw [up_same] | rw [up_ne _ _ (by omega), up_same] | rw [up_ne _ _ (by omega), up_ne _ _ (by omega), up_same], by first | rw [up_same] | rw [up_ne _ _ (by omega), up_same] | rw [up_ne _ _ (by omega), up_ne _ _ (by omega), up_same], fun q => absurd hdg q⟩
             · rw [bI_f hq1]
               exact RcP.no (fun q => hq1 q.2.1) (cEnd_1 hcw hq1) (fun y hy => by first | rw [up_ne _ _ (by omega), up_ne _ _ (by omega), up_ne _ _ (by omega)] | rw [up_ne _ _ (by omega), up_ne _ _ (by omega)] | rw [up_ne _ _ (by omega)]))
        · -- 180 F
          refine j_iconst C dX9_readsCommand_187 ?_
          refine j_zret C hrt dX9_readsCommand_188 (by first | exact Or.inl rfl | exact Or.inr rfl | exact bI_01 _) ?_
          first
          | exact RcP.no (fun q => hc38 ((dOf_w _).mp q.1)) (cEnd_9 hc38) (fun y hy => by first | rw [up_ne _ _ (by omega), up_ne _ _ (by omega), up_ne _ _ (by omega)] | rw [up_ne _ _ (by omega), up_ne _ _ (by omega)] | rw [up_ne _ _ (by omega)])
          | exact RcP.ok ⟨(dOf_w _).mpr hcw, hq1, Or.inr hq2⟩ (cEnd_2 hcw hq1) (fun y hy => by first | rw [up_ne _ _ (by omega), up_ne _ _ (by omega), up_ne _ _ (by omega)] | rw [up_ne _ _ (by omega), up_ne _ _ (by omega)] | rw [up_ne _ _ (by omega)]) ⟨by first | rw [up_same] | rw [up_ne _ _ (by omega), up_same] | rw [up_ne _ _ (by omega), up_ne _ _ (by omega), up_same], by first | rw [up_same] | rw [up_ne _ _ (by omega), up_same] | rw [up_ne _ _ (by omega), up_ne _ _ (by omega), up_same], fun _ => by first | rw [up_same] | rw [up_ne _ _ (by omega), up_same] | rw [up_ne _ _ (by omega), up_ne _ _ (by omega), up_same]⟩
          | exact RcP.no (fun q => q.2.2.elim (fun r => absurd (r.symm.trans hdg) (by decide)) hq2) (cEnd_2 hcw hq1) (fun y hy => by first | rw [up_ne _ _ (by omega), up_ne _ _ (by omega), up_ne _ _ (by omega)] | rw [up_ne _ _ (by omega), up_ne _ _ (by omega)] | rw [up_ne _ _ (by omega)])
          | exact RcP.ok ⟨(dOf_w _).mpr hcw, hq1, Or.inl hdg⟩ ((cEnd_2 hcw hq1).trans (by rw [cN2_0 hdg])) (fun y hy => by first | rw [up_ne _ _ (by omega), up_ne _ _ (by omega), up_ne _ _ (by omega)] | rw [up_ne _ _ (by omega), up_ne _ _ (by omega)] | rw [up_ne _ _ (by omega)]) ⟨by first | rw [up_same] | rw [up_ne _ _ (by omega), up_same] | rw [up_ne _ _ (by omega), up_ne _ _ (by omega), up_same], by first | rw [up_same] | rw [up_ne _ _ (by omega), up_same] | rw [up_ne _ _ (by omega), up_ne _ _ (by omega), up_same], fun q => absurd hdg q⟩
          | exact RcP.no (fun q => hq1 q.2.1) (cEnd_1 hcw hq1) (fun y hy => by first | rw [up_ne _ _ (by omega), up_ne _ _ (by omega), up_ne _ _ (by omega)] | rw [up_ne _ _ (by omega), up_ne _ _ (by omega)] | rw [up_ne _ _ (by omega)])
          | (by_cases hq1 : 0 < (cN1 (ω.1 249) n h).2.2
             · rw [bI_t hq1]
               exact RcP.ok ⟨(dOf_w _).mpr hcw, hq1, Or.inl hdg⟩ ((cEnd_2 hcw hq1).trans (by rw [cN2_0 hdg])) (fun y hy => by first | rw [up_ne _ _ (by omega), up_ne _ _ (by omega), up_ne _ _ (by omega)] | rw [up_ne _ _ (by omega), up_ne _ _ (by omega)] | rw [up_ne _ _ (by omega)]) ⟨by first | rw [up_same] | rw [up_ne _ _ (by omega), up_same] | rw [up_ne _ _ (by omega), up_ne _ _ (by omega), up_same], by first | rw [up_same] | rw [up_ne _ _ (by omega), up_same] | rw [up_ne _ _ (by omega), up_ne _ _ (by omega), up_same], fun q => absurd hdg q⟩
             · rw [bI_f hq1]
               exact RcP.no (fun q => hq1 q.2.1) (cEnd_1 hcw hq1) (fun y hy => by first | rw [up_ne _ _ (by omega), up_ne _ _ (by omega), up_ne _ _ (by omega)] | rw [up_ne _ _ (by omega), up_ne _ _ (by omega)] | rw [up_ne _ _ (by omega)]))
      · -- 169 F
        exact absurd hcw hc169
    · -- 51 case 117
      refine j_conv rfl (cons_i hk _) rfl ?_
      have hd : dOf (sgn (ω.1 249) n h) = 2 := by rw [hk]; rfl
      have e1 : num (ω.1 249) n 1 (h + 1) 0 0 = cN1 (ω.1 249) n h := by unfold cN1; rw [hd]; rfl
      have e2 : num (ω.1 249) n 0 (cN1 (ω.1 249) n h).1 0 0 = cN2 (ω.1 249) n h := by unfold cN2; rw [hd]; rfl
      have hl1 : h + 1 ≤ n := wd_lt hcw
      have hl2 : (cN1 (ω.1 249) n h).1 ≤ n := (num_rg _ _ _ _ hl1).1
      have hdg : dg2 (dOf (sgn (ω.1 249) n h)) = 0 := by rw [hd]; rfl
      refine j_lsw C (by decide) (by decide) (off := 114) (by decide) (tgt := 165) (by decide) dX9_readsCommand_51 ?_
      refine j_iload2 C dX9_readsCommand_165 ?_
      refine j_cSI1 C (c_X9_isWord ⟨by omega, by omega⟩) oX9_isWord kX9_239 ⟨by decide, by decide⟩ rfl (Nat.le_of_ble_eq_true rfl) ⟨by decide, by decide⟩ dX9_readsCommand_166 ?_
      rintro _ _ hz166 ⟨rfl, rfl⟩
      try simp only [wi_wf, wf_same, wf_wf, tM0, tM1, tM2, tM3, tM4, tM5, tM6, tB0, tB1, tB2, tB3, tB4, tB5, tB6, tL0, tL1, tL2, up_up, wn_243_244, wn_243_245, wn_243_246, wn_243_247, wn_243_248, wn_243_249, wn_243_250, wn_243_251, wn_244_243, wn_244_245, wn_244_246, wn_244_247, wn_244_248, wn_244_249, wn_244_250, wn_244_251, wn_245_243, wn_245_244, wn_245_246, wn_245_247, wn_245_248, wn_245_249, wn_245_250, wn_245_251, wn_246_243, wn_246_244, wn_246_245, wn_246_247, wn_246_248, wn_246_249, wn_246_250, wn_246_251, wn_247_243, wn_247_244, wn_247_245, wn_247_246, wn_247_248, wn_247_249, wn_247_250, wn_247_251, wn_248_243, wn_248_244, wn_248_245, wn_248_246, wn_248_247, wn_248_249, wn_248_250, wn_248_251, wn_249_243, wn_249_244, wn_249_245, wn_249_246, wn_249_247, wn_249_248, wn_249_250, wn_249_251, wn_250_243, wn_250_244, wn_250_245, wn_250_246, wn_250_247, wn_250_248, wn_250_249, wn_250_251, wn_251_243, wn_251_244, wn_251_245, wn_251_246, wn_251_247, wn_251_248, wn_251_249, wn_251_250, NW_3, NW_5, NW_r3, NW_r5, NW_r4, NW_r9, NW_NW, up_same, Int.toNat_natCast] at hz166 ⊢
      refine j_ifeqb C dX9_readsCommand_169 (fun hc169 => ?_) (fun hc169 => ?_)
      · -- 169 T
        refine j_aload0 C dX9_readsCommand_172 ?_
        refine j_iconst C dX9_readsCommand_173 ?_
        refine j_iload1 C dX9_readsCommand_174 ?_
        refine j_iconst C dX9_readsCommand_175 ?_
        refine j_iadd C dX9_readsCommand_176 ?_
        refine j_conv (S' := [.int (iI ((3 * m + 1 : Nat) : Int)), .int (iI ((1 : Nat) : Int)), .ref (rl Γ 243)]) rfl (cons_i (by omega) _) rfl ?_
        refine j_cVI2 C (c_X9_isNumber (n := n) (h := h + 1) (by exact hw) (by decide) (by omega) (by exact h15) rfl hn hl1) oX9_isNumber kX9_242 ⟨_, rfl, rfl⟩ at_243 ⟨by decide, by decide⟩ rfl (Nat.le_of_ble_eq_true rfl) ⟨by decide, by decide⟩ dX9_readsCommand_177 ?_
        rintro _ _ hz177 ⟨rfl, rfl⟩
        simp only [wi_wf, wf_same, wf_wf, tM0, tM1, tM2, tM3, tM4, tM5, tM6, tB0, tB1, tB2, tB3, tB4, tB5, tB6, tL0, tL1, tL2, up_up, wn_243_244, wn_243_245, wn_243_246, wn_243_247, wn_243_248, wn_243_249, wn_243_250, wn_243_251, wn_244_243, wn_244_245, wn_244_246, wn_244_247, wn_244_248, wn_244_249, wn_244_250, wn_244_251, wn_245_243, wn_245_244, wn_245_246, wn_245_247, wn_245_248, wn_245_249, wn_245_250, wn_245_251, wn_246_243, wn_246_244, wn_246_245, wn_246_247, wn_246_248, wn_246_249, wn_246_250, wn_246_251, wn_247_243, wn_247_244, wn_247_245, wn_247_246, wn_247_248, wn_247_249, wn_247_250, wn_247_251, wn_248_243, wn_248_244, wn_248_245, wn_248_246, wn_248_247, wn_248_249, wn_248_250, wn_248_251, wn_249_243, wn_249_244, wn_249_245, wn_249_246, wn_249_247, wn_249_248, wn_249_250, wn_249_251, wn_250_243, wn_250_244, wn_250_245, wn_250_246, wn_250_247, wn_250_248, wn_250_249, wn_250_251, wn_251_243, wn_251_244, wn_251_245, wn_251_246, wn_251_247, wn_251_248, wn_251_249, wn_251_250, NW_3, NW_5, NW_r3, NW_r5, NW_r4, NW_r9, NW_NW, up_same, Int.toNat_natCast, e1] at hz177 ⊢
        refine j_ifeqb C dX9_readsCommand_180 (fun hq1 => ?_) (fun hq1 => ?_)
        · -- 180 T
          refine j_iconst C dX9_readsCommand_183 ?_
          refine j_goto C dX9_readsCommand_184 ?_
          refine j_zret C hrt dX9_readsCommand_188 (by first | exact Or.inl rfl | exact Or.inr rfl | exact bI_01 _) ?_
          first
          | exact RcP.no (fun q => hc38 ((dOf_w _).mp q.1)) (cEnd_9 hc38) (fun y hy => by first | rw [up_ne _ _ (by omega), up_ne _ _ (by omega), up_ne _ _ (by omega)] | rw [up_ne _ _ (by omega), up_ne _ _ (by omega)] | rw [up_ne _ _ (by omega)])
          | exact RcP.ok ⟨(dOf_w _).mpr hcw, hq1, Or.inr hq2⟩ (cEnd_2 hcw hq1) (fun y hy => by first | rw [up_ne _ _ (by omega), up_ne _ _ (by omega), up_ne _ _ (by omega)] | rw [up_ne _ _ (by omega), up_ne _ _ (by omega)] | rw [up_ne _ _ (by omega)]) ⟨by first | rw [up_same] | rw [up_ne _ _ (by omega), up_same] | rw [up_ne _ _ (by omega), up_ne _ _ (by omega), up_same], by first | rw [up_same] | rw [up_ne _ _ (by omega), up_same] | rw [up_ne _ _ (by omega), up_ne _ _ (by omega), up_same], fun _ => by first | rw [up_same] | rw [up_ne _ _ (by omega), up_same] | rw [up_ne _ _ (by omega), up_ne _ _ (by omega), up_same]⟩
          | exact RcP.no (fun q => q.2.2.elim (fun r => absurd (r.symm.trans hdg) (by decide)) hq2) (cEnd_2 hcw hq1) (fun y hy => by first | rw [up_ne _ _ (by omega), up_ne _ _ (by omega), up_ne _ _ (by omega)] | rw [up_ne _ _ (by omega), up_ne _ _ (by omega)] | rw [up_ne _ _ (by omega)])
          | exact RcP.ok ⟨(dOf_w _).mpr hcw, hq1, Or.inl hdg⟩ ((cEnd_2 hcw hq1).trans (by rw [cN2_0 hdg])) (fun y hy => by first | rw [up_ne _ _ (by omega), up_ne _ _ (by omega), up_ne _ _ (by omega)] | rw [up_ne _ _ (by omega), up_ne _ _ (by omega)] | rw [up_ne _ _ (by omega)]) ⟨by first | rw [up_same] | rw [up_ne _ _ (by omega), up_same] | rw [up_ne _ _ (by omega), up_ne _ _ (by omega), up_same], by first | rw [up_same] | rw [up_ne _ _ (by omega), up_same] | rw [up_ne _ _ (by omega), up_ne _ _ (by omega), up_same], fun q => absurd hdg q⟩
          | exact RcP.no (fun q => hq1 q.2.1) (cEnd_1 hcw hq1) (fun y hy => by first | rw [up_ne _ _ (by omega), up_ne _ _ (by omega), up_ne _ _ (by omega)] | rw [up_ne _ _ (by omega), up_ne _ _ (by omega)] | rw [up_ne _ _ (by omega)])
          | (by_cases hq1 : 0 < (cN1 (ω.1 249) n h).2.2
             · rw [bI_t hq1]
               exact RcP.ok ⟨(dOf_w _).mpr hcw, hq1, Or.inl hdg⟩ ((cEnd_2 hcw hq1).trans (by rw [cN2_0 hdg])) (fun y hy => by first | rw [up_ne _ _ (by omega), up_ne _ _ (by omega), up_ne _ _ (by omega)] | rw [up_ne _ _ (by omega), up_ne _ _ (by omega)] | rw [up_ne _ _ (by omega)]) ⟨by first | rw [up_same] | rw [up_ne _ _ (by omega), up_same] | rw [up_ne _ _ (by omega), up_ne _ _ (by omega), up_same], by first | rw [up_same] | rw [up_ne _ _ (by omega), up_same] | rw [up_ne _ _ (by omega), up_ne _ _ (by omega), up_same], fun q => absurd hdg q⟩
             · rw [bI_f hq1]
               exact RcP.no (fun q => hq1 q.2.1) (cEnd_1 hcw hq1) (fun y hy => by first | rw [up_ne _ _ (by omega), up_ne _ _ (by omega), up_ne _ _ (by omega)] | rw [up_ne _ _ (by omega), up_ne _ _ (by omega)] | rw [up_ne _ _ (by omega)]))
        · -- 180 F
          refine j_iconst C dX9_readsCommand_187 ?_
          refine j_zret C hrt dX9_readsCommand_188 (by first | exact Or.inl rfl | exact Or.inr rfl | exact bI_01 _) ?_
          first
          | exact RcP.no (fun q => hc38 ((dOf_w _).mp q.1)) (cEnd_9 hc38) (fun y hy => by first | rw [up_ne _ _ (by omega), up_ne _ _ (by omega), up_ne _ _ (by omega)] | rw [up_ne _ _ (by omega), up_ne _ _ (by omega)] | rw [up_ne _ _ (by omega)])
          | exact RcP.ok ⟨(dOf_w _).mpr hcw, hq1, Or.inr hq2⟩ (cEnd_2 hcw hq1) (fun y hy => by first | rw [up_ne _ _ (by omega), up_ne _ _ (by omega), up_ne _ _ (by omega)] | rw [up_ne _ _ (by omega), up_ne _ _ (by omega)] | rw [up_ne _ _ (by omega)]) ⟨by first | rw [up_same] | rw [up_ne _ _ (by omega), up_same] | rw [up_ne _ _ (by omega), up_ne _ _ (by omega), up_same], by first | rw [up_same] | rw [up_ne _ _ (by omega), up_same] | rw [up_ne _ _ (by omega), up_ne _ _ (by omega), up_same], fun _ => by first | rw [up_same] | rw [up_ne _ _ (by omega), up_same] | rw [up_ne _ _ (by omega), up_ne _ _ (by omega), up_same]⟩
          | exact RcP.no (fun q => q.2.2.elim (fun r => absurd (r.symm.trans hdg) (by decide)) hq2) (cEnd_2 hcw hq1) (fun y hy => by first | rw [up_ne _ _ (by omega), up_ne _ _ (by omega), up_ne _ _ (by omega)] | rw [up_ne _ _ (by omega), up_ne _ _ (by omega)] | rw [up_ne _ _ (by omega)])
          | exact RcP.ok ⟨(dOf_w _).mpr hcw, hq1, Or.inl hdg⟩ ((cEnd_2 hcw hq1).trans (by rw [cN2_0 hdg])) (fun y hy => by first | rw [up_ne _ _ (by omega), up_ne _ _ (by omega), up_ne _ _ (by omega)] | rw [up_ne _ _ (by omega), up_ne _ _ (by omega)] | rw [up_ne _ _ (by omega)]) ⟨by first | rw [up_same] | rw [up_ne _ _ (by omega), up_same] | rw [up_ne _ _ (by omega), up_ne _ _ (by omega), up_same], by first | rw [up_same] | rw [up_ne _ _ (by omega), up_same] | rw [up_ne _ _ (by omega), up_ne _ _ (by omega), up_same], fun q => absurd hdg q⟩
          | exact RcP.no (fun q => hq1 q.2.1) (cEnd_1 hcw hq1) (fun y hy => by first | rw [up_ne _ _ (by omega), up_ne _ _ (by omega), up_ne _ _ (by omega)] | rw [up_ne _ _ (by omega), up_ne _ _ (by omega)] | rw [up_ne _ _ (by omega)])
          | (by_cases hq1 : 0 < (cN1 (ω.1 249) n h).2.2
             · rw [bI_t hq1]
               exact RcP.ok ⟨(dOf_w _).mpr hcw, hq1, Or.inl hdg⟩ ((cEnd_2 hcw hq1).trans (by rw [cN2_0 hdg])) (fun y hy => by first | rw [up_ne _ _ (by omega), up_ne _ _ (by omega), up_ne _ _ (by omega)] | rw [up_ne _ _ (by omega), up_ne _ _ (by omega)] | rw [up_ne _ _ (by omega)]) ⟨by first | rw [up_same] | rw [up_ne _ _ (by omega), up_same] | rw [up_ne _ _ (by omega), up_ne _ _ (by omega), up_same], by first | rw [up_same] | rw [up_ne _ _ (by omega), up_same] | rw [up_ne _ _ (by omega), up_ne _ _ (by omega), up_same], fun q => absurd hdg q⟩
             · rw [bI_f hq1]
               exact RcP.no (fun q => hq1 q.2.1) (cEnd_1 hcw hq1) (fun y hy => by first | rw [up_ne _ _ (by omega), up_ne _ _ (by omega), up_ne _ _ (by omega)] | rw [up_ne _ _ (by omega), up_ne _ _ (by omega)] | rw [up_ne _ _ (by omega)]))
      · -- 169 F
        exact absurd hcw hc169
    · -- 51 case 98
      refine j_conv rfl (cons_i hk _) rfl ?_
      have hd : dOf (sgn (ω.1 249) n h) = 3 := by rw [hk]; rfl
      have e1 : num (ω.1 249) n 1 (h + 1) 0 0 = cN1 (ω.1 249) n h := by unfold cN1; rw [hd]; rfl
      have e2 : num (ω.1 249) n 1 (cN1 (ω.1 249) n h).1 0 0 = cN2 (ω.1 249) n h := by unfold cN2; rw [hd]; rfl
      have hl1 : h + 1 ≤ n := wd_lt hcw
      have hl2 : (cN1 (ω.1 249) n h).1 ≤ n := (num_rg _ _ _ _ hl1).1
      have hdg : dg2 (dOf (sgn (ω.1 249) n h)) = 1 := by rw [hd]; rfl
      refine j_lsw C (by decide) (by decide) (off := 49) (by decide) (tgt := 100) (by decide) dX9_readsCommand_51 ?_
      refine j_aload0 C dX9_readsCommand_100 ?_
      refine j_iconst C dX9_readsCommand_101 ?_
      refine j_iload1 C dX9_readsCommand_102 ?_
      refine j_iconst C dX9_readsCommand_103 ?_
      refine j_iadd C dX9_readsCommand_104 ?_
      refine j_conv (S' := [.int (iI ((3 * m + 1 : Nat) : Int)), .int (iI ((1 : Nat) : Int)), .ref (rl Γ 243)]) rfl (cons_i (by omega) _) rfl ?_
      refine j_cVI2 C (c_X9_isNumber (n := n) (h := h + 1) (by exact hw) (by decide) (by omega) (by exact h15) rfl hn hl1) oX9_isNumber kX9_242 ⟨_, rfl, rfl⟩ at_243 ⟨by decide, by decide⟩ rfl (Nat.le_of_ble_eq_true rfl) ⟨by decide, by decide⟩ dX9_readsCommand_105 ?_
      rintro _ _ hz105 ⟨rfl, rfl⟩
      simp only [wi_wf, wf_same, wf_wf, tM0, tM1, tM2, tM3, tM4, tM5, tM6, tB0, tB1, tB2, tB3, tB4, tB5, tB6, tL0, tL1, tL2, up_up, wn_243_244, wn_243_245, wn_243_246, wn_243_247, wn_243_248, wn_243_249, wn_243_250, wn_243_251, wn_244_243, wn_244_245, wn_244_246, wn_244_247, wn_244_248, wn_244_249, wn_244_250, wn_244_251, wn_245_243, wn_245_244, wn_245_246, wn_245_247, wn_245_248, wn_245_249, wn_245_250, wn_245_251, wn_246_243, wn_246_244, wn_246_245, wn_246_247, wn_246_248, wn_246_249, wn_246_250, wn_246_251, wn_247_243, wn_247_244, wn_247_245, wn_247_246, wn_247_248, wn_247_249, wn_247_250, wn_247_251, wn_248_243, wn_248_244, wn_248_245, wn_248_246, wn_248_247, wn_248_249, wn_248_250, wn_248_251, wn_249_243, wn_249_244, wn_249_245, wn_249_246, wn_249_247, wn_249_248, wn_249_250, wn_249_251, wn_250_243, wn_250_244, wn_250_245, wn_250_246, wn_250_247, wn_250_248, wn_250_249, wn_250_251, wn_251_243, wn_251_244, wn_251_245, wn_251_246, wn_251_247, wn_251_248, wn_251_249, wn_251_250, NW_3, NW_5, NW_r3, NW_r5, NW_r4, NW_r9, NW_NW, up_same, Int.toNat_natCast, e1] at hz105 ⊢
      refine j_ifeqb C dX9_readsCommand_108 (fun hq1 => ?_) (fun hq1 => ?_)
      · -- 108 T
        refine j_aload0 C dX9_readsCommand_111 ?_
        refine j_iconst C dX9_readsCommand_112 ?_
        refine j_iload1 C dX9_readsCommand_113 ?_
        refine j_iconst C dX9_readsCommand_114 ?_
        refine j_iadd C dX9_readsCommand_115 ?_
        refine j_conv (S' := [.int (iI ((3 * m + 2 : Nat) : Int)), .int (iI ((1 : Nat) : Int)), .ref (rl Γ 243)]) rfl (cons_i (by omega) _) rfl ?_
        refine j_cVI2 C (c_X9_isNumber (n := n) (h := (cN1 (ω.1 249) n h).1) (by exact hw) (by decide) (by omega) (by exact h15) rfl hn hl2) oX9_isNumber kX9_242 ⟨_, rfl, rfl⟩ at_243 ⟨by decide, by decide⟩ rfl (Nat.le_of_ble_eq_true rfl) ⟨by decide, by decide⟩ dX9_readsCommand_116 ?_
        rintro _ _ hz116 ⟨rfl, rfl⟩
        simp only [wi_wf, wf_same, wf_wf, tM0, tM1, tM2, tM3, tM4, tM5, tM6, tB0, tB1, tB2, tB3, tB4, tB5, tB6, tL0, tL1, tL2, up_up, wn_243_244, wn_243_245, wn_243_246, wn_243_247, wn_243_248, wn_243_249, wn_243_250, wn_243_251, wn_244_243, wn_244_245, wn_244_246, wn_244_247, wn_244_248, wn_244_249, wn_244_250, wn_244_251, wn_245_243, wn_245_244, wn_245_246, wn_245_247, wn_245_248, wn_245_249, wn_245_250, wn_245_251, wn_246_243, wn_246_244, wn_246_245, wn_246_247, wn_246_248, wn_246_249, wn_246_250, wn_246_251, wn_247_243, wn_247_244, wn_247_245, wn_247_246, wn_247_248, wn_247_249, wn_247_250, wn_247_251, wn_248_243, wn_248_244, wn_248_245, wn_248_246, wn_248_247, wn_248_249, wn_248_250, wn_248_251, wn_249_243, wn_249_244, wn_249_245, wn_249_246, wn_249_247, wn_249_248, wn_249_250, wn_249_251, wn_250_243, wn_250_244, wn_250_245, wn_250_246, wn_250_247, wn_250_248, wn_250_249, wn_250_251, wn_251_243, wn_251_244, wn_251_245, wn_251_246, wn_251_247, wn_251_248, wn_251_249, wn_251_250, NW_3, NW_5, NW_r3, NW_r5, NW_r4, NW_r9, NW_NW, up_same, Int.toNat_natCast, e2] at hz116 ⊢
        refine j_ifeqb C dX9_readsCommand_119 (fun hq2 => ?_) (fun hq2 => ?_)
        · -- 119 T
          refine j_iconst C dX9_readsCommand_122 ?_
          refine j_goto C dX9_readsCommand_123 ?_
          refine j_zret C hrt dX9_readsCommand_127 (by first | exact Or.inl rfl | exact Or.inr rfl | exact bI_01 _) ?_
          first
          | exact RcP.no (fun q => hc38 ((dOf_w _).mp q.1)) (cEnd_9 hc38) (fun y hy => by first | rw [up_ne _ _ (by omega), up_ne _ _ (by omega), up_ne _ _ (by omega)] | rw [up_ne _ _ (by omega), up_ne _ _ (by omega)] | rw [up_ne _ _ (by omega)])
          | exact RcP.ok ⟨(dOf_w _).mpr hcw, hq1, Or.inr hq2⟩ (cEnd_2 hcw hq1) (fun y hy => by first | rw [up_ne _ _ (by omega), up_ne _ _ (by omega), up_ne _ _ (by omega)] | rw [up_ne _ _ (by omega), up_ne _ _ (by omega)] | rw [up_ne _ _ (by omega)]) ⟨by first | rw [up_same] | rw [up_ne _ _ (by omega), up_same] | rw [up_ne _ _ (by omega), up_ne _ _ (by omega), up_same], by first | rw [up_same] | rw [up_ne _ _ (by omega), up_same] | rw [up_ne _ _ (by omega), up_ne _ _ (by omega), up_same], fun _ => by first | rw [up_same] | rw [up_ne _ _ (by omega), up_same] | rw [up_ne _ _ (by omega), up_ne _ _ (by omega), up_same]⟩
          | exact RcP.no (fun q => q.2.2.elim (fun r => absurd (r.symm.trans hdg) (by decide)) hq2) (cEnd_2 hcw hq1) (fun y hy => by first | rw [up_ne _ _ (by omega), up_ne _ _ (by omega), up_ne _ _ (by omega)] | rw [up_ne _ _ (by omega), up_ne _ _ (by omega)] | rw [up_ne _ _ (by omega)])
          | exact RcP.ok ⟨(dOf_w _).mpr hcw, hq1, Or.inl hdg⟩ ((cEnd_2 hcw hq1).trans (by rw [cN2_0 hdg])) (fun y hy => by first | rw [up_ne _ _ (by omega), up_ne _ _ (by omega), up_ne _ _ (by omega)] | rw [up_ne _ _ (by omega), up_ne _ _ (by omega)] | rw [up_ne _ _ (by omega)]) ⟨by first | rw [up_same] | rw [up_ne _ _ (by omega), up_same] | rw [up_ne _ _ (by omega), up_ne _ _ (by omega), up_same], by first | rw [up_same] | rw [up_ne _ _ (by omega), up_same] | rw [up_ne _ _ (by omega), up_ne _ _ (by omega), up_same], fun q => absurd hdg q⟩
          | exact RcP.no (fun q => hq1 q.2.1) (cEnd_1 hcw hq1) (fun y hy => by first | rw [up_ne _ _ (by omega), up_ne _ _ (by omega), up_ne _ _ (by omega)] | rw [up_ne _ _ (by omega), up_ne _ _ (by omega)] | rw [up_ne _ _ (by omega)])
          | (by_cases hq1 : 0 < (cN1 (ω.1 249) n h).2.2
             · rw [bI_t hq1]
               exact RcP.ok ⟨(dOf_w _).mpr hcw, hq1, Or.inl hdg⟩ ((cEnd_2 hcw hq1).trans (by rw [cN2_0 hdg])) (fun y hy => by first | rw [up_ne _ _ (by omega), up_ne _ _ (by omega), up_ne _ _ (by omega)] | rw [up_ne _ _ (by omega), up_ne _ _ (by omega)] | rw [up_ne _ _ (by omega)]) ⟨by first | rw [up_same] | rw [up_ne _ _ (by omega), up_same] | rw [up_ne _ _ (by omega), up_ne _ _ (by omega), up_same], by first | rw [up_same] | rw [up_ne _ _ (by omega), up_same] | rw [up_ne _ _ (by omega), up_ne _ _ (by omega), up_same], fun q => absurd hdg q⟩
             · rw [bI_f hq1]
               exact RcP.no (fun q => hq1 q.2.1) (cEnd_1 hcw hq1) (fun y hy => by first | rw [up_ne _ _ (by omega), up_ne _ _ (by omega), up_ne _ _ (by omega)] | rw [up_ne _ _ (by omega), up_ne _ _ (by omega)] | rw [up_ne _ _ (by omega)]))
        · -- 119 F
          refine j_iconst C dX9_readsCommand_126 ?_
          refine j_zret C hrt dX9_readsCommand_127 (by first | exact Or.inl rfl | exact Or.inr rfl | exact bI_01 _) ?_
          first
          | exact RcP.no (fun q => hc38 ((dOf_w _).mp q.1)) (cEnd_9 hc38) (fun y hy => by first | rw [up_ne _ _ (by omega), up_ne _ _ (by omega), up_ne _ _ (by omega)] | rw [up_ne _ _ (by omega), up_ne _ _ (by omega)] | rw [up_ne _ _ (by omega)])
          | exact RcP.ok ⟨(dOf_w _).mpr hcw, hq1, Or.inr hq2⟩ (cEnd_2 hcw hq1) (fun y hy => by first | rw [up_ne _ _ (by omega), up_ne _ _ (by omega), up_ne _ _ (by omega)] | rw [up_ne _ _ (by omega), up_ne _ _ (by omega)] | rw [up_ne _ _ (by omega)]) ⟨by first | rw [up_same] | rw [up_ne _ _ (by omega), up_same] | rw [up_ne _ _ (by omega), up_ne _ _ (by omega), up_same], by first | rw [up_same] | rw [up_ne _ _ (by omega), up_same] | rw [up_ne _ _ (by omega), up_ne _ _ (by omega), up_same], fun _ => by first | rw [up_same] | rw [up_ne _ _ (by omega), up_same] | rw [up_ne _ _ (by omega), up_ne _ _ (by omega), up_same]⟩
          | exact RcP.no (fun q => q.2.2.elim (fun r => absurd (r.symm.trans hdg) (by decide)) hq2) (cEnd_2 hcw hq1) (fun y hy => by first | rw [up_ne _ _ (by omega), up_ne _ _ (by omega), up_ne _ _ (by omega)] | rw [up_ne _ _ (by omega), up_ne _ _ (by omega)] | rw [up_ne _ _ (by omega)])
          | exact RcP.ok ⟨(dOf_w _).mpr hcw, hq1, Or.inl hdg⟩ ((cEnd_2 hcw hq1).trans (by rw [cN2_0 hdg])) (fun y hy => by first | rw [up_ne _ _ (by omega), up_ne _ _ (by omega), up_ne _ _ (by omega)] | rw [up_ne _ _ (by omega), up_ne _ _ (by omega)] | rw [up_ne _ _ (by omega)]) ⟨by first | rw [up_same] | rw [up_ne _ _ (by omega), up_same] | rw [up_ne _ _ (by omega), up_ne _ _ (by omega), up_same], by first | rw [up_same] | rw [up_ne _ _ (by omega), up_same] | rw [up_ne _ _ (by omega), up_ne _ _ (by omega), up_same], fun q => absurd hdg q⟩
          | exact RcP.no (fun q => hq1 q.2.1) (cEnd_1 hcw hq1) (fun y hy => by first | rw [up_ne _ _ (by omega), up_ne _ _ (by omega), up_ne _ _ (by omega)] | rw [up_ne _ _ (by omega), up_ne _ _ (by omega)] | rw [up_ne _ _ (by omega)])
          | (by_cases hq1 : 0 < (cN1 (ω.1 249) n h).2.2
             · rw [bI_t hq1]
               exact RcP.ok ⟨(dOf_w _).mpr hcw, hq1, Or.inl hdg⟩ ((cEnd_2 hcw hq1).trans (by rw [cN2_0 hdg])) (fun y hy => by first | rw [up_ne _ _ (by omega), up_ne _ _ (by omega), up_ne _ _ (by omega)] | rw [up_ne _ _ (by omega), up_ne _ _ (by omega)] | rw [up_ne _ _ (by omega)]) ⟨by first | rw [up_same] | rw [up_ne _ _ (by omega), up_same] | rw [up_ne _ _ (by omega), up_ne _ _ (by omega), up_same], by first | rw [up_same] | rw [up_ne _ _ (by omega), up_same] | rw [up_ne _ _ (by omega), up_ne _ _ (by omega), up_same], fun q => absurd hdg q⟩
             · rw [bI_f hq1]
               exact RcP.no (fun q => hq1 q.2.1) (cEnd_1 hcw hq1) (fun y hy => by first | rw [up_ne _ _ (by omega), up_ne _ _ (by omega), up_ne _ _ (by omega)] | rw [up_ne _ _ (by omega), up_ne _ _ (by omega)] | rw [up_ne _ _ (by omega)]))
      · -- 108 F
        refine j_iconst C dX9_readsCommand_126 ?_
        refine j_zret C hrt dX9_readsCommand_127 (by first | exact Or.inl rfl | exact Or.inr rfl | exact bI_01 _) ?_
        first
        | exact RcP.no (fun q => hc38 ((dOf_w _).mp q.1)) (cEnd_9 hc38) (fun y hy => by first | rw [up_ne _ _ (by omega), up_ne _ _ (by omega), up_ne _ _ (by omega)] | rw [up_ne _ _ (by omega), up_ne _ _ (by omega)] | rw [up_ne _ _ (by omega)])
        | exact RcP.ok ⟨(dOf_w _).mpr hcw, hq1, Or.inr hq2⟩ (cEnd_2 hcw hq1) (fun y hy => by first | rw [up_ne _ _ (by omega), up_ne _ _ (by omega), up_ne _ _ (by omega)] | rw [up_ne _ _ (by omega), up_ne _ _ (by omega)] | rw [up_ne _ _ (by omega)]) ⟨by first | rw [up_same] | rw [up_ne _ _ (by omega), up_same] | rw [up_ne _ _ (by omega), up_ne _ _ (by omega), up_same], by first | rw [up_same] | rw [up_ne _ _ (by omega), up_same] | rw [up_ne _ _ (by omega), up_ne _ _ (by omega), up_same], fun _ => by first | rw [up_same] | rw [up_ne _ _ (by omega), up_same] | rw [up_ne _ _ (by omega), up_ne _ _ (by omega), up_same]⟩
        | exact RcP.no (fun q => q.2.2.elim (fun r => absurd (r.symm.trans hdg) (by decide)) hq2) (cEnd_2 hcw hq1) (fun y hy => by first | rw [up_ne _ _ (by omega), up_ne _ _ (by omega), up_ne _ _ (by omega)] | rw [up_ne _ _ (by omega), up_ne _ _ (by omega)] | rw [up_ne _ _ (by omega)])
        | exact RcP.ok ⟨(dOf_w _).mpr hcw, hq1, Or.inl hdg⟩ ((cEnd_2 hcw hq1).trans (by rw [cN2_0 hdg])) (fun y hy => by first | rw [up_ne _ _ (by omega), up_ne _ _ (by omega), up_ne _ _ (by omega)] | rw [up_ne _ _ (by omega), up_ne _ _ (by omega)] | rw [up_ne _ _ (by omega)]) ⟨by first | rw [up_same] | rw [up_ne _ _ (by omega), up_same] | rw [up_ne _ _ (by omega), up_ne _ _ (by omega), up_same], by first | rw [up_same] | rw [up_ne _ _ (by omega), up_same] | rw [up_ne _ _ (by omega), up_ne _ _ (by omega), up_same], fun q => absurd hdg q⟩
        | exact RcP.no (fun q => hq1 q.2.1) (cEnd_1 hcw hq1) (fun y hy => by first | rw [up_ne _ _ (by omega), up_ne _ _ (by omega), up_ne _ _ (by omega)] | rw [up_ne _ _ (by omega), up_ne _ _ (by omega)] | rw [up_ne _ _ (by omega)])
        | (by_cases hq1 : 0 < (cN1 (ω.1 249) n h).2.2
           · rw [bI_t hq1]
             exact RcP.ok ⟨(dOf_w _).mpr hcw, hq1, Or.inl hdg⟩ ((cEnd_2 hcw hq1).trans (by rw [cN2_0 hdg])) (fun y hy => by first | rw [up_ne _ _ (by omega), up_ne _ _ (by omega), up_ne _ _ (by omega)] | rw [up_ne _ _ (by omega), up_ne _ _ (by omega)] | rw [up_ne _ _ (by omega)]) ⟨by first | rw [up_same] | rw [up_ne _ _ (by omega), up_same] | rw [up_ne _ _ (by omega), up_ne _ _ (by omega), up_same], by first | rw [up_same] | rw [up_ne _ _ (by omega), up_same] | rw [up_ne _ _ (by omega), up_ne _ _ (by omega), up_same], fun q => absurd hdg q⟩
           · rw [bI_f hq1]
             exact RcP.no (fun q => hq1 q.2.1) (cEnd_1 hcw hq1) (fun y hy => by first | rw [up_ne _ _ (by omega), up_ne _ _ (by omega), up_ne _ _ (by omega)] | rw [up_ne _ _ (by omega), up_ne _ _ (by omega)] | rw [up_ne _ _ (by omega)]))
    · -- 51 case 99
      refine j_conv rfl (cons_i hk _) rfl ?_
      have hd : dOf (sgn (ω.1 249) n h) = 4 := by rw [hk]; rfl
      have e1 : num (ω.1 249) n 1 (h + 1) 0 0 = cN1 (ω.1 249) n h := by unfold cN1; rw [hd]; rfl
      have e2 : num (ω.1 249) n 1 (cN1 (ω.1 249) n h).1 0 0 = cN2 (ω.1 249) n h := by unfold cN2; rw [hd]; rfl
      have hl1 : h + 1 ≤ n := wd_lt hcw
      have hl2 : (cN1 (ω.1 249) n h).1 ≤ n := (num_rg _ _ _ _ hl1).1
      have hdg : dg2 (dOf (sgn (ω.1 249) n h)) = 1 := by rw [hd]; rfl
      refine j_lsw C (by decide) (by decide) (off := 49) (by decide) (tgt := 100) (by decide) dX9_readsCommand_51 ?_
      refine j_aload0 C dX9_readsCommand_100 ?_
      refine j_iconst C dX9_readsCommand_101 ?_
      refine j_iload1 C dX9_readsCommand_102 ?_
      refine j_iconst C dX9_readsCommand_103 ?_
      refine j_iadd C dX9_readsCommand_104 ?_
      refine j_conv (S' := [.int (iI ((3 * m + 1 : Nat) : Int)), .int (iI ((1 : Nat) : Int)), .ref (rl Γ 243)]) rfl (cons_i (by omega) _) rfl ?_
      refine j_cVI2 C (c_X9_isNumber (n := n) (h := h + 1) (by exact hw) (by decide) (by omega) (by exact h15) rfl hn hl1) oX9_isNumber kX9_242 ⟨_, rfl, rfl⟩ at_243 ⟨by decide, by decide⟩ rfl (Nat.le_of_ble_eq_true rfl) ⟨by decide, by decide⟩ dX9_readsCommand_105 ?_
      rintro _ _ hz105 ⟨rfl, rfl⟩
      simp only [wi_wf, wf_same, wf_wf, tM0, tM1, tM2, tM3, tM4, tM5, tM6, tB0, tB1, tB2, tB3, tB4, tB5, tB6, tL0, tL1, tL2, up_up, wn_243_244, wn_243_245, wn_243_246, wn_243_247, wn_243_248, wn_243_249, wn_243_250, wn_243_251, wn_244_243, wn_244_245, wn_244_246, wn_244_247, wn_244_248, wn_244_249, wn_244_250, wn_244_251, wn_245_243, wn_245_244, wn_245_246, wn_245_247, wn_245_248, wn_245_249, wn_245_250, wn_245_251, wn_246_243, wn_246_244, wn_246_245, wn_246_247, wn_246_248, wn_246_249, wn_246_250, wn_246_251, wn_247_243, wn_247_244, wn_247_245, wn_247_246, wn_247_248, wn_247_249, wn_247_250, wn_247_251, wn_248_243, wn_248_244, wn_248_245, wn_248_246, wn_248_247, wn_248_249, wn_248_250, wn_248_251, wn_249_243, wn_249_244, wn_249_245, wn_249_246, wn_249_247, wn_249_248, wn_249_250, wn_249_251, wn_250_243, wn_250_244, wn_250_245, wn_250_246, wn_250_247, wn_250_248, wn_250_249, wn_250_251, wn_251_243, wn_251_244, wn_251_245, wn_251_246, wn_251_247, wn_251_248, wn_251_249, wn_251_250, NW_3, NW_5, NW_r3, NW_r5, NW_r4, NW_r9, NW_NW, up_same, Int.toNat_natCast, e1] at hz105 ⊢
      refine j_ifeqb C dX9_readsCommand_108 (fun hq1 => ?_) (fun hq1 => ?_)
      · -- 108 T
        refine j_aload0 C dX9_readsCommand_111 ?_
        refine j_iconst C dX9_readsCommand_112 ?_
        refine j_iload1 C dX9_readsCommand_113 ?_
        refine j_iconst C dX9_readsCommand_114 ?_
        refine j_iadd C dX9_readsCommand_115 ?_
        refine j_conv (S' := [.int (iI ((3 * m + 2 : Nat) : Int)), .int (iI ((1 : Nat) : Int)), .ref (rl Γ 243)]) rfl (cons_i (by omega) _) rfl ?_
        refine j_cVI2 C (c_X9_isNumber (n := n) (h := (cN1 (ω.1 249) n h).1) (by exact hw) (by decide) (by omega) (by exact h15) rfl hn hl2) oX9_isNumber kX9_242 ⟨_, rfl, rfl⟩ at_243 ⟨by decide, by decide⟩ rfl (Nat.le_of_ble_eq_true rfl) ⟨by decide, by decide⟩ dX9_readsCommand_116 ?_
        rintro _ _ hz116 ⟨rfl, rfl⟩
        simp only [wi_wf, wf_same, wf_wf, tM0, tM1, tM2, tM3, tM4, tM5, tM6, tB0, tB1, tB2, tB3, tB4, tB5, tB6, tL0, tL1, tL2, up_up, wn_243_244, wn_243_245, wn_243_246, wn_243_247, wn_243_248, wn_243_249, wn_243_250, wn_243_251, wn_244_243, wn_244_245, wn_244_246, wn_244_247, wn_244_248, wn_244_249, wn_244_250, wn_244_251, wn_245_243, wn_245_244, wn_245_246, wn_245_247, wn_245_248, wn_245_249, wn_245_250, wn_245_251, wn_246_243, wn_246_244, wn_246_245, wn_246_247, wn_246_248, wn_246_249, wn_246_250, wn_246_251, wn_247_243, wn_247_244, wn_247_245, wn_247_246, wn_247_248, wn_247_249, wn_247_250, wn_247_251, wn_248_243, wn_248_244, wn_248_245, wn_248_246, wn_248_247, wn_248_249, wn_248_250, wn_248_251, wn_249_243, wn_249_244, wn_249_245, wn_249_246, wn_249_247, wn_249_248, wn_249_250, wn_249_251, wn_250_243, wn_250_244, wn_250_245, wn_250_246, wn_250_247, wn_250_248, wn_250_249, wn_250_251, wn_251_243, wn_251_244, wn_251_245, wn_251_246, wn_251_247, wn_251_248, wn_251_249, wn_251_250, NW_3, NW_5, NW_r3, NW_r5, NW_r4, NW_r9, NW_NW, up_same, Int.toNat_natCast, e2] at hz116 ⊢
        refine j_ifeqb C dX9_readsCommand_119 (fun hq2 => ?_) (fun hq2 => ?_)
        · -- 119 T
          refine j_iconst C dX9_readsCommand_122 ?_
          refine j_goto C dX9_readsCommand_123 ?_
          refine j_zret C hrt dX9_readsCommand_127 (by first | exact Or.inl rfl | exact Or.inr rfl | exact bI_01 _) ?_
          first
          | exact RcP.no (fun q => hc38 ((dOf_w _).mp q.1)) (cEnd_9 hc38) (fun y hy => by first | rw [up_ne _ _ (by omega), up_ne _ _ (by omega), up_ne _ _ (by omega)] | rw [up_ne _ _ (by omega), up_ne _ _ (by omega)] | rw [up_ne _ _ (by omega)])
          | exact RcP.ok ⟨(dOf_w _).mpr hcw, hq1, Or.inr hq2⟩ (cEnd_2 hcw hq1) (fun y hy => by first | rw [up_ne _ _ (by omega), up_ne _ _ (by omega), up_ne _ _ (by omega)] | rw [up_ne _ _ (by omega), up_ne _ _ (by omega)] | rw [up_ne _ _ (by omega)]) ⟨by first | rw [up_same] | rw [up_ne _ _ (by omega), up_same] | rw [up_ne _ _ (by omega), up_ne _ _ (by omega), up_same], by first | rw [up_same] | rw [up_ne _ _ (by omega), up_same] | rw [up_ne _ _ (by omega), up_ne _ _ (by omega), up_same], fun _ => by first | rw [up_same] | rw [up_ne _ _ (by omega), up_same] | rw [up_ne _ _ (by omega), up_ne _ _ (by omega), up_same]⟩
          | exact RcP.no (fun q => q.2.2.elim (fun r => absurd (r.symm.trans hdg) (by decide)) hq2) (cEnd_2 hcw hq1) (fun y hy => by first | rw [up_ne _ _ (by omega), up_ne _ _ (by omega), up_ne _ _ (by omega)] | rw [up_ne _ _ (by omega), up_ne _ _ (by omega)] | rw [up_ne _ _ (by omega)])
          | exact RcP.ok ⟨(dOf_w _).mpr hcw, hq1, Or.inl hdg⟩ ((cEnd_2 hcw hq1).trans (by rw [cN2_0 hdg])) (fun y hy => by first | rw [up_ne _ _ (by omega), up_ne _ _ (by omega), up_ne _ _ (by omega)] | rw [up_ne _ _ (by omega), up_ne _ _ (by omega)] | rw [up_ne _ _ (by omega)]) ⟨by first | rw [up_same] | rw [up_ne _ _ (by omega), up_same] | rw [up_ne _ _ (by omega), up_ne _ _ (by omega), up_same], by first | rw [up_same] | rw [up_ne _ _ (by omega), up_same] | rw [up_ne _ _ (by omega), up_ne _ _ (by omega), up_same], fun q => absurd hdg q⟩
          | exact RcP.no (fun q => hq1 q.2.1) (cEnd_1 hcw hq1) (fun y hy => by first | rw [up_ne _ _ (by omega), up_ne _ _ (by omega), up_ne _ _ (by omega)] | rw [up_ne _ _ (by omega), up_ne _ _ (by omega)] | rw [up_ne _ _ (by omega)])
          | (by_cases hq1 : 0 < (cN1 (ω.1 249) n h).2.2
             · rw [bI_t hq1]
               exact RcP.ok ⟨(dOf_w _).mpr hcw, hq1, Or.inl hdg⟩ ((cEnd_2 hcw hq1).trans (by rw [cN2_0 hdg])) (fun y hy => by first | rw [up_ne _ _ (by omega), up_ne _ _ (by omega), up_ne _ _ (by omega)] | rw [up_ne _ _ (by omega), up_ne _ _ (by omega)] | rw [up_ne _ _ (by omega)]) ⟨by first | rw [up_same] | rw [up_ne _ _ (by omega), up_same] | rw [up_ne _ _ (by omega), up_ne _ _ (by omega), up_same], by first | rw [up_same] | rw [up_ne _ _ (by omega), up_same] | rw [up_ne _ _ (by omega), up_ne _ _ (by omega), up_same], fun q => absurd hdg q⟩
             · rw [bI_f hq1]
               exact RcP.no (fun q => hq1 q.2.1) (cEnd_1 hcw hq1) (fun y hy => by first | rw [up_ne _ _ (by omega), up_ne _ _ (by omega), up_ne _ _ (by omega)] | rw [up_ne _ _ (by omega), up_ne _ _ (by omega)] | rw [up_ne _ _ (by omega)]))
        · -- 119 F
          refine j_iconst C dX9_readsCommand_126 ?_
          refine j_zret C hrt dX9_readsCommand_127 (by first | exact Or.inl rfl | exact Or.inr rfl | exact bI_01 _) ?_
          first
          | exact RcP.no (fun q => hc38 ((dOf_w _).mp q.1)) (cEnd_9 hc38) (fun y hy => by first | rw [up_ne _ _ (by omega), up_ne _ _ (by omega), up_ne _ _ (by omega)] | rw [up_ne _ _ (by omega), up_ne _ _ (by omega)] | rw [up_ne _ _ (by omega)])
          | exact RcP.ok ⟨(dOf_w _).mpr hcw, hq1, Or.inr hq2⟩ (cEnd_2 hcw hq1) (fun y hy => by first | rw [up_ne _ _ (by omega), up_ne _ _ (by omega), up_ne _ _ (by omega)] | rw [up_ne _ _ (by omega), up_ne _ _ (by omega)] | rw [up_ne _ _ (by omega)]) ⟨by first | rw [up_same] | rw [up_ne _ _ (by omega), up_same] | rw [up_ne _ _ (by omega), up_ne _ _ (by omega), up_same], by first | rw [up_same] | rw [up_ne _ _ (by omega), up_same] | rw [up_ne _ _ (by omega), up_ne _ _ (by omega), up_same], fun _ => by first | rw [up_same] | rw [up_ne _ _ (by omega), up_same] | rw [up_ne _ _ (by omega), up_ne _ _ (by omega), up_same]⟩
          | exact RcP.no (fun q => q.2.2.elim (fun r => absurd (r.symm.trans hdg) (by decide)) hq2) (cEnd_2 hcw hq1) (fun y hy => by first | rw [up_ne _ _ (by omega), up_ne _ _ (by omega), up_ne _ _ (by omega)] | rw [up_ne _ _ (by omega), up_ne _ _ (by omega)] | rw [up_ne _ _ (by omega)])
          | exact RcP.ok ⟨(dOf_w _).mpr hcw, hq1, Or.inl hdg⟩ ((cEnd_2 hcw hq1).trans (by rw [cN2_0 hdg])) (fun y hy => by first | rw [up_ne _ _ (by omega), up_ne _ _ (by omega), up_ne _ _ (by omega)] | rw [up_ne _ _ (by omega), up_ne _ _ (by omega)] | rw [up_ne _ _ (by omega)]) ⟨by first | rw [up_same] | rw [up_ne _ _ (by omega), up_same] | rw [up_ne _ _ (by omega), up_ne _ _ (by omega), up_same], by first | rw [up_same] | rw [up_ne _ _ (by omega), up_same] | rw [up_ne _ _ (by omega), up_ne _ _ (by omega), up_same], fun q => absurd hdg q⟩
          | exact RcP.no (fun q => hq1 q.2.1) (cEnd_1 hcw hq1) (fun y hy => by first | rw [up_ne _ _ (by omega), up_ne _ _ (by omega), up_ne _ _ (by omega)] | rw [up_ne _ _ (by omega), up_ne _ _ (by omega)] | rw [up_ne _ _ (by omega)])
          | (by_cases hq1 : 0 < (cN1 (ω.1 249) n h).2.2
             · rw [bI_t hq1]
               exact RcP.ok ⟨(dOf_w _).mpr hcw, hq1, Or.inl hdg⟩ ((cEnd_2 hcw hq1).trans (by rw [cN2_0 hdg])) (fun y hy => by first | rw [up_ne _ _ (by omega), up_ne _ _ (by omega), up_ne _ _ (by omega)] | rw [up_ne _ _ (by omega), up_ne _ _ (by omega)] | rw [up_ne _ _ (by omega)]) ⟨by first | rw [up_same] | rw [up_ne _ _ (by omega), up_same] | rw [up_ne _ _ (by omega), up_ne _ _ (by omega), up_same], by first | rw [up_same] | rw [up_ne _ _ (by omega), up_same] | rw [up_ne _ _ (by omega), up_ne _ _ (by omega), up_same], fun q => absurd hdg q⟩
             · rw [bI_f hq1]
               exact RcP.no (fun q => hq1 q.2.1) (cEnd_1 hcw hq1) (fun y hy => by first | rw [up_ne _ _ (by omega), up_ne _ _ (by omega), up_ne _ _ (by omega)] | rw [up_ne _ _ (by omega), up_ne _ _ (by omega)] | rw [up_ne _ _ (by omega)]))
      · -- 108 F
        refine j_iconst C dX9_readsCommand_126 ?_
        refine j_zret C hrt dX9_readsCommand_127 (by first | exact Or.inl rfl | exact Or.inr rfl | exact bI_01 _) ?_
        first
        | exact RcP.no (fun q => hc38 ((dOf_w _).mp q.1)) (cEnd_9 hc38) (fun y hy => by first | rw [up_ne _ _ (by omega), up_ne _ _ (by omega), up_ne _ _ (by omega)] | rw [up_ne _ _ (by omega), up_ne _ _ (by omega)] | rw [up_ne _ _ (by omega)])
        | exact RcP.ok ⟨(dOf_w _).mpr hcw, hq1, Or.inr hq2⟩ (cEnd_2 hcw hq1) (fun y hy => by first | rw [up_ne _ _ (by omega), up_ne _ _ (by omega), up_ne _ _ (by omega)] | rw [up_ne _ _ (by omega), up_ne _ _ (by omega)] | rw [up_ne _ _ (by omega)]) ⟨by first | rw [up_same] | rw [up_ne _ _ (by omega), up_same] | rw [up_ne _ _ (by omega), up_ne _ _ (by omega), up_same], by first | rw [up_same] | rw [up_ne _ _ (by omega), up_same] | rw [up_ne _ _ (by omega), up_ne _ _ (by omega), up_same], fun _ => by first | rw [up_same] | rw [up_ne _ _ (by omega), up_same] | rw [up_ne _ _ (by omega), up_ne _ _ (by omega), up_same]⟩
        | exact RcP.no (fun q => q.2.2.elim (fun r => absurd (r.symm.trans hdg) (by decide)) hq2) (cEnd_2 hcw hq1) (fun y hy => by first | rw [up_ne _ _ (by omega), up_ne _ _ (by omega), up_ne _ _ (by omega)] | rw [up_ne _ _ (by omega), up_ne _ _ (by omega)] | rw [up_ne _ _ (by omega)])
        | exact RcP.ok ⟨(dOf_w _).mpr hcw, hq1, Or.inl hdg⟩ ((cEnd_2 hcw hq1).trans (by rw [cN2_0 hdg])) (fun y hy => by first | rw [up_ne _ _ (by omega), up_ne _ _ (by omega), up_ne _ _ (by omega)] | rw [up_ne _ _ (by omega), up_ne _ _ (by omega)] | rw [up_ne _ _ (by omega)]) ⟨by first | rw [up_same] | rw [up_ne _ _ (by omega), up_same] | rw [up_ne _ _ (by omega), up_ne _ _ (by omega), up_same], by first | rw [up_same] | rw [up_ne _ _ (by omega), up_same] | rw [up_ne _ _ (by omega), up_ne _ _ (by omega), up_same], fun q => absurd hdg q⟩
        | exact RcP.no (fun q => hq1 q.2.1) (cEnd_1 hcw hq1) (fun y hy => by first | rw [up_ne _ _ (by omega), up_ne _ _ (by omega), up_ne _ _ (by omega)] | rw [up_ne _ _ (by omega), up_ne _ _ (by omega)] | rw [up_ne _ _ (by omega)])
        | (by_cases hq1 : 0 < (cN1 (ω.1 249) n h).2.2
           · rw [bI_t hq1]
             exact RcP.ok ⟨(dOf_w _).mpr hcw, hq1, Or.inl hdg⟩ ((cEnd_2 hcw hq1).trans (by rw [cN2_0 hdg])) (fun y hy => by first | rw [up_ne _ _ (by omega), up_ne _ _ (by omega), up_ne _ _ (by omega)] | rw [up_ne _ _ (by omega), up_ne _ _ (by omega)] | rw [up_ne _ _ (by omega)]) ⟨by first | rw [up_same] | rw [up_ne _ _ (by omega), up_same] | rw [up_ne _ _ (by omega), up_ne _ _ (by omega), up_same], by first | rw [up_same] | rw [up_ne _ _ (by omega), up_same] | rw [up_ne _ _ (by omega), up_ne _ _ (by omega), up_same], fun q => absurd hdg q⟩
           · rw [bI_f hq1]
             exact RcP.no (fun q => hq1 q.2.1) (cEnd_1 hcw hq1) (fun y hy => by first | rw [up_ne _ _ (by omega), up_ne _ _ (by omega), up_ne _ _ (by omega)] | rw [up_ne _ _ (by omega), up_ne _ _ (by omega)] | rw [up_ne _ _ (by omega)]))
    · -- 51 case 111
      refine j_conv rfl (cons_i hk _) rfl ?_
      have hd : dOf (sgn (ω.1 249) n h) = 5 := by rw [hk]; rfl
      have e1 : num (ω.1 249) n 1 (h + 1) 0 0 = cN1 (ω.1 249) n h := by unfold cN1; rw [hd]; rfl
      have e2 : num (ω.1 249) n 2 (cN1 (ω.1 249) n h).1 0 0 = cN2 (ω.1 249) n h := by unfold cN2; rw [hd]; rfl
      have hl1 : h + 1 ≤ n := wd_lt hcw
      have hl2 : (cN1 (ω.1 249) n h).1 ≤ n := (num_rg _ _ _ _ hl1).1
      have hdg : dg2 (dOf (sgn (ω.1 249) n h)) = 2 := by rw [hd]; rfl
      refine j_lsw C (by decide) (by decide) (off := 77) (by decide) (tgt := 128) (by decide) dX9_readsCommand_51 ?_
      refine j_aload0 C dX9_readsCommand_128 ?_
      refine j_iconst C dX9_readsCommand_129 ?_
      refine j_iload1 C dX9_readsCommand_130 ?_
      refine j_iconst C dX9_readsCommand_131 ?_
      refine j_iadd C dX9_readsCommand_132 ?_
      refine j_conv (S' := [.int (iI ((3 * m + 1 : Nat) : Int)), .int (iI ((1 : Nat) : Int)), .ref (rl Γ 243)]) rfl (cons_i (by omega) _) rfl ?_
      refine j_cVI2 C (c_X9_isNumber (n := n) (h := h + 1) (by exact hw) (by decide) (by omega) (by exact h15) rfl hn hl1) oX9_isNumber kX9_242 ⟨_, rfl, rfl⟩ at_243 ⟨by decide, by decide⟩ rfl (Nat.le_of_ble_eq_true rfl) ⟨by decide, by decide⟩ dX9_readsCommand_133 ?_
      rintro _ _ hz133 ⟨rfl, rfl⟩
      simp only [wi_wf, wf_same, wf_wf, tM0, tM1, tM2, tM3, tM4, tM5, tM6, tB0, tB1, tB2, tB3, tB4, tB5, tB6, tL0, tL1, tL2, up_up, wn_243_244, wn_243_245, wn_243_246, wn_243_247, wn_243_248, wn_243_249, wn_243_250, wn_243_251, wn_244_243, wn_244_245, wn_244_246, wn_244_247, wn_244_248, wn_244_249, wn_244_250, wn_244_251, wn_245_243, wn_245_244, wn_245_246, wn_245_247, wn_245_248, wn_245_249, wn_245_250, wn_245_251, wn_246_243, wn_246_244, wn_246_245, wn_246_247, wn_246_248, wn_246_249, wn_246_250, wn_246_251, wn_247_243, wn_247_244, wn_247_245, wn_247_246, wn_247_248, wn_247_249, wn_247_250, wn_247_251, wn_248_243, wn_248_244, wn_248_245, wn_248_246, wn_248_247, wn_248_249, wn_248_250, wn_248_251, wn_249_243, wn_249_244, wn_249_245, wn_249_246, wn_249_247, wn_249_248, wn_249_250, wn_249_251, wn_250_243, wn_250_244, wn_250_245, wn_250_246, wn_250_247, wn_250_248, wn_250_249, wn_250_251, wn_251_243, wn_251_244, wn_251_245, wn_251_246, wn_251_247, wn_251_248, wn_251_249, wn_251_250, NW_3, NW_5, NW_r3, NW_r5, NW_r4, NW_r9, NW_NW, up_same, Int.toNat_natCast, e1] at hz133 ⊢
      refine j_ifeqb C dX9_readsCommand_136 (fun hq1 => ?_) (fun hq1 => ?_)
      · -- 136 T
        refine j_aload0 C dX9_readsCommand_139 ?_
        refine j_iconst C dX9_readsCommand_140 ?_
        refine j_iload1 C dX9_readsCommand_141 ?_
        refine j_iconst C dX9_readsCommand_142 ?_
        refine j_iadd C dX9_readsCommand_143 ?_
        refine j_conv (S' := [.int (iI ((3 * m + 2 : Nat) : Int)), .int (iI ((2 : Nat) : Int)), .ref (rl Γ 243)]) rfl (cons_i (by omega) _) rfl ?_
        refine j_cVI2 C (c_X9_isNumber (n := n) (h := (cN1 (ω.1 249) n h).1) (by exact hw) (by decide) (by omega) (by exact h15) rfl hn hl2) oX9_isNumber kX9_242 ⟨_, rfl, rfl⟩ at_243 ⟨by decide, by decide⟩ rfl (Nat.le_of_ble_eq_true rfl) ⟨by decide, by decide⟩ dX9_readsCommand_144 ?_
        rintro _ _ hz144 ⟨rfl, rfl⟩
        simp only [wi_wf, wf_same, wf_wf, tM0, tM1, tM2, tM3, tM4, tM5, tM6, tB0, tB1, tB2, tB3, tB4, tB5, tB6, tL0, tL1, tL2, up_up, wn_243_244, wn_243_245, wn_243_246, wn_243_247, wn_243_248, wn_243_249, wn_243_250, wn_243_251, wn_244_243, wn_244_245, wn_244_246, wn_244_247, wn_244_248, wn_244_249, wn_244_250, wn_244_251, wn_245_243, wn_245_244, wn_245_246, wn_245_247, wn_245_248, wn_245_249, wn_245_250, wn_245_251, wn_246_243, wn_246_244, wn_246_245, wn_246_247, wn_246_248, wn_246_249, wn_246_250, wn_246_251, wn_247_243, wn_247_244, wn_247_245, wn_247_246, wn_247_248, wn_247_249, wn_247_250, wn_247_251, wn_248_243, wn_248_244, wn_248_245, wn_248_246, wn_248_247, wn_248_249, wn_248_250, wn_248_251, wn_249_243, wn_249_244, wn_249_245, wn_249_246, wn_249_247, wn_249_248, wn_249_250, wn_249_251, wn_250_243, wn_250_244, wn_250_245, wn_250_246, wn_250_247, wn_250_248, wn_250_249, wn_250_251, wn_251_243, wn_251_244, wn_251_245, wn_251_246, wn_251_247, wn_251_248, wn_251_249, wn_251_250, NW_3, NW_5, NW_r3, NW_r5, NW_r4, NW_r9, NW_NW, up_same, Int.toNat_natCast, e2] at hz144 ⊢
        refine j_ifeqb C dX9_readsCommand_147 (fun hq2 => ?_) (fun hq2 => ?_)
        · -- 147 T
          refine j_iconst C dX9_readsCommand_150 ?_
          refine j_goto C dX9_readsCommand_151 ?_
          refine j_zret C hrt dX9_readsCommand_155 (by first | exact Or.inl rfl | exact Or.inr rfl | exact bI_01 _) ?_
          first
          | exact RcP.no (fun q => hc38 ((dOf_w _).mp q.1)) (cEnd_9 hc38) (fun y hy => by first | rw [up_ne _ _ (by omega), up_ne _ _ (by omega), up_ne _ _ (by omega)] | rw [up_ne _ _ (by omega), up_ne _ _ (by omega)] | rw [up_ne _ _ (by omega)])
          | exact RcP.ok ⟨(dOf_w _).mpr hcw, hq1, Or.inr hq2⟩ (cEnd_2 hcw hq1) (fun y hy => by first | rw [up_ne _ _ (by omega), up_ne _ _ (by omega), up_ne _ _ (by omega)] | rw [up_ne _ _ (by omega), up_ne _ _ (by omega)] | rw [up_ne _ _ (by omega)]) ⟨by first | rw [up_same] | rw [up_ne _ _ (by omega), up_same] | rw [up_ne _ _ (by omega), up_ne _ _ (by omega), up_same], by first | rw [up_same] | rw [up_ne _ _ (by omega), up_same] | rw [up_ne _ _ (by omega), up_ne _ _ (by omega), up_same], fun _ => by first | rw [up_same] | rw [up_ne _ _ (by omega), up_same] | rw [up_ne _ _ (by omega), up_ne _ _ (by omega), up_same]⟩
          | exact RcP.no (fun q => q.2.2.elim (fun r => absurd (r.symm.trans hdg) (by decide)) hq2) (cEnd_2 hcw hq1) (fun y hy => by first | rw [up_ne _ _ (by omega), up_ne _ _ (by omega), up_ne _ _ (by omega)] | rw [up_ne _ _ (by omega), up_ne _ _ (by omega)] | rw [up_ne _ _ (by omega)])
          | exact RcP.ok ⟨(dOf_w _).mpr hcw, hq1, Or.inl hdg⟩ ((cEnd_2 hcw hq1).trans (by rw [cN2_0 hdg])) (fun y hy => by first | rw [up_ne _ _ (by omega), up_ne _ _ (by omega), up_ne _ _ (by omega)] | rw [up_ne _ _ (by omega), up_ne _ _ (by omega)] | rw [up_ne _ _ (by omega)]) ⟨by first | rw [up_same] | rw [up_ne _ _ (by omega), up_same] | rw [up_ne _ _ (by omega), up_ne _ _ (by omega), up_same], by first | rw [up_same] | rw [up_ne _ _ (by omega), up_same] | rw [up_ne _ _ (by omega), up_ne _ _ (by omega), up_same], fun q => absurd hdg q⟩
          | exact RcP.no (fun q => hq1 q.2.1) (cEnd_1 hcw hq1) (fun y hy => by first | rw [up_ne _ _ (by omega), up_ne _ _ (by omega), up_ne _ _ (by omega)] | rw [up_ne _ _ (by omega), up_ne _ _ (by omega)] | rw [up_ne _ _ (by omega)])
          | (by_cases hq1 : 0 < (cN1 (ω.1 249) n h).2.2
             · rw [bI_t hq1]
               exact RcP.ok ⟨(dOf_w _).mpr hcw, hq1, Or.inl hdg⟩ ((cEnd_2 hcw hq1).trans (by rw [cN2_0 hdg])) (fun y hy => by first | rw [up_ne _ _ (by omega), up_ne _ _ (by omega), up_ne _ _ (by omega)] | rw [up_ne _ _ (by omega), up_ne _ _ (by omega)] | rw [up_ne _ _ (by omega)]) ⟨by first | rw [up_same] | rw [up_ne _ _ (by omega), up_same] | rw [up_ne _ _ (by omega), up_ne _ _ (by omega), up_same], by first | rw [up_same] | rw [up_ne _ _ (by omega), up_same] | rw [up_ne _ _ (by omega), up_ne _ _ (by omega), up_same], fun q => absurd hdg q⟩
             · rw [bI_f hq1]
               exact RcP.no (fun q => hq1 q.2.1) (cEnd_1 hcw hq1) (fun y hy => by first | rw [up_ne _ _ (by omega), up_ne _ _ (by omega), up_ne _ _ (by omega)] | rw [up_ne _ _ (by omega), up_ne _ _ (by omega)] | rw [up_ne _ _ (by omega)]))
        · -- 147 F
          refine j_iconst C dX9_readsCommand_154 ?_
          refine j_zret C hrt dX9_readsCommand_155 (by first | exact Or.inl rfl | exact Or.inr rfl | exact bI_01 _) ?_
          first
          | exact RcP.no (fun q => hc38 ((dOf_w _).mp q.1)) (cEnd_9 hc38) (fun y hy => by first | rw [up_ne _ _ (by omega), up_ne _ _ (by omega), up_ne _ _ (by omega)] | rw [up_ne _ _ (by omega), up_ne _ _ (by omega)] | rw [up_ne _ _ (by omega)])
          | exact RcP.ok ⟨(dOf_w _).mpr hcw, hq1, Or.inr hq2⟩ (cEnd_2 hcw hq1) (fun y hy => by first | rw [up_ne _ _ (by omega), up_ne _ _ (by omega), up_ne _ _ (by omega)] | rw [up_ne _ _ (by omega), up_ne _ _ (by omega)] | rw [up_ne _ _ (by omega)]) ⟨by first | rw [up_same] | rw [up_ne _ _ (by omega), up_same] | rw [up_ne _ _ (by omega), up_ne _ _ (by omega), up_same], by first | rw [up_same] | rw [up_ne _ _ (by omega), up_same] | rw [up_ne _ _ (by omega), up_ne _ _ (by omega), up_same], fun _ => by first | rw [up_same] | rw [up_ne _ _ (by omega), up_same] | rw [up_ne _ _ (by omega), up_ne _ _ (by omega), up_same]⟩
          | exact RcP.no (fun q => q.2.2.elim (fun r => absurd (r.symm.trans hdg) (by decide)) hq2) (cEnd_2 hcw hq1) (fun y hy => by first | rw [up_ne _ _ (by omega), up_ne _ _ (by omega), up_ne _ _ (by omega)] | rw [up_ne _ _ (by omega), up_ne _ _ (by omega)] | rw [up_ne _ _ (by omega)])
          | exact RcP.ok ⟨(dOf_w _).mpr hcw, hq1, Or.inl hdg⟩ ((cEnd_2 hcw hq1).trans (by rw [cN2_0 hdg])) (fun y hy => by first | rw [up_ne _ _ (by omega), up_ne _ _ (by omega), up_ne _ _ (by omega)] | rw [up_ne _ _ (by omega), up_ne _ _ (by omega)] | rw [up_ne _ _ (by omega)]) ⟨by first | rw [up_same] | rw [up_ne _ _ (by omega), up_same] | rw [up_ne _ _ (by omega), up_ne _ _ (by omega), up_same], by first | rw [up_same] | rw [up_ne _ _ (by omega), up_same] | rw [up_ne _ _ (by omega), up_ne _ _ (by omega), up_same], fun q => absurd hdg q⟩
          | exact RcP.no (fun q => hq1 q.2.1) (cEnd_1 hcw hq1) (fun y hy => by first | rw [up_ne _ _ (by omega), up_ne _ _ (by omega), up_ne _ _ (by omega)] | rw [up_ne _ _ (by omega), up_ne _ _ (by omega)] | rw [up_ne _ _ (by omega)])
          | (by_cases hq1 : 0 < (cN1 (ω.1 249) n h).2.2
             · rw [bI_t hq1]
               exact RcP.ok ⟨(dOf_w _).mpr hcw, hq1, Or.inl hdg⟩ ((cEnd_2 hcw hq1).trans (by rw [cN2_0 hdg])) (fun y hy => by first | rw [up_ne _ _ (by omega), up_ne _ _ (by omega), up_ne _ _ (by omega)] | rw [up_ne _ _ (by omega), up_ne _ _ (by omega)] | rw [up_ne _ _ (by omega)]) ⟨by first | rw [up_same] | rw [up_ne _ _ (by omega), up_same] | rw [up_ne _ _ (by omega), up_ne _ _ (by omega), up_same], by first | rw [up_same] | rw [up_ne _ _ (by omega), up_same] | rw [up_ne _ _ (by omega), up_ne _ _ (by omega), up_same], fun q => absurd hdg q⟩
             · rw [bI_f hq1]
               exact RcP.no (fun q => hq1 q.2.1) (cEnd_1 hcw hq1) (fun y hy => by first | rw [up_ne _ _ (by omega), up_ne _ _ (by omega), up_ne _ _ (by omega)] | rw [up_ne _ _ (by omega), up_ne _ _ (by omega)] | rw [up_ne _ _ (by omega)]))
      · -- 136 F
        refine j_iconst C dX9_readsCommand_154 ?_
        refine j_zret C hrt dX9_readsCommand_155 (by first | exact Or.inl rfl | exact Or.inr rfl | exact bI_01 _) ?_
        first
        | exact RcP.no (fun q => hc38 ((dOf_w _).mp q.1)) (cEnd_9 hc38) (fun y hy => by first | rw [up_ne _ _ (by omega), up_ne _ _ (by omega), up_ne _ _ (by omega)] | rw [up_ne _ _ (by omega), up_ne _ _ (by omega)] | rw [up_ne _ _ (by omega)])
        | exact RcP.ok ⟨(dOf_w _).mpr hcw, hq1, Or.inr hq2⟩ (cEnd_2 hcw hq1) (fun y hy => by first | rw [up_ne _ _ (by omega), up_ne _ _ (by omega), up_ne _ _ (by omega)] | rw [up_ne _ _ (by omega), up_ne _ _ (by omega)] | rw [up_ne _ _ (by omega)]) ⟨by first | rw [up_same] | rw [up_ne _ _ (by omega), up_same] | rw [up_ne _ _ (by omega), up_ne _ _ (by omega), up_same], by first | rw [up_same] | rw [up_ne _ _ (by omega), up_same] | rw [up_ne _ _ (by omega), up_ne _ _ (by omega), up_same], fun _ => by first | rw [up_same] | rw [up_ne _ _ (by omega), up_same] | rw [up_ne _ _ (by omega), up_ne _ _ (by omega), up_same]⟩
        | exact RcP.no (fun q => q.2.2.elim (fun r => absurd (r.symm.trans hdg) (by decide)) hq2) (cEnd_2 hcw hq1) (fun y hy => by first | rw [up_ne _ _ (by omega), up_ne _ _ (by omega), up_ne _ _ (by omega)] | rw [up_ne _ _ (by omega), up_ne _ _ (by omega)] | rw [up_ne _ _ (by omega)])
        | exact RcP.ok ⟨(dOf_w _).mpr hcw, hq1, Or.inl hdg⟩ ((cEnd_2 hcw hq1).trans (by rw [cN2_0 hdg])) (fun y hy => by first | rw [up_ne _ _ (by omega), up_ne _ _ (by omega), up_ne _ _ (by omega)] | rw [up_ne _ _ (by omega), up_ne _ _ (by omega)] | rw [up_ne _ _ (by omega)]) ⟨by first | rw [up_same] | rw [up_ne _ _ (by omega), up_same] | rw [up_ne _ _ (by omega), up_ne _ _ (by omega), up_same], by first | rw [up_same] | rw [up_ne _ _ (by omega), up_same] | rw [up_ne _ _ (by omega), up_ne _ _ (by omega), up_same], fun q => absurd hdg q⟩
        | exact RcP.no (fun q => hq1 q.2.1) (cEnd_1 hcw hq1) (fun y hy => by first | rw [up_ne _ _ (by omega), up_ne _ _ (by omega), up_ne _ _ (by omega)] | rw [up_ne _ _ (by omega), up_ne _ _ (by omega)] | rw [up_ne _ _ (by omega)])
        | (by_cases hq1 : 0 < (cN1 (ω.1 249) n h).2.2
           · rw [bI_t hq1]
             exact RcP.ok ⟨(dOf_w _).mpr hcw, hq1, Or.inl hdg⟩ ((cEnd_2 hcw hq1).trans (by rw [cN2_0 hdg])) (fun y hy => by first | rw [up_ne _ _ (by omega), up_ne _ _ (by omega), up_ne _ _ (by omega)] | rw [up_ne _ _ (by omega), up_ne _ _ (by omega)] | rw [up_ne _ _ (by omega)]) ⟨by first | rw [up_same] | rw [up_ne _ _ (by omega), up_same] | rw [up_ne _ _ (by omega), up_ne _ _ (by omega), up_same], by first | rw [up_same] | rw [up_ne _ _ (by omega), up_same] | rw [up_ne _ _ (by omega), up_ne _ _ (by omega), up_same], fun q => absurd hdg q⟩
           · rw [bI_f hq1]
             exact RcP.no (fun q => hq1 q.2.1) (cEnd_1 hcw hq1) (fun y hy => by first | rw [up_ne _ _ (by omega), up_ne _ _ (by omega), up_ne _ _ (by omega)] | rw [up_ne _ _ (by omega), up_ne _ _ (by omega)] | rw [up_ne _ _ (by omega)]))
    · -- 51 case 103
      refine j_conv rfl (cons_i hk _) rfl ?_
      have hd : dOf (sgn (ω.1 249) n h) = 6 := by rw [hk]; rfl
      have e1 : num (ω.1 249) n 1 (h + 1) 0 0 = cN1 (ω.1 249) n h := by unfold cN1; rw [hd]; rfl
      have e2 : num (ω.1 249) n 0 (cN1 (ω.1 249) n h).1 0 0 = cN2 (ω.1 249) n h := by unfold cN2; rw [hd]; rfl
      have hl1 : h + 1 ≤ n := wd_lt hcw
      have hl2 : (cN1 (ω.1 249) n h).1 ≤ n := (num_rg _ _ _ _ hl1).1
      have hdg : dg2 (dOf (sgn (ω.1 249) n h)) = 0 := by rw [hd]; rfl
      refine j_lsw C (by decide) (by decide) (off := 114) (by decide) (tgt := 165) (by decide) dX9_readsCommand_51 ?_
      refine j_iload2 C dX9_readsCommand_165 ?_
      refine j_cSI1 C (c_X9_isWord ⟨by omega, by omega⟩) oX9_isWord kX9_239 ⟨by decide, by decide⟩ rfl (Nat.le_of_ble_eq_true rfl) ⟨by decide, by decide⟩ dX9_readsCommand_166 ?_
      rintro _ _ hz166 ⟨rfl, rfl⟩
      try simp only [wi_wf, wf_same, wf_wf, tM0, tM1, tM2, tM3, tM4, tM5, tM6, tB0, tB1, tB2, tB3, tB4, tB5, tB6, tL0, tL1, tL2, up_up, wn_243_244, wn_243_245, wn_243_246, wn_243_247, wn_243_248, wn_243_249, wn_243_250, wn_243_251, wn_244_243, wn_244_245, wn_244_246, wn_244_247, wn_244_248, wn_244_249, wn_244_250, wn_244_251, wn_245_243, wn_245_244, wn_245_246, wn_245_247, wn_245_248, wn_245_249, wn_245_250, wn_245_251, wn_246_243, wn_246_244, wn_246_245, wn_246_247, wn_246_248, wn_246_249, wn_246_250, wn_246_251, wn_247_243, wn_247_244, wn_247_245, wn_247_246, wn_247_248, wn_247_249, wn_247_250, wn_247_251, wn_248_243, wn_248_244, wn_248_245, wn_248_246, wn_248_247, wn_248_249, wn_248_250, wn_248_251, wn_249_243, wn_249_244, wn_249_245, wn_249_246, wn_249_247, wn_249_248, wn_249_250, wn_249_251, wn_250_243, wn_250_244, wn_250_245, wn_250_246, wn_250_247, wn_250_248, wn_250_249, wn_250_251, wn_251_243, wn_251_244, wn_251_245, wn_251_246, wn_251_247, wn_251_248, wn_251_249, wn_251_250, NW_3, NW_5, NW_r3, NW_r5, NW_r4, NW_r9, NW_NW, up_same, Int.toNat_natCast] at hz166 ⊢
      refine j_ifeqb C dX9_readsCommand_169 (fun hc169 => ?_) (fun hc169 => ?_)
      · -- 169 T
        refine j_aload0 C dX9_readsCommand_172 ?_
        refine j_iconst C dX9_readsCommand_173 ?_
        refine j_iload1 C dX9_readsCommand_174 ?_
        refine j_iconst C dX9_readsCommand_175 ?_
        refine j_iadd C dX9_readsCommand_176 ?_
        refine j_conv (S' := [.int (iI ((3 * m + 1 : Nat) : Int)), .int (iI ((1 : Nat) : Int)), .ref (rl Γ 243)]) rfl (cons_i (by omega) _) rfl ?_
        refine j_cVI2 C (c_X9_isNumber (n := n) (h := h + 1) (by exact hw) (by decide) (by omega) (by exact h15) rfl hn hl1) oX9_isNumber kX9_242 ⟨_, rfl, rfl⟩ at_243 ⟨by decide, by decide⟩ rfl (Nat.le_of_ble_eq_true rfl) ⟨by decide, by decide⟩ dX9_readsCommand_177 ?_
        rintro _ _ hz177 ⟨rfl, rfl⟩
        simp only [wi_wf, wf_same, wf_wf, tM0, tM1, tM2, tM3, tM4, tM5, tM6, tB0, tB1, tB2, tB3, tB4, tB5, tB6, tL0, tL1, tL2, up_up, wn_243_244, wn_243_245, wn_243_246, wn_243_247, wn_243_248, wn_243_249, wn_243_250, wn_243_251, wn_244_243, wn_244_245, wn_244_246, wn_244_247, wn_244_248, wn_244_249, wn_244_250, wn_244_251, wn_245_243, wn_245_244, wn_245_246, wn_245_247, wn_245_248, wn_245_249, wn_245_250, wn_245_251, wn_246_243, wn_246_244, wn_246_245, wn_246_247, wn_246_248, wn_246_249, wn_246_250, wn_246_251, wn_247_243, wn_247_244, wn_247_245, wn_247_246, wn_247_248, wn_247_249, wn_247_250, wn_247_251, wn_248_243, wn_248_244, wn_248_245, wn_248_246, wn_248_247, wn_248_249, wn_248_250, wn_248_251, wn_249_243, wn_249_244, wn_249_245, wn_249_246, wn_249_247, wn_249_248, wn_249_250, wn_249_251, wn_250_243, wn_250_244, wn_250_245, wn_250_246, wn_250_247, wn_250_248, wn_250_249, wn_250_251, wn_251_243, wn_251_244, wn_251_245, wn_251_246, wn_251_247, wn_251_248, wn_251_249, wn_251_250, NW_3, NW_5, NW_r3, NW_r5, NW_r4, NW_r9, NW_NW, up_same, Int.toNat_natCast, e1] at hz177 ⊢
        refine j_ifeqb C dX9_readsCommand_180 (fun hq1 => ?_) (fun hq1 => ?_)
        · -- 180 T
          refine j_iconst C dX9_readsCommand_183 ?_
          refine j_goto C dX9_readsCommand_184 ?_
          refine j_zret C hrt dX9_readsCommand_188 (by first | exact Or.inl rfl | exact Or.inr rfl | exact bI_01 _) ?_
          first
          | exact RcP.no (fun q => hc38 ((dOf_w _).mp q.1)) (cEnd_9 hc38) (fun y hy => by first | rw [up_ne _ _ (by omega), up_ne _ _ (by omega), up_ne _ _ (by omega)] | rw [up_ne _ _ (by omega), up_ne _ _ (by omega)] | rw [up_ne _ _ (by omega)])
          | exact RcP.ok ⟨(dOf_w _).mpr hcw, hq1, Or.inr hq2⟩ (cEnd_2 hcw hq1) (fun y hy => by first | rw [up_ne _ _ (by omega), up_ne _ _ (by omega), up_ne _ _ (by omega)] | rw [up_ne _ _ (by omega), up_ne _ _ (by omega)] | rw [up_ne _ _ (by omega)]) ⟨by first | rw [up_same] | rw [up_ne _ _ (by omega), up_same] | rw [up_ne _ _ (by omega), up_ne _ _ (by omega), up_same], by first | rw [up_same] | rw [up_ne _ _ (by omega), up_same] | rw [up_ne _ _ (by omega), up_ne _ _ (by omega), up_same], fun _ => by first | rw [up_same] | rw [up_ne _ _ (by omega), up_same] | rw [up_ne _ _ (by omega), up_ne _ _ (by omega), up_same]⟩
          | exact RcP.no (fun q => q.2.2.elim (fun r => absurd (r.symm.trans hdg) (by decide)) hq2) (cEnd_2 hcw hq1) (fun y hy => by first | rw [up_ne _ _ (by omega), up_ne _ _ (by omega), up_ne _ _ (by omega)] | rw [up_ne _ _ (by omega), up_ne _ _ (by omega)] | rw [up_ne _ _ (by omega)])
          | exact RcP.ok ⟨(dOf_w _).mpr hcw, hq1, Or.inl hdg⟩ ((cEnd_2 hcw hq1).trans (by rw [cN2_0 hdg])) (fun y hy => by first | rw [up_ne _ _ (by omega), up_ne _ _ (by omega), up_ne _ _ (by omega)] | rw [up_ne _ _ (by omega), up_ne _ _ (by omega)] | rw [up_ne _ _ (by omega)]) ⟨by first | rw [up_same] | rw [up_ne _ _ (by omega), up_same] | rw [up_ne _ _ (by omega), up_ne _ _ (by omega), up_same], by first | rw [up_same] | rw [up_ne _ _ (by omega), up_same] | rw [up_ne _ _ (by omega), up_ne _ _ (by omega), up_same], fun q => absurd hdg q⟩
          | exact RcP.no (fun q => hq1 q.2.1) (cEnd_1 hcw hq1) (fun y hy => by first | rw [up_ne _ _ (by omega), up_ne _ _ (by omega), up_ne _ _ (by omega)] | rw [up_ne _ _ (by omega), up_ne _ _ (by omega)] | rw [up_ne _ _ (by omega)])
          | (by_cases hq1 : 0 < (cN1 (ω.1 249) n h).2.2
             · rw [bI_t hq1]
               exact RcP.ok ⟨(dOf_w _).mpr hcw, hq1, Or.inl hdg⟩ ((cEnd_2 hcw hq1).trans (by rw [cN2_0 hdg])) (fun y hy => by first | rw [up_ne _ _ (by omega), up_ne _ _ (by omega), up_ne _ _ (by omega)] | rw [up_ne _ _ (by omega), up_ne _ _ (by omega)] | rw [up_ne _ _ (by omega)]) ⟨by first | rw [up_same] | rw [up_ne _ _ (by omega), up_same] | rw [up_ne _ _ (by omega), up_ne _ _ (by omega), up_same], by first | rw [up_same] | rw [up_ne _ _ (by omega), up_same] | rw [up_ne _ _ (by omega), up_ne _ _ (by omega), up_same], fun q => absurd hdg q⟩
             · rw [bI_f hq1]
               exact RcP.no (fun q => hq1 q.2.1) (cEnd_1 hcw hq1) (fun y hy => by first | rw [up_ne _ _ (by omega), up_ne _ _ (by omega), up_ne _ _ (by omega)] | rw [up_ne _ _ (by omega), up_ne _ _ (by omega)] | rw [up_ne _ _ (by omega)]))
        · -- 180 F
          refine j_iconst C dX9_readsCommand_187 ?_
          refine j_zret C hrt dX9_readsCommand_188 (by first | exact Or.inl rfl | exact Or.inr rfl | exact bI_01 _) ?_
          first
          | exact RcP.no (fun q => hc38 ((dOf_w _).mp q.1)) (cEnd_9 hc38) (fun y hy => by first | rw [up_ne _ _ (by omega), up_ne _ _ (by omega), up_ne _ _ (by omega)] | rw [up_ne _ _ (by omega), up_ne _ _ (by omega)] | rw [up_ne _ _ (by omega)])
          | exact RcP.ok ⟨(dOf_w _).mpr hcw, hq1, Or.inr hq2⟩ (cEnd_2 hcw hq1) (fun y hy => by first | rw [up_ne _ _ (by omega), up_ne _ _ (by omega), up_ne _ _ (by omega)] | rw [up_ne _ _ (by omega), up_ne _ _ (by omega)] | rw [up_ne _ _ (by omega)]) ⟨by first | rw [up_same] | rw [up_ne _ _ (by omega), up_same] | rw [up_ne _ _ (by omega), up_ne _ _ (by omega), up_same], by first | rw [up_same] | rw [up_ne _ _ (by omega), up_same] | rw [up_ne _ _ (by omega), up_ne _ _ (by omega), up_same], fun _ => by first | rw [up_same] | rw [up_ne _ _ (by omega), up_same] | rw [up_ne _ _ (by omega), up_ne _ _ (by omega), up_same]⟩
          | exact RcP.no (fun q => q.2.2.elim (fun r => absurd (r.symm.trans hdg) (by decide)) hq2) (cEnd_2 hcw hq1) (fun y hy => by first | rw [up_ne _ _ (by omega), up_ne _ _ (by omega), up_ne _ _ (by omega)] | rw [up_ne _ _ (by omega), up_ne _ _ (by omega)] | rw [up_ne _ _ (by omega)])
          | exact RcP.ok ⟨(dOf_w _).mpr hcw, hq1, Or.inl hdg⟩ ((cEnd_2 hcw hq1).trans (by rw [cN2_0 hdg])) (fun y hy => by first | rw [up_ne _ _ (by omega), up_ne _ _ (by omega), up_ne _ _ (by omega)] | rw [up_ne _ _ (by omega), up_ne _ _ (by omega)] | rw [up_ne _ _ (by omega)]) ⟨by first | rw [up_same] | rw [up_ne _ _ (by omega), up_same] | rw [up_ne _ _ (by omega), up_ne _ _ (by omega), up_same], by first | rw [up_same] | rw [up_ne _ _ (by omega), up_same] | rw [up_ne _ _ (by omega), up_ne _ _ (by omega), up_same], fun q => absurd hdg q⟩
          | exact RcP.no (fun q => hq1 q.2.1) (cEnd_1 hcw hq1) (fun y hy => by first | rw [up_ne _ _ (by omega), up_ne _ _ (by omega), up_ne _ _ (by omega)] | rw [up_ne _ _ (by omega), up_ne _ _ (by omega)] | rw [up_ne _ _ (by omega)])
          | (by_cases hq1 : 0 < (cN1 (ω.1 249) n h).2.2
             · rw [bI_t hq1]
               exact RcP.ok ⟨(dOf_w _).mpr hcw, hq1, Or.inl hdg⟩ ((cEnd_2 hcw hq1).trans (by rw [cN2_0 hdg])) (fun y hy => by first | rw [up_ne _ _ (by omega), up_ne _ _ (by omega), up_ne _ _ (by omega)] | rw [up_ne _ _ (by omega), up_ne _ _ (by omega)] | rw [up_ne _ _ (by omega)]) ⟨by first | rw [up_same] | rw [up_ne _ _ (by omega), up_same] | rw [up_ne _ _ (by omega), up_ne _ _ (by omega), up_same], by first | rw [up_same] | rw [up_ne _ _ (by omega), up_same] | rw [up_ne _ _ (by omega), up_ne _ _ (by omega), up_same], fun q => absurd hdg q⟩
             · rw [bI_f hq1]
               exact RcP.no (fun q => hq1 q.2.1) (cEnd_1 hcw hq1) (fun y hy => by first | rw [up_ne _ _ (by omega), up_ne _ _ (by omega), up_ne _ _ (by omega)] | rw [up_ne _ _ (by omega), up_ne _ _ (by omega)] | rw [up_ne _ _ (by omega)]))
      · -- 169 F
        exact absurd hcw hc169
    · -- 51 case 108
      refine j_conv rfl (cons_i hk _) rfl ?_
      have hd : dOf (sgn (ω.1 249) n h) = 7 := by rw [hk]; rfl
      have e1 : num (ω.1 249) n 2 (h + 1) 0 0 = cN1 (ω.1 249) n h := by unfold cN1; rw [hd]; rfl
      have e2 : num (ω.1 249) n 0 (cN1 (ω.1 249) n h).1 0 0 = cN2 (ω.1 249) n h := by unfold cN2; rw [hd]; rfl
      have hl1 : h + 1 ≤ n := wd_lt hcw
      have hl2 : (cN1 (ω.1 249) n h).1 ≤ n := (num_rg _ _ _ _ hl1).1
      have hdg : dg2 (dOf (sgn (ω.1 249) n h)) = 0 := by rw [hd]; rfl
      refine j_lsw C (by decide) (by decide) (off := 105) (by decide) (tgt := 156) (by decide) dX9_readsCommand_51 ?_
      refine j_aload0 C dX9_readsCommand_156 ?_
      refine j_iconst C dX9_readsCommand_157 ?_
      refine j_iload1 C dX9_readsCommand_158 ?_
      refine j_iconst C dX9_readsCommand_159 ?_
      refine j_iadd C dX9_readsCommand_160 ?_
      refine j_conv (S' := [.int (iI ((3 * m + 1 : Nat) : Int)), .int (iI ((2 : Nat) : Int)), .ref (rl Γ 243)]) rfl (cons_i (by omega) _) rfl ?_
      refine j_cVI2 C (c_X9_isNumber (n := n) (h := h + 1) (by exact hw) (by decide) (by omega) (by exact h15) rfl hn hl1) oX9_isNumber kX9_242 ⟨_, rfl, rfl⟩ at_243 ⟨by decide, by decide⟩ rfl (Nat.le_of_ble_eq_true rfl) ⟨by decide, by decide⟩ dX9_readsCommand_161 ?_
      rintro _ _ hz161 ⟨rfl, rfl⟩
      simp only [wi_wf, wf_same, wf_wf, tM0, tM1, tM2, tM3, tM4, tM5, tM6, tB0, tB1, tB2, tB3, tB4, tB5, tB6, tL0, tL1, tL2, up_up, wn_243_244, wn_243_245, wn_243_246, wn_243_247, wn_243_248, wn_243_249, wn_243_250, wn_243_251, wn_244_243, wn_244_245, wn_244_246, wn_244_247, wn_244_248, wn_244_249, wn_244_250, wn_244_251, wn_245_243, wn_245_244, wn_245_246, wn_245_247, wn_245_248, wn_245_249, wn_245_250, wn_245_251, wn_246_243, wn_246_244, wn_246_245, wn_246_247, wn_246_248, wn_246_249, wn_246_250, wn_246_251, wn_247_243, wn_247_244, wn_247_245, wn_247_246, wn_247_248, wn_247_249, wn_247_250, wn_247_251, wn_248_243, wn_248_244, wn_248_245, wn_248_246, wn_248_247, wn_248_249, wn_248_250, wn_248_251, wn_249_243, wn_249_244, wn_249_245, wn_249_246, wn_249_247, wn_249_248, wn_249_250, wn_249_251, wn_250_243, wn_250_244, wn_250_245, wn_250_246, wn_250_247, wn_250_248, wn_250_249, wn_250_251, wn_251_243, wn_251_244, wn_251_245, wn_251_246, wn_251_247, wn_251_248, wn_251_249, wn_251_250, NW_3, NW_5, NW_r3, NW_r5, NW_r4, NW_r9, NW_NW, up_same, Int.toNat_natCast, e1] at hz161 ⊢
      refine j_zret C hrt dX9_readsCommand_164 (by first | exact Or.inl rfl | exact Or.inr rfl | exact bI_01 _) ?_
      first
      | exact RcP.no (fun q => hc38 ((dOf_w _).mp q.1)) (cEnd_9 hc38) (fun y hy => by first | rw [up_ne _ _ (by omega), up_ne _ _ (by omega), up_ne _ _ (by omega)] | rw [up_ne _ _ (by omega), up_ne _ _ (by omega)] | rw [up_ne _ _ (by omega)])
      | exact RcP.ok ⟨(dOf_w _).mpr hcw, hq1, Or.inr hq2⟩ (cEnd_2 hcw hq1) (fun y hy => by first | rw [up_ne _ _ (by omega), up_ne _ _ (by omega), up_ne _ _ (by omega)] | rw [up_ne _ _ (by omega), up_ne _ _ (by omega)] | rw [up_ne _ _ (by omega)]) ⟨by first | rw [up_same] | rw [up_ne _ _ (by omega), up_same] | rw [up_ne _ _ (by omega), up_ne _ _ (by omega), up_same], by first | rw [up_same] | rw [up_ne _ _ (by omega), up_same] | rw [up_ne _ _ (by omega), up_ne _ _ (by omega), up_same], fun _ => by first | rw [up_same] | rw [up_ne _ _ (by omega), up_same] | rw [up_ne _ _ (by omega), up_ne _ _ (by omega), up_same]⟩
      | exact RcP.no (fun q => q.2.2.elim (fun r => absurd (r.symm.trans hdg) (by decide)) hq2) (cEnd_2 hcw hq1) (fun y hy => by first | rw [up_ne _ _ (by omega), up_ne _ _ (by omega), up_ne _ _ (by omega)] | rw [up_ne _ _ (by omega), up_ne _ _ (by omega)] | rw [up_ne _ _ (by omega)])
      | exact RcP.ok ⟨(dOf_w _).mpr hcw, hq1, Or.inl hdg⟩ ((cEnd_2 hcw hq1).trans (by rw [cN2_0 hdg])) (fun y hy => by first | rw [up_ne _ _ (by omega), up_ne _ _ (by omega), up_ne _ _ (by omega)] | rw [up_ne _ _ (by omega), up_ne _ _ (by omega)] | rw [up_ne _ _ (by omega)]) ⟨by first | rw [up_same] | rw [up_ne _ _ (by omega), up_same] | rw [up_ne _ _ (by omega), up_ne _ _ (by omega), up_same], by first | rw [up_same] | rw [up_ne _ _ (by omega), up_same] | rw [up_ne _ _ (by omega), up_ne _ _ (by omega), up_same], fun q => absurd hdg q⟩
      | exact RcP.no (fun q => hq1 q.2.1) (cEnd_1 hcw hq1) (fun y hy => by first | rw [up_ne _ _ (by omega), up_ne _ _ (by omega), up_ne _ _ (by omega)] | rw [up_ne _ _ (by omega), up_ne _ _ (by omega)] | rw [up_ne _ _ (by omega)])
      | (by_cases hq1 : 0 < (cN1 (ω.1 249) n h).2.2
         · rw [bI_t hq1]
           exact RcP.ok ⟨(dOf_w _).mpr hcw, hq1, Or.inl hdg⟩ ((cEnd_2 hcw hq1).trans (by rw [cN2_0 hdg])) (fun y hy => by first | rw [up_ne _ _ (by omega), up_ne _ _ (by omega), up_ne _ _ (by omega)] | rw [up_ne _ _ (by omega), up_ne _ _ (by omega)] | rw [up_ne _ _ (by omega)]) ⟨by first | rw [up_same] | rw [up_ne _ _ (by omega), up_same] | rw [up_ne _ _ (by omega), up_ne _ _ (by omega), up_same], by first | rw [up_same] | rw [up_ne _ _ (by omega), up_same] | rw [up_ne _ _ (by omega), up_ne _ _ (by omega), up_same], fun q => absurd hdg q⟩
         · rw [bI_f hq1]
           exact RcP.no (fun q => hq1 q.2.1) (cEnd_1 hcw hq1) (fun y hy => by first | rw [up_ne _ _ (by omega), up_ne _ _ (by omega), up_ne _ _ (by omega)] | rw [up_ne _ _ (by omega), up_ne _ _ (by omega)] | rw [up_ne _ _ (by omega)]))
    · -- 51 case 116
      refine j_conv rfl (cons_i hk _) rfl ?_
      have hd : dOf (sgn (ω.1 249) n h) = 8 := by rw [hk]; rfl
      have e1 : num (ω.1 249) n 2 (h + 1) 0 0 = cN1 (ω.1 249) n h := by unfold cN1; rw [hd]; rfl
      have e2 : num (ω.1 249) n 0 (cN1 (ω.1 249) n h).1 0 0 = cN2 (ω.1 249) n h := by unfold cN2; rw [hd]; rfl
      have hl1 : h + 1 ≤ n := wd_lt hcw
      have hl2 : (cN1 (ω.1 249) n h).1 ≤ n := (num_rg _ _ _ _ hl1).1
      have hdg : dg2 (dOf (sgn (ω.1 249) n h)) = 0 := by rw [hd]; rfl
      refine j_lsw C (by decide) (by decide) (off := 105) (by decide) (tgt := 156) (by decide) dX9_readsCommand_51 ?_
      refine j_aload0 C dX9_readsCommand_156 ?_
      refine j_iconst C dX9_readsCommand_157 ?_
      refine j_iload1 C dX9_readsCommand_158 ?_
      refine j_iconst C dX9_readsCommand_159 ?_
      refine j_iadd C dX9_readsCommand_160 ?_
      refine j_conv (S' := [.int (iI ((3 * m + 1 : Nat) : Int)), .int (iI ((2 : Nat) : Int)), .ref (rl Γ 243)]) rfl (cons_i (by omega) _) rfl ?_
      refine j_cVI2 C (c_X9_isNumber (n := n) (h := h + 1) (by exact hw) (by decide) (by omega) (by exact h15) rfl hn hl1) oX9_isNumber kX9_242 ⟨_, rfl, rfl⟩ at_243 ⟨by decide, by decide⟩ rfl (Nat.le_of_ble_eq_true rfl) ⟨by decide, by decide⟩ dX9_readsCommand_161 ?_
      rintro _ _ hz161 ⟨rfl, rfl⟩
      simp only [wi_wf, wf_same, wf_wf, tM0, tM1, tM2, tM3, tM4, tM5, tM6, tB0, tB1, tB2, tB3, tB4, tB5, tB6, tL0, tL1, tL2, up_up, wn_243_244, wn_243_245, wn_243_246, wn_243_247, wn_243_248, wn_243_249, wn_243_250, wn_243_251, wn_244_243, wn_244_245, wn_244_246, wn_244_247, wn_244_248, wn_244_249, wn_244_250, wn_244_251, wn_245_243, wn_245_244, wn_245_246, wn_245_247, wn_245_248, wn_245_249, wn_245_250, wn_245_251, wn_246_243, wn_246_244, wn_246_245, wn_246_247, wn_246_248, wn_246_249, wn_246_250, wn_246_251, wn_247_243, wn_247_244, wn_247_245, wn_247_246, wn_247_248, wn_247_249, wn_247_250, wn_247_251, wn_248_243, wn_248_244, wn_248_245, wn_248_246, wn_248_247, wn_248_249, wn_248_250, wn_248_251, wn_249_243, wn_249_244, wn_249_245, wn_249_246, wn_249_247, wn_249_248, wn_249_250, wn_249_251, wn_250_243, wn_250_244, wn_250_245, wn_250_246, wn_250_247, wn_250_248, wn_250_249, wn_250_251, wn_251_243, wn_251_244, wn_251_245, wn_251_246, wn_251_247, wn_251_248, wn_251_249, wn_251_250, NW_3, NW_5, NW_r3, NW_r5, NW_r4, NW_r9, NW_NW, up_same, Int.toNat_natCast, e1] at hz161 ⊢
      refine j_zret C hrt dX9_readsCommand_164 (by first | exact Or.inl rfl | exact Or.inr rfl | exact bI_01 _) ?_
      first
      | exact RcP.no (fun q => hc38 ((dOf_w _).mp q.1)) (cEnd_9 hc38) (fun y hy => by first | rw [up_ne _ _ (by omega), up_ne _ _ (by omega), up_ne _ _ (by omega)] | rw [up_ne _ _ (by omega), up_ne _ _ (by omega)] | rw [up_ne _ _ (by omega)])
      | exact RcP.ok ⟨(dOf_w _).mpr hcw, hq1, Or.inr hq2⟩ (cEnd_2 hcw hq1) (fun y hy => by first | rw [up_ne _ _ (by omega), up_ne _ _ (by omega), up_ne _ _ (by omega)] | rw [up_ne _ _ (by omega), up_ne _ _ (by omega)] | rw [up_ne _ _ (by omega)]) ⟨by first | rw [up_same] | rw [up_ne _ _ (by omega), up_same] | rw [up_ne _ _ (by omega), up_ne _ _ (by omega), up_same], by first | rw [up_same] | rw [up_ne _ _ (by omega), up_same] | rw [up_ne _ _ (by omega), up_ne _ _ (by omega), up_same], fun _ => by first | rw [up_same] | rw [up_ne _ _ (by omega), up_same] | rw [up_ne _ _ (by omega), up_ne _ _ (by omega), up_same]⟩
      | exact RcP.no (fun q => q.2.2.elim (fun r => absurd (r.symm.trans hdg) (by decide)) hq2) (cEnd_2 hcw hq1) (fun y hy => by first | rw [up_ne _ _ (by omega), up_ne _ _ (by omega), up_ne _ _ (by omega)] | rw [up_ne _ _ (by omega), up_ne _ _ (by omega)] | rw [up_ne _ _ (by omega)])
      | exact RcP.ok ⟨(dOf_w _).mpr hcw, hq1, Or.inl hdg⟩ ((cEnd_2 hcw hq1).trans (by rw [cN2_0 hdg])) (fun y hy => by first | rw [up_ne _ _ (by omega), up_ne _ _ (by omega), up_ne _ _ (by omega)] | rw [up_ne _ _ (by omega), up_ne _ _ (by omega)] | rw [up_ne _ _ (by omega)]) ⟨by first | rw [up_same] | rw [up_ne _ _ (by omega), up_same] | rw [up_ne _ _ (by omega), up_ne _ _ (by omega), up_same], by first | rw [up_same] | rw [up_ne _ _ (by omega), up_same] | rw [up_ne _ _ (by omega), up_ne _ _ (by omega), up_same], fun q => absurd hdg q⟩
      | exact RcP.no (fun q => hq1 q.2.1) (cEnd_1 hcw hq1) (fun y hy => by first | rw [up_ne _ _ (by omega), up_ne _ _ (by omega), up_ne _ _ (by omega)] | rw [up_ne _ _ (by omega), up_ne _ _ (by omega)] | rw [up_ne _ _ (by omega)])
      | (by_cases hq1 : 0 < (cN1 (ω.1 249) n h).2.2
         · rw [bI_t hq1]
           exact RcP.ok ⟨(dOf_w _).mpr hcw, hq1, Or.inl hdg⟩ ((cEnd_2 hcw hq1).trans (by rw [cN2_0 hdg])) (fun y hy => by first | rw [up_ne _ _ (by omega), up_ne _ _ (by omega), up_ne _ _ (by omega)] | rw [up_ne _ _ (by omega), up_ne _ _ (by omega)] | rw [up_ne _ _ (by omega)]) ⟨by first | rw [up_same] | rw [up_ne _ _ (by omega), up_same] | rw [up_ne _ _ (by omega), up_ne _ _ (by omega), up_same], by first | rw [up_same] | rw [up_ne _ _ (by omega), up_same] | rw [up_ne _ _ (by omega), up_ne _ _ (by omega), up_same], fun q => absurd hdg q⟩
         · rw [bI_f hq1]
           exact RcP.no (fun q => hq1 q.2.1) (cEnd_1 hcw hq1) (fun y hy => by first | rw [up_ne _ _ (by omega), up_ne _ _ (by omega), up_ne _ _ (by omega)] | rw [up_ne _ _ (by omega), up_ne _ _ (by omega)] | rw [up_ne _ _ (by omega)]))
  · -- 38 F
    refine j_iconst C dX9_readsCommand_45 ?_
    refine j_iadd C dX9_readsCommand_46 ?_
    refine j_putI C fX9_230 at_243 rfl ty_7_16 ⟨by omega, by omega⟩ dX9_readsCommand_47 ?_
    try simp only [wi_wf, wf_same, wf_wf, tM0, tM1, tM2, tM3, tM4, tM5, tM6, tB0, tB1, tB2, tB3, tB4, tB5, tB6, tL0, tL1, tL2, up_up, wn_243_244, wn_243_245, wn_243_246, wn_243_247, wn_243_248, wn_243_249, wn_243_250, wn_243_251, wn_244_243, wn_244_245, wn_244_246, wn_244_247, wn_244_248, wn_244_249, wn_244_250, wn_244_251, wn_245_243, wn_245_244, wn_245_246, wn_245_247, wn_245_248, wn_245_249, wn_245_250, wn_245_251, wn_246_243, wn_246_244, wn_246_245, wn_246_247, wn_246_248, wn_246_249, wn_246_250, wn_246_251, wn_247_243, wn_247_244, wn_247_245, wn_247_246, wn_247_248, wn_247_249, wn_247_250, wn_247_251, wn_248_243, wn_248_244, wn_248_245, wn_248_246, wn_248_247, wn_248_249, wn_248_250, wn_248_251, wn_249_243, wn_249_244, wn_249_245, wn_249_246, wn_249_247, wn_249_248, wn_249_250, wn_249_251, wn_250_243, wn_250_244, wn_250_245, wn_250_246, wn_250_247, wn_250_248, wn_250_249, wn_250_251, wn_251_243, wn_251_244, wn_251_245, wn_251_246, wn_251_247, wn_251_248, wn_251_249, wn_251_250, NW_3, NW_5, NW_r3, NW_r5, NW_r4, NW_r9, NW_NW, up_same, Int.toNat_natCast]
    refine j_iload2 C dX9_readsCommand_50 ?_
    skip
    · -- 51 case None
      refine j_lsw C ⟨by omega, by omega⟩ (by decide) (off := 114) (by simp only [isW, not_or] at hc38; obtain ⟨h0, h1, h2, h3, h4, h5, h6, h7, h8⟩ := hc38; simp [Op.lookupswitch.offset, List.find?, beq_iff_eq, Ne.symm h3, Ne.symm h4, Ne.symm h5, Ne.symm h7, Ne.symm h8, h3, h4, h5, h7, h8]) (tgt := 165) (by decide) dX9_readsCommand_51 ?_
      refine j_iload2 C dX9_readsCommand_165 ?_
      refine j_cSI1 C (c_X9_isWord ⟨by omega, by omega⟩) oX9_isWord kX9_239 ⟨by decide, by decide⟩ rfl (Nat.le_of_ble_eq_true rfl) ⟨by decide, by decide⟩ dX9_readsCommand_166 ?_
      rintro _ _ hz166 ⟨rfl, rfl⟩
      try simp only [wi_wf, wf_same, wf_wf, tM0, tM1, tM2, tM3, tM4, tM5, tM6, tB0, tB1, tB2, tB3, tB4, tB5, tB6, tL0, tL1, tL2, up_up, wn_243_244, wn_243_245, wn_243_246, wn_243_247, wn_243_248, wn_243_249, wn_243_250, wn_243_251, wn_244_243, wn_244_245, wn_244_246, wn_244_247, wn_244_248, wn_244_249, wn_244_250, wn_244_251, wn_245_243, wn_245_244, wn_245_246, wn_245_247, wn_245_248, wn_245_249, wn_245_250, wn_245_251, wn_246_243, wn_246_244, wn_246_245, wn_246_247, wn_246_248, wn_246_249, wn_246_250, wn_246_251, wn_247_243, wn_247_244, wn_247_245, wn_247_246, wn_247_248, wn_247_249, wn_247_250, wn_247_251, wn_248_243, wn_248_244, wn_248_245, wn_248_246, wn_248_247, wn_248_249, wn_248_250, wn_248_251, wn_249_243, wn_249_244, wn_249_245, wn_249_246, wn_249_247, wn_249_248, wn_249_250, wn_249_251, wn_250_243, wn_250_244, wn_250_245, wn_250_246, wn_250_247, wn_250_248, wn_250_249, wn_250_251, wn_251_243, wn_251_244, wn_251_245, wn_251_246, wn_251_247, wn_251_248, wn_251_249, wn_251_250, NW_3, NW_5, NW_r3, NW_r5, NW_r4, NW_r9, NW_NW, up_same, Int.toNat_natCast] at hz166 ⊢
      refine j_ifeqb C dX9_readsCommand_169 (fun hc169 => ?_) (fun hc169 => ?_)
      · -- 169 T
        exact absurd hc169 hc38
      · -- 169 F
        refine j_iconst C dX9_readsCommand_187 ?_
        refine j_zret C hrt dX9_readsCommand_188 (by first | exact Or.inl rfl | exact Or.inr rfl | exact bI_01 _) ?_
        first
        | exact RcP.no (fun q => hc38 ((dOf_w _).mp q.1)) (cEnd_9 hc38) (fun y hy => by first | rw [up_ne _ _ (by omega), up_ne _ _ (by omega), up_ne _ _ (by omega)] | rw [up_ne _ _ (by omega), up_ne _ _ (by omega)] | rw [up_ne _ _ (by omega)])
        | exact RcP.ok ⟨(dOf_w _).mpr hcw, hq1, Or.inr hq2⟩ (cEnd_2 hcw hq1) (fun y hy => by first | rw [up_ne _ _ (by omega), up_ne _ _ (by omega), up_ne _ _ (by omega)] | rw [up_ne _ _ (by omega), up_ne _ _ (by omega)] | rw [up_ne _ _ (by omega)]) ⟨by first | rw [up_same] | rw [up_ne _ _ (by omega), up_same] | rw [up_ne _ _ (by omega), up_ne _ _ (by omega), up_same], by first | rw [up_same] | rw [up_ne _ _ (by omega), up_same] | rw [up_ne _ _ (by omega), up_ne _ _ (by omega), up_same], fun _ => by first | rw [up_same] | rw [up_ne _ _ (by omega), up_same] | rw [up_ne _ _ (by omega), up_ne _ _ (by omega), up_same]⟩
        | exact RcP.no (fun q => q.2.2.elim (fun r => absurd (r.symm.trans hdg) (by decide)) hq2) (cEnd_2 hcw hq1) (fun y hy => by first | rw [up_ne _ _ (by omega), up_ne _ _ (by omega), up_ne _ _ (by omega)] | rw [up_ne _ _ (by omega), up_ne _ _ (by omega)] | rw [up_ne _ _ (by omega)])
        | exact RcP.ok ⟨(dOf_w _).mpr hcw, hq1, Or.inl hdg⟩ ((cEnd_2 hcw hq1).trans (by rw [cN2_0 hdg])) (fun y hy => by first | rw [up_ne _ _ (by omega), up_ne _ _ (by omega), up_ne _ _ (by omega)] | rw [up_ne _ _ (by omega), up_ne _ _ (by omega)] | rw [up_ne _ _ (by omega)]) ⟨by first | rw [up_same] | rw [up_ne _ _ (by omega), up_same] | rw [up_ne _ _ (by omega), up_ne _ _ (by omega), up_same], by first | rw [up_same] | rw [up_ne _ _ (by omega), up_same] | rw [up_ne _ _ (by omega), up_ne _ _ (by omega), up_same], fun q => absurd hdg q⟩
        | exact RcP.no (fun q => hq1 q.2.1) (cEnd_1 hcw hq1) (fun y hy => by first | rw [up_ne _ _ (by omega), up_ne _ _ (by omega), up_ne _ _ (by omega)] | rw [up_ne _ _ (by omega), up_ne _ _ (by omega)] | rw [up_ne _ _ (by omega)])
        | (by_cases hq1 : 0 < (cN1 (ω.1 249) n h).2.2
           · rw [bI_t hq1]
             exact RcP.ok ⟨(dOf_w _).mpr hcw, hq1, Or.inl hdg⟩ ((cEnd_2 hcw hq1).trans (by rw [cN2_0 hdg])) (fun y hy => by first | rw [up_ne _ _ (by omega), up_ne _ _ (by omega), up_ne _ _ (by omega)] | rw [up_ne _ _ (by omega), up_ne _ _ (by omega)] | rw [up_ne _ _ (by omega)]) ⟨by first | rw [up_same] | rw [up_ne _ _ (by omega), up_same] | rw [up_ne _ _ (by omega), up_ne _ _ (by omega), up_same], by first | rw [up_same] | rw [up_ne _ _ (by omega), up_same] | rw [up_ne _ _ (by omega), up_ne _ _ (by omega), up_same], fun q => absurd hdg q⟩
           · rw [bI_f hq1]
             exact RcP.no (fun q => hq1 q.2.1) (cEnd_1 hcw hq1) (fun y hy => by first | rw [up_ne _ _ (by omega), up_ne _ _ (by omega), up_ne _ _ (by omega)] | rw [up_ne _ _ (by omega), up_ne _ _ (by omega)] | rw [up_ne _ _ (by omega)]))
