set_option maxRecDepth 100000 in
set_option maxHeartbeats 4000000 in
theorem c_X9_does {Γ : Ga} {l : Launch} {ω : Wo} (hw : WM ω.2.1) {M : Int} (hI : RI M (ω.1 244))  {k : Nat} (hk9 : k < 21) (hl : isW ((ω.1 250) (3 * k))) (hW1 : W1 (ω.1 244)) (hW2 : W2 (ω.1 244)) (hM : M + 3000 ≤ 100000000) : CI Γ l yX9_does cX9_does 4 .int 6 [.ref (rl Γ 243), .int (iI (((3 * k : Nat) : Int)))] ω (fun z ω' => DoM (dOf ((ω.1 250) (3 * k))) ω ((ω.1 250) (3 * k + 1)) (if dg2 (dOf ((ω.1 250) (3 * k))) = 0 then 0 else (ω.1 250) (3 * k + 2)) z ω') := by
  refine Met.ofJ (k := 2) [some (.ref (rl Γ 243)), some (.int (iI (((3 * k : Nat) : Int)))), none, none] (by decide) rfl rfl rfl (fun p e s mm args below meth c C hrt => ?_)
  refine j_aload0 C dX9_does_0 ?_
  refine j_getr C fX9_32 at_243 rfl hw.r14 dX9_does_1 ?_
  refine j_iload1 C dX9_does_4 ?_
  refine j_iconst C dX9_does_5 ?_
  refine j_iadd C dX9_does_6 ?_
  refine j_iald C at_250 ⟨rfl, rfl⟩ (N := 63) rfl (by decide) ⟨by omega, by omega⟩ (show _ = (ω.1 250) (3 * k + 1) from congrArg _ (by omega)) dX9_does_7 (fun hr7 => ?_)
  try simp only [wf_same, wn_243_244, wn_243_245, wn_243_246, wn_243_247, wn_243_248, wn_243_249, wn_243_250, wn_243_251, wn_244_243, wn_244_245, wn_244_246, wn_244_247, wn_244_248, wn_244_249, wn_244_250, wn_244_251, wn_245_243, wn_245_244, wn_245_246, wn_245_247, wn_245_248, wn_245_249, wn_245_250, wn_245_251, wn_246_243, wn_246_244, wn_246_245, wn_246_247, wn_246_248, wn_246_249, wn_246_250, wn_246_251, wn_247_243, wn_247_244, wn_247_245, wn_247_246, wn_247_248, wn_247_249, wn_247_250, wn_247_251, wn_248_243, wn_248_244, wn_248_245, wn_248_246, wn_248_247, wn_248_249, wn_248_250, wn_248_251, wn_249_243, wn_249_244, wn_249_245, wn_249_246, wn_249_247, wn_249_248, wn_249_250, wn_249_251, wn_250_243, wn_250_244, wn_250_245, wn_250_246, wn_250_247, wn_250_248, wn_250_249, wn_250_251, wn_251_243, wn_251_244, wn_251_245, wn_251_246, wn_251_247, wn_251_248, wn_251_249, wn_251_250, NW_r3, NW_r5, NW_r4, NW_r9, up_same, Int.toNat_natCast, EW_4, EW_5, EW_3, EW_0] at hr7 ⊢
  refine j_istore2 C rfl dX9_does_8 ?_
  refine j_aload0 C dX9_does_9 ?_
  refine j_getr C fX9_32 at_243 rfl hw.r14 dX9_does_10 ?_
  refine j_iload1 C dX9_does_13 ?_
  refine j_iconst C dX9_does_14 ?_
  refine j_iadd C dX9_does_15 ?_
  refine j_iald C at_250 ⟨rfl, rfl⟩ (N := 63) rfl (by decide) ⟨by omega, by omega⟩ (show _ = (ω.1 250) (3 * k + 2) from congrArg _ (by omega)) dX9_does_16 (fun hr16 => ?_)
  try simp only [wf_same, wn_243_244, wn_243_245, wn_243_246, wn_243_247, wn_243_248, wn_243_249, wn_243_250, wn_243_251, wn_244_243, wn_244_245, wn_244_246, wn_244_247, wn_244_248, wn_244_249, wn_244_250, wn_244_251, wn_245_243, wn_245_244, wn_245_246, wn_245_247, wn_245_248, wn_245_249, wn_245_250, wn_245_251, wn_246_243, wn_246_244, wn_246_245, wn_246_247, wn_246_248, wn_246_249, wn_246_250, wn_246_251, wn_247_243, wn_247_244, wn_247_245, wn_247_246, wn_247_248, wn_247_249, wn_247_250, wn_247_251, wn_248_243, wn_248_244, wn_248_245, wn_248_246, wn_248_247, wn_248_249, wn_248_250, wn_248_251, wn_249_243, wn_249_244, wn_249_245, wn_249_246, wn_249_247, wn_249_248, wn_249_250, wn_249_251, wn_250_243, wn_250_244, wn_250_245, wn_250_246, wn_250_247, wn_250_248, wn_250_249, wn_250_251, wn_251_243, wn_251_244, wn_251_245, wn_251_246, wn_251_247, wn_251_248, wn_251_249, wn_251_250, NW_r3, NW_r5, NW_r4, NW_r9, up_same, Int.toNat_natCast, EW_4, EW_5, EW_3, EW_0] at hr16 ⊢
  refine j_istore3 C rfl dX9_does_17 ?_
  refine j_aload0 C dX9_does_18 ?_
  refine j_getr C fX9_32 at_243 rfl hw.r14 dX9_does_19 ?_
  refine j_iload1 C dX9_does_22 ?_
  refine j_iald C at_250 ⟨rfl, rfl⟩ (N := 63) rfl (by decide) ⟨by omega, by omega⟩ (show _ = (ω.1 250) (3 * k) from congrArg _ (by omega)) dX9_does_23 (fun hr23 => ?_)
  try simp only [wf_same, wn_243_244, wn_243_245, wn_243_246, wn_243_247, wn_243_248, wn_243_249, wn_243_250, wn_243_251, wn_244_243, wn_244_245, wn_244_246, wn_244_247, wn_244_248, wn_244_249, wn_244_250, wn_244_251, wn_245_243, wn_245_244, wn_245_246, wn_245_247, wn_245_248, wn_245_249, wn_245_250, wn_245_251, wn_246_243, wn_246_244, wn_246_245, wn_246_247, wn_246_248, wn_246_249, wn_246_250, wn_246_251, wn_247_243, wn_247_244, wn_247_245, wn_247_246, wn_247_248, wn_247_249, wn_247_250, wn_247_251, wn_248_243, wn_248_244, wn_248_245, wn_248_246, wn_248_247, wn_248_249, wn_248_250, wn_248_251, wn_249_243, wn_249_244, wn_249_245, wn_249_246, wn_249_247, wn_249_248, wn_249_250, wn_249_251, wn_250_243, wn_250_244, wn_250_245, wn_250_246, wn_250_247, wn_250_248, wn_250_249, wn_250_251, wn_251_243, wn_251_244, wn_251_245, wn_251_246, wn_251_247, wn_251_248, wn_251_249, wn_251_250, NW_r3, NW_r5, NW_r4, NW_r9, up_same, Int.toNat_natCast, EW_4, EW_5, EW_3, EW_0] at hr23 ⊢
  rcases hl with hk | hk | hk | hk | hk | hk | hk | hk | hk
  · -- 24 case 109
    refine j_conv rfl (cons_i hk _) rfl ?_
    have hd : dOf ((ω.1 250) (3 * k)) = 0 := by rw [hk]; rfl
    refine j_tswIn C (by decide) (by decide) (off := 108) rfl (tgt := 132) (by decide) dX9_does_24 ?_
    refine j_aload0 C dX9_does_132 ?_
    refine j_iload2 C dX9_does_133 ?_
    refine j_cVI1 C (c_X9_comes (by exact hw) ⟨by omega, by omega⟩ (by exact hI)) oX9_comes kX9_97 ⟨_, rfl, rfl⟩ at_243 ⟨by decide, by decide⟩ rfl (Nat.le_of_ble_eq_true rfl) ⟨by decide, by decide⟩ dX9_does_134 ?_
    intro z1 w1 hz1 hd1
    refine j_iret C hrt dX9_does_137 hz1 ?_
    rw [hd]
    exact hd1
  · -- 24 case 120
    refine j_conv rfl (cons_i hk _) rfl ?_
    have hd : dOf ((ω.1 250) (3 * k)) = 1 := by rw [hk]; rfl
    refine j_tswIn C (by decide) (by decide) (off := 114) rfl (tgt := 138) (by decide) dX9_does_24 ?_
    refine j_aload0 C dX9_does_138 ?_
    refine j_iload2 C dX9_does_139 ?_
    refine j_cVI1 C (c_X9_leaves (by exact hw) ⟨by omega, by omega⟩ (by exact hI)) oX9_leaves kX9_116 ⟨_, rfl, rfl⟩ at_243 ⟨by decide, by decide⟩ rfl (Nat.le_of_ble_eq_true rfl) ⟨by decide, by decide⟩ dX9_does_140 ?_
    intro z1 w1 hz1 hd1
    refine j_iret C hrt dX9_does_143 hz1 ?_
    rw [hd]
    exact hd1
  · -- 24 case 117
    refine j_conv rfl (cons_i hk _) rfl ?_
    have hd : dOf ((ω.1 250) (3 * k)) = 2 := by rw [hk]; rfl
    refine j_tswIn C (by decide) (by decide) (off := 120) rfl (tgt := 144) (by decide) dX9_does_24 ?_
    refine j_aload0 C dX9_does_144 ?_
    refine j_iload2 C dX9_does_145 ?_
    refine j_cVI1 C (c_X9_trains (by exact hw) ⟨by omega, by omega⟩ (by exact hI)) oX9_trains kX9_119 ⟨_, rfl, rfl⟩ at_243 ⟨by decide, by decide⟩ rfl (Nat.le_of_ble_eq_true rfl) ⟨by decide, by decide⟩ dX9_does_146 ?_
    intro z1 w1 hz1 hd1
    refine j_iret C hrt dX9_does_149 hz1 ?_
    rw [hd]
    exact hd1
  · -- 24 case 98
    refine j_conv rfl (cons_i hk _) rfl ?_
    have hd : dOf ((ω.1 250) (3 * k)) = 3 := by rw [hk]; rfl
    refine j_tswIn C (by decide) (by decide) (off := 126) rfl (tgt := 150) (by decide) dX9_does_24 ?_
    refine j_aload0 C dX9_does_150 ?_
    refine j_iload2 C dX9_does_151 ?_
    refine j_iload3 C dX9_does_152 ?_
    refine j_cVI2 C (c_X9_builds (by exact hw) ⟨by omega, by omega⟩ ⟨by omega, by omega⟩ (by exact hI)) oX9_builds kX9_128 ⟨_, rfl, rfl⟩ at_243 ⟨by decide, by decide⟩ rfl (Nat.le_of_ble_eq_true rfl) ⟨by decide, by decide⟩ dX9_does_153 ?_
    intro z1 w1 hz1 hd1
    refine j_iret C hrt dX9_does_156 hz1 ?_
    rw [hd]
    exact hd1
  · -- 24 case 99
    refine j_conv rfl (cons_i hk _) rfl ?_
    have hd : dOf ((ω.1 250) (3 * k)) = 4 := by rw [hk]; rfl
    refine j_tswIn C (by decide) (by decide) (off := 133) rfl (tgt := 157) (by decide) dX9_does_24 ?_
    refine j_aload0 C dX9_does_157 ?_
    refine j_iload2 C dX9_does_158 ?_
    refine j_iload3 C dX9_does_159 ?_
    refine j_cVI2 C (c_X9_calls (by exact hw) (by exact hI) ⟨by omega, by omega⟩ ⟨by omega, by omega⟩ (by exact hW2) (by omega)) oX9_calls kX9_167 ⟨_, rfl, rfl⟩ at_243 ⟨by decide, by decide⟩ rfl (Nat.le_of_ble_eq_true rfl) ⟨by decide, by decide⟩ dX9_does_160 ?_
    intro z1 w1 hz1 hd1
    refine j_iret C hrt dX9_does_163 hz1 ?_
    rw [hd]
    exact hd1
  · -- 24 case 111
    refine j_conv rfl (cons_i hk _) rfl ?_
    have hd : dOf ((ω.1 250) (3 * k)) = 5 := by rw [hk]; rfl
    refine j_tswIn C (by decide) (by decide) (off := 140) rfl (tgt := 164) (by decide) dX9_does_24 ?_
    refine j_aload0 C dX9_does_164 ?_
    refine j_iload2 C dX9_does_165 ?_
    refine j_iload3 C dX9_does_166 ?_
    refine j_cVI2 C (c_X9_borrows (by exact hw) ⟨by omega, by omega⟩ ⟨by omega, by omega⟩ (by exact hI)) oX9_borrows kX9_170 ⟨_, rfl, rfl⟩ at_243 ⟨by decide, by decide⟩ rfl (Nat.le_of_ble_eq_true rfl) ⟨by decide, by decide⟩ dX9_does_167 ?_
    intro z1 w1 hz1 hd1
    refine j_iret C hrt dX9_does_170 hz1 ?_
    rw [hd]
    exact hd1
  · -- 24 case 103
    refine j_conv rfl (cons_i hk _) rfl ?_
    have hd : dOf ((ω.1 250) (3 * k)) = 6 := by rw [hk]; rfl
    refine j_tswIn C (by decide) (by decide) (off := 147) rfl (tgt := 171) (by decide) dX9_does_24 ?_
    refine j_aload0 C dX9_does_171 ?_
    refine j_iload2 C dX9_does_172 ?_
    refine j_cVI1 C (c_X9_givesBack (by exact hw) ⟨by omega, by omega⟩ (by exact hI)) oX9_givesBack kX9_180 ⟨_, rfl, rfl⟩ at_243 ⟨by decide, by decide⟩ rfl (Nat.le_of_ble_eq_true rfl) ⟨by decide, by decide⟩ dX9_does_173 ?_
    intro z1 w1 hz1 hd1
    refine j_iret C hrt dX9_does_176 hz1 ?_
    rw [hd]
    exact hd1
  · -- 24 case 108
    refine j_conv rfl (cons_i hk _) rfl ?_
    have hd : dOf ((ω.1 250) (3 * k)) = 7 := by rw [hk]; rfl
    refine j_tswIn C (by decide) (by decide) (off := 153) rfl (tgt := 177) (by decide) dX9_does_24 ?_
    refine j_aload0 C dX9_does_177 ?_
    refine j_iload2 C dX9_does_178 ?_
    refine j_cVI1 C (c_X9_limits (by exact hw) ⟨by omega, by omega⟩ (by exact hI)) oX9_limits kX9_183 ⟨_, rfl, rfl⟩ at_243 ⟨by decide, by decide⟩ rfl (Nat.le_of_ble_eq_true rfl) ⟨by decide, by decide⟩ dX9_does_179 ?_
    intro z1 w1 hz1 hd1
    refine j_iret C hrt dX9_does_182 hz1 ?_
    rw [hd]
    exact hd1
  · -- 24 case 116
    refine j_conv rfl (cons_i hk _) rfl ?_
    have hd : dOf ((ω.1 250) (3 * k)) = 8 := by rw [hk]; rfl
    refine j_tswIn C (by decide) (by decide) (off := 159) rfl (tgt := 183) (by decide) dX9_does_24 ?_
    refine j_aload0 C dX9_does_183 ?_
    refine j_iload2 C dX9_does_184 ?_
    refine j_cVI1 C (c_X9_passes (by exact hw) (by exact hI) ⟨by omega, by omega⟩ (by exact hW1) (by omega)) oX9_passes kX9_204 ⟨_, rfl, rfl⟩ at_243 ⟨by decide, by decide⟩ rfl (Nat.le_of_ble_eq_true rfl) ⟨by decide, by decide⟩ dX9_does_185 ?_
    intro z1 w1 hz1 hd1
    refine j_iret C hrt dX9_does_188 hz1 ?_
    rw [hd]
    exact hd1
set_option maxRecDepth 100000 in
set_option maxHeartbeats 4000000 in
theorem c_X9_isCause {Γ : Ga} {l : Launch} {ω : Wo} (hw : WM ω.2.1)  {v : Int} (hv : Rg v) : CV Γ l yX9_isCause cX9_isCause 2 0 [.ref (rl Γ 243), .int (iI v)] ω (fun ω' => ω' = wf ω 243 (up (up (up (up (ω.1 243) 9 (ω.1 243 7)) 10 (ω.1 243 8)) 7 12) 8 v)) := by
  refine Met.ofJ (k := 0) [some (.ref (rl Γ 243)), some (.int (iI v))] (by decide) rfl rfl rfl (fun p e s mm args below meth c C hrt => ?_)
  refine j_aload0 C dX9_isCause_0 ?_
  refine j_aload0 C dX9_isCause_1 ?_
  refine j_geti C fX9_51 at_243 rfl rfl dX9_isCause_2 (fun hr2 => ?_)
  try simp only [wf_same, wn_243_244, wn_243_245, wn_243_246, wn_243_247, wn_243_248, wn_243_249, wn_243_250, wn_243_251, wn_244_243, wn_244_245, wn_244_246, wn_244_247, wn_244_248, wn_244_249, wn_244_250, wn_244_251, wn_245_243, wn_245_244, wn_245_246, wn_245_247, wn_245_248, wn_245_249, wn_245_250, wn_245_251, wn_246_243, wn_246_244, wn_246_245, wn_246_247, wn_246_248, wn_246_249, wn_246_250, wn_246_251, wn_247_243, wn_247_244, wn_247_245, wn_247_246, wn_247_248, wn_247_249, wn_247_250, wn_247_251, wn_248_243, wn_248_244, wn_248_245, wn_248_246, wn_248_247, wn_248_249, wn_248_250, wn_248_251, wn_249_243, wn_249_244, wn_249_245, wn_249_246, wn_249_247, wn_249_248, wn_249_250, wn_249_251, wn_250_243, wn_250_244, wn_250_245, wn_250_246, wn_250_247, wn_250_248, wn_250_249, wn_250_251, wn_251_243, wn_251_244, wn_251_245, wn_251_246, wn_251_247, wn_251_248, wn_251_249, wn_251_250, NW_r3, NW_r5, NW_r4, NW_r9, up_same, Int.toNat_natCast, EW_4, EW_5, EW_3, EW_0] at hr2 ⊢
  refine j_putI C fX9_57 at_243 rfl ty_7_9 ⟨by omega, by omega⟩ dX9_isCause_5 ?_
  try simp only [wi_wf, wf_same, wf_wf, tM0, tM1, tM2, tM3, tM4, tM5, tM6, tB0, tB1, tB2, tB3, tB4, tB5, tB6, tL0, tL1, tL2, up_up, wn_243_244, wn_243_245, wn_243_246, wn_243_247, wn_243_248, wn_243_249, wn_243_250, wn_243_251, wn_244_243, wn_244_245, wn_244_246, wn_244_247, wn_244_248, wn_244_249, wn_244_250, wn_244_251, wn_245_243, wn_245_244, wn_245_246, wn_245_247, wn_245_248, wn_245_249, wn_245_250, wn_245_251, wn_246_243, wn_246_244, wn_246_245, wn_246_247, wn_246_248, wn_246_249, wn_246_250, wn_246_251, wn_247_243, wn_247_244, wn_247_245, wn_247_246, wn_247_248, wn_247_249, wn_247_250, wn_247_251, wn_248_243, wn_248_244, wn_248_245, wn_248_246, wn_248_247, wn_248_249, wn_248_250, wn_248_251, wn_249_243, wn_249_244, wn_249_245, wn_249_246, wn_249_247, wn_249_248, wn_249_250, wn_249_251, wn_250_243, wn_250_244, wn_250_245, wn_250_246, wn_250_247, wn_250_248, wn_250_249, wn_250_251, wn_251_243, wn_251_244, wn_251_245, wn_251_246, wn_251_247, wn_251_248, wn_251_249, wn_251_250, NW_3, NW_5, NW_r3, NW_r5, NW_r4, NW_r9, NW_NW, up_same, Int.toNat_natCast, row_17a, row_17b, row_17c, EW_4, EW_5, EW_3, EW_0]
  refine j_aload0 C dX9_isCause_8 ?_
  refine j_aload0 C dX9_isCause_9 ?_
  refine j_geti C fX9_54 at_243 rfl rfl dX9_isCause_10 (fun hr10 => ?_)
  try simp only [wf_same, wn_243_244, wn_243_245, wn_243_246, wn_243_247, wn_243_248, wn_243_249, wn_243_250, wn_243_251, wn_244_243, wn_244_245, wn_244_246, wn_244_247, wn_244_248, wn_244_249, wn_244_250, wn_244_251, wn_245_243, wn_245_244, wn_245_246, wn_245_247, wn_245_248, wn_245_249, wn_245_250, wn_245_251, wn_246_243, wn_246_244, wn_246_245, wn_246_247, wn_246_248, wn_246_249, wn_246_250, wn_246_251, wn_247_243, wn_247_244, wn_247_245, wn_247_246, wn_247_248, wn_247_249, wn_247_250, wn_247_251, wn_248_243, wn_248_244, wn_248_245, wn_248_246, wn_248_247, wn_248_249, wn_248_250, wn_248_251, wn_249_243, wn_249_244, wn_249_245, wn_249_246, wn_249_247, wn_249_248, wn_249_250, wn_249_251, wn_250_243, wn_250_244, wn_250_245, wn_250_246, wn_250_247, wn_250_248, wn_250_249, wn_250_251, wn_251_243, wn_251_244, wn_251_245, wn_251_246, wn_251_247, wn_251_248, wn_251_249, wn_251_250, NW_r3, NW_r5, NW_r4, NW_r9, up_same, Int.toNat_natCast, EW_4, EW_5, EW_3, EW_0] at hr10 ⊢
  refine j_putI C fX9_252 at_243 rfl ty_7_10 ⟨by omega, by omega⟩ dX9_isCause_13 ?_
  try simp only [wi_wf, wf_same, wf_wf, tM0, tM1, tM2, tM3, tM4, tM5, tM6, tB0, tB1, tB2, tB3, tB4, tB5, tB6, tL0, tL1, tL2, up_up, wn_243_244, wn_243_245, wn_243_246, wn_243_247, wn_243_248, wn_243_249, wn_243_250, wn_243_251, wn_244_243, wn_244_245, wn_244_246, wn_244_247, wn_244_248, wn_244_249, wn_244_250, wn_244_251, wn_245_243, wn_245_244, wn_245_246, wn_245_247, wn_245_248, wn_245_249, wn_245_250, wn_245_251, wn_246_243, wn_246_244, wn_246_245, wn_246_247, wn_246_248, wn_246_249, wn_246_250, wn_246_251, wn_247_243, wn_247_244, wn_247_245, wn_247_246, wn_247_248, wn_247_249, wn_247_250, wn_247_251, wn_248_243, wn_248_244, wn_248_245, wn_248_246, wn_248_247, wn_248_249, wn_248_250, wn_248_251, wn_249_243, wn_249_244, wn_249_245, wn_249_246, wn_249_247, wn_249_248, wn_249_250, wn_249_251, wn_250_243, wn_250_244, wn_250_245, wn_250_246, wn_250_247, wn_250_248, wn_250_249, wn_250_251, wn_251_243, wn_251_244, wn_251_245, wn_251_246, wn_251_247, wn_251_248, wn_251_249, wn_251_250, NW_3, NW_5, NW_r3, NW_r5, NW_r4, NW_r9, NW_NW, up_same, Int.toNat_natCast, row_17a, row_17b, row_17c, EW_4, EW_5, EW_3, EW_0]
  refine j_aload0 C dX9_isCause_16 ?_
  refine j_bipush C (by decide) dX9_isCause_17 ?_
  refine j_putI C fX9_51 at_243 rfl ty_7_7 ⟨by omega, by omega⟩ dX9_isCause_19 ?_
  try simp only [wi_wf, wf_same, wf_wf, tM0, tM1, tM2, tM3, tM4, tM5, tM6, tB0, tB1, tB2, tB3, tB4, tB5, tB6, tL0, tL1, tL2, up_up, wn_243_244, wn_243_245, wn_243_246, wn_243_247, wn_243_248, wn_243_249, wn_243_250, wn_243_251, wn_244_243, wn_244_245, wn_244_246, wn_244_247, wn_244_248, wn_244_249, wn_244_250, wn_244_251, wn_245_243, wn_245_244, wn_245_246, wn_245_247, wn_245_248, wn_245_249, wn_245_250, wn_245_251, wn_246_243, wn_246_244, wn_246_245, wn_246_247, wn_246_248, wn_246_249, wn_246_250, wn_246_251, wn_247_243, wn_247_244, wn_247_245, wn_247_246, wn_247_248, wn_247_249, wn_247_250, wn_247_251, wn_248_243, wn_248_244, wn_248_245, wn_248_246, wn_248_247, wn_248_249, wn_248_250, wn_248_251, wn_249_243, wn_249_244, wn_249_245, wn_249_246, wn_249_247, wn_249_248, wn_249_250, wn_249_251, wn_250_243, wn_250_244, wn_250_245, wn_250_246, wn_250_247, wn_250_248, wn_250_249, wn_250_251, wn_251_243, wn_251_244, wn_251_245, wn_251_246, wn_251_247, wn_251_248, wn_251_249, wn_251_250, NW_3, NW_5, NW_r3, NW_r5, NW_r4, NW_r9, NW_NW, up_same, Int.toNat_natCast, row_17a, row_17b, row_17c, EW_4, EW_5, EW_3, EW_0]
  refine j_aload0 C dX9_isCause_22 ?_
  refine j_iload1 C dX9_isCause_23 ?_
  refine j_putI C fX9_54 at_243 rfl ty_7_8 ⟨by omega, by omega⟩ dX9_isCause_24 ?_
  try simp only [wi_wf, wf_same, wf_wf, tM0, tM1, tM2, tM3, tM4, tM5, tM6, tB0, tB1, tB2, tB3, tB4, tB5, tB6, tL0, tL1, tL2, up_up, wn_243_244, wn_243_245, wn_243_246, wn_243_247, wn_243_248, wn_243_249, wn_243_250, wn_243_251, wn_244_243, wn_244_245, wn_244_246, wn_244_247, wn_244_248, wn_244_249, wn_244_250, wn_244_251, wn_245_243, wn_245_244, wn_245_246, wn_245_247, wn_245_248, wn_245_249, wn_245_250, wn_245_251, wn_246_243, wn_246_244, wn_246_245, wn_246_247, wn_246_248, wn_246_249, wn_246_250, wn_246_251, wn_247_243, wn_247_244, wn_247_245, wn_247_246, wn_247_248, wn_247_249, wn_247_250, wn_247_251, wn_248_243, wn_248_244, wn_248_245, wn_248_246, wn_248_247, wn_248_249, wn_248_250, wn_248_251, wn_249_243, wn_249_244, wn_249_245, wn_249_246, wn_249_247, wn_249_248, wn_249_250, wn_249_251, wn_250_243, wn_250_244, wn_250_245, wn_250_246, wn_250_247, wn_250_248, wn_250_249, wn_250_251, wn_251_243, wn_251_244, wn_251_245, wn_251_246, wn_251_247, wn_251_248, wn_251_249, wn_251_250, NW_3, NW_5, NW_r3, NW_r5, NW_r4, NW_r9, NW_NW, up_same, Int.toNat_natCast, row_17a, row_17b, row_17c, EW_4, EW_5, EW_3, EW_0]
  refine j_vret C hrt dX9_isCause_27 ?_
  rfl
set_option maxRecDepth 100000 in
set_option maxHeartbeats 4000000 in
theorem c_X9_commands {Γ : Ga} {l : Launch} {ω : Wo} (hw : WM ω.2.1) {M : Int} (hI : RI M (ω.1 244))  {n : Nat} (h15 : ω.1 243 15 = (n : Int)) (hn : n ≤ 60) (hWI : WI (ω.1 244)) (hM : M + 70000 ≤ 100000000) (hz : ∀ y, 111 ≤ y → ω.1 245 y = 0) {c5 : Nat} (hc5 : ω.1 243 5 = (c5 : Int)) (hc8 : c5 ≤ 8) : CI Γ l yX9_commands cX9_commands 4 .int 7 [.ref (rl Γ 243)] ω (fun z ω' => CmdP ω n z ω') := by
  refine Met.ofJ (k := 3) [some (.ref (rl Γ 243)), none, none, none] (by decide) rfl rfl rfl (fun p e s mm args below meth c C hrt => ?_)
  refine j_aload0 C dX9_commands_0 ?_
  refine j_cVI0 C (c_X9_isText (n := n) (by exact hw) (by exact h15) hn) oX9_isText kX9_255 ⟨_, rfl, rfl⟩ at_243 ⟨by decide, by decide⟩ rfl (Nat.le_of_ble_eq_true rfl) ⟨by decide, by decide⟩ dX9_commands_1 ?_
  intro z0 w0 hz0 hp0
  obtain ⟨o, K, E, rfl, hq⟩ := hp0
  refine j_istore1 C rfl dX9_commands_4 ?_
  refine j_aload0 C dX9_commands_5 ?_
  refine j_iconst C dX9_commands_6 ?_
  refine j_putI C fX9_227 at_243 rfl ty_7_15 ⟨by omega, by omega⟩ dX9_commands_7 ?_
  try simp only [wi_wf, wf_same, wf_wf, tM0, tM1, tM2, tM3, tM4, tM5, tM6, tB0, tB1, tB2, tB3, tB4, tB5, tB6, tL0, tL1, tL2, up_up, wn_243_244, wn_243_245, wn_243_246, wn_243_247, wn_243_248, wn_243_249, wn_243_250, wn_243_251, wn_244_243, wn_244_245, wn_244_246, wn_244_247, wn_244_248, wn_244_249, wn_244_250, wn_244_251, wn_245_243, wn_245_244, wn_245_246, wn_245_247, wn_245_248, wn_245_249, wn_245_250, wn_245_251, wn_246_243, wn_246_244, wn_246_245, wn_246_247, wn_246_248, wn_246_249, wn_246_250, wn_246_251, wn_247_243, wn_247_244, wn_247_245, wn_247_246, wn_247_248, wn_247_249, wn_247_250, wn_247_251, wn_248_243, wn_248_244, wn_248_245, wn_248_246, wn_248_247, wn_248_249, wn_248_250, wn_248_251, wn_249_243, wn_249_244, wn_249_245, wn_249_246, wn_249_247, wn_249_248, wn_249_250, wn_249_251, wn_250_243, wn_250_244, wn_250_245, wn_250_246, wn_250_247, wn_250_248, wn_250_249, wn_250_251, wn_251_243, wn_251_244, wn_251_245, wn_251_246, wn_251_247, wn_251_248, wn_251_249, wn_251_250, NW_3, NW_5, NW_r3, NW_r5, NW_r4, NW_r9, NW_NW, up_same, Int.toNat_natCast, row_17a, row_17b, row_17c, EW_4, EW_5, EW_3, EW_0, refM_44, refM_45, refM_43]
  refine j_aload0 C dX9_commands_10 ?_
  refine j_iload1 C dX9_commands_11 ?_
  refine j_if_eq C ⟨by omega, by omega⟩ dX9_commands_12 (fun hc12 => ?_) (fun hc12 => ?_)
  · -- 12 T
    refine j_aload0 C dX9_commands_19 ?_
    refine j_geti C fX9_230 at_243 rfl (rfl : _ = (E : Int)) dX9_commands_20 (fun hr20 => ?_)
    try simp only [wf_same, wn_243_244, wn_243_245, wn_243_246, wn_243_247, wn_243_248, wn_243_249, wn_243_250, wn_243_251, wn_244_243, wn_244_245, wn_244_246, wn_244_247, wn_244_248, wn_244_249, wn_244_250, wn_244_251, wn_245_243, wn_245_244, wn_245_246, wn_245_247, wn_245_248, wn_245_249, wn_245_250, wn_245_251, wn_246_243, wn_246_244, wn_246_245, wn_246_247, wn_246_248, wn_246_249, wn_246_250, wn_246_251, wn_247_243, wn_247_244, wn_247_245, wn_247_246, wn_247_248, wn_247_249, wn_247_250, wn_247_251, wn_248_243, wn_248_244, wn_248_245, wn_248_246, wn_248_247, wn_248_249, wn_248_250, wn_248_251, wn_249_243, wn_249_244, wn_249_245, wn_249_246, wn_249_247, wn_249_248, wn_249_250, wn_249_251, wn_250_243, wn_250_244, wn_250_245, wn_250_246, wn_250_247, wn_250_248, wn_250_249, wn_250_251, wn_251_243, wn_251_244, wn_251_245, wn_251_246, wn_251_247, wn_251_248, wn_251_249, wn_251_250, NW_r3, NW_r5, NW_r4, NW_r9, up_same, Int.toNat_natCast, EW_4, EW_5, EW_3, EW_0, refM_44, refM_45, refM_43] at hr20 ⊢
    refine j_putI C fX9_25 at_243 rfl ty_7_11 ⟨by omega, by omega⟩ dX9_commands_23 ?_
    try simp only [wi_wf, wf_same, wf_wf, tM0, tM1, tM2, tM3, tM4, tM5, tM6, tB0, tB1, tB2, tB3, tB4, tB5, tB6, tL0, tL1, tL2, up_up, wn_243_244, wn_243_245, wn_243_246, wn_243_247, wn_243_248, wn_243_249, wn_243_250, wn_243_251, wn_244_243, wn_244_245, wn_244_246, wn_244_247, wn_244_248, wn_244_249, wn_244_250, wn_244_251, wn_245_243, wn_245_244, wn_245_246, wn_245_247, wn_245_248, wn_245_249, wn_245_250, wn_245_251, wn_246_243, wn_246_244, wn_246_245, wn_246_247, wn_246_248, wn_246_249, wn_246_250, wn_246_251, wn_247_243, wn_247_244, wn_247_245, wn_247_246, wn_247_248, wn_247_249, wn_247_250, wn_247_251, wn_248_243, wn_248_244, wn_248_245, wn_248_246, wn_248_247, wn_248_249, wn_248_250, wn_248_251, wn_249_243, wn_249_244, wn_249_245, wn_249_246, wn_249_247, wn_249_248, wn_249_250, wn_249_251, wn_250_243, wn_250_244, wn_250_245, wn_250_246, wn_250_247, wn_250_248, wn_250_249, wn_250_251, wn_251_243, wn_251_244, wn_251_245, wn_251_246, wn_251_247, wn_251_248, wn_251_249, wn_251_250, NW_3, NW_5, NW_r3, NW_r5, NW_r4, NW_r9, NW_NW, up_same, Int.toNat_natCast, row_17a, row_17b, row_17c, EW_4, EW_5, EW_3, EW_0, refM_44, refM_45, refM_43]
    refine j_aload0 C dX9_commands_26 ?_
    refine j_iload1 C dX9_commands_27 ?_
    refine j_if_ne C ⟨by omega, by omega⟩ dX9_commands_28 (fun hc28 => absurd hc28 (by omega)) (fun hc28 => ?_)
    refine j_iconst C dX9_commands_31 ?_
    refine j_goto C dX9_commands_32 ?_
    refine j_iconst C dX9_commands_36 ?_
    refine j_cVI2 C (c_X9_isThrown_1 (by exact hw) ⟨by omega, by omega⟩) oX9_isThrown kX9_207 ⟨_, rfl, rfl⟩ at_243 ⟨by decide, by decide⟩ rfl (Nat.le_of_ble_eq_true rfl) ⟨by decide, by decide⟩ dX9_commands_37 ?_
    rintro _ _ hz37 ⟨rfl, rfl⟩
    try simp only [wi_wf, wf_same, wf_wf, tM0, tM1, tM2, tM3, tM4, tM5, tM6, tB0, tB1, tB2, tB3, tB4, tB5, tB6, tL0, tL1, tL2, up_up, wn_243_244, wn_243_245, wn_243_246, wn_243_247, wn_243_248, wn_243_249, wn_243_250, wn_243_251, wn_244_243, wn_244_245, wn_244_246, wn_244_247, wn_244_248, wn_244_249, wn_244_250, wn_244_251, wn_245_243, wn_245_244, wn_245_246, wn_245_247, wn_245_248, wn_245_249, wn_245_250, wn_245_251, wn_246_243, wn_246_244, wn_246_245, wn_246_247, wn_246_248, wn_246_249, wn_246_250, wn_246_251, wn_247_243, wn_247_244, wn_247_245, wn_247_246, wn_247_248, wn_247_249, wn_247_250, wn_247_251, wn_248_243, wn_248_244, wn_248_245, wn_248_246, wn_248_247, wn_248_249, wn_248_250, wn_248_251, wn_249_243, wn_249_244, wn_249_245, wn_249_246, wn_249_247, wn_249_248, wn_249_250, wn_249_251, wn_250_243, wn_250_244, wn_250_245, wn_250_246, wn_250_247, wn_250_248, wn_250_249, wn_250_251, wn_251_243, wn_251_244, wn_251_245, wn_251_246, wn_251_247, wn_251_248, wn_251_249, wn_251_250, NW_3, NW_5, NW_r3, NW_r5, NW_r4, NW_r9, NW_NW, up_same, Int.toNat_natCast, row_17a, row_17b, row_17c, EW_4, EW_5, EW_3, EW_0, refM_44, refM_45, refM_43] at hz37 ⊢
    refine j_if_eq C (by decide) dX9_commands_40 (fun hc => absurd hc (by decide)) (fun _ => ?_)
    refine j_iconst C dX9_commands_43 ?_
    refine j_iret C hrt dX9_commands_44 ⟨by omega, by omega⟩ ?_
    have hqq : prs (ω.1 249) n 21 0 = ((E : Int), K) := by
      rcases hq with q | q
      · exact absurd (q.1.symm.trans hc12) (by decide)
      · exact q.2
    refine ⟨o, K, E, by rw [hqq], Or.inl ⟨by rw [hqq]; show (E : Int) ≠ -1; omega, rfl, by rw [hqq]⟩⟩
  · -- 12 F
    refine j_iconst C dX9_commands_15 ?_
    refine j_goto C dX9_commands_16 ?_
    refine j_putI C fX9_25 at_243 rfl ty_7_11 ⟨by omega, by omega⟩ dX9_commands_23 ?_
    try simp only [wi_wf, wf_same, wf_wf, tM0, tM1, tM2, tM3, tM4, tM5, tM6, tB0, tB1, tB2, tB3, tB4, tB5, tB6, tL0, tL1, tL2, up_up, wn_243_244, wn_243_245, wn_243_246, wn_243_247, wn_243_248, wn_243_249, wn_243_250, wn_243_251, wn_244_243, wn_244_245, wn_244_246, wn_244_247, wn_244_248, wn_244_249, wn_244_250, wn_244_251, wn_245_243, wn_245_244, wn_245_246, wn_245_247, wn_245_248, wn_245_249, wn_245_250, wn_245_251, wn_246_243, wn_246_244, wn_246_245, wn_246_247, wn_246_248, wn_246_249, wn_246_250, wn_246_251, wn_247_243, wn_247_244, wn_247_245, wn_247_246, wn_247_248, wn_247_249, wn_247_250, wn_247_251, wn_248_243, wn_248_244, wn_248_245, wn_248_246, wn_248_247, wn_248_249, wn_248_250, wn_248_251, wn_249_243, wn_249_244, wn_249_245, wn_249_246, wn_249_247, wn_249_248, wn_249_250, wn_249_251, wn_250_243, wn_250_244, wn_250_245, wn_250_246, wn_250_247, wn_250_248, wn_250_249, wn_250_251, wn_251_243, wn_251_244, wn_251_245, wn_251_246, wn_251_247, wn_251_248, wn_251_249, wn_251_250, NW_3, NW_5, NW_r3, NW_r5, NW_r4, NW_r9, NW_NW, up_same, Int.toNat_natCast, row_17a, row_17b, row_17c, EW_4, EW_5, EW_3, EW_0, refM_44, refM_45, refM_43]
    refine j_aload0 C dX9_commands_26 ?_
    refine j_iload1 C dX9_commands_27 ?_
    refine j_if_ne C ⟨by omega, by omega⟩ dX9_commands_28 (fun hc28 => ?_) (fun hc28 => absurd hc28 (by omega))
    refine j_iconst C dX9_commands_35 ?_
    refine j_iconst C dX9_commands_36 ?_
    refine j_cVI2 C (c_X9_isThrown_0 (by exact hw) ⟨by omega, by omega⟩) oX9_isThrown kX9_207 ⟨_, rfl, rfl⟩ at_243 ⟨by decide, by decide⟩ rfl (Nat.le_of_ble_eq_true rfl) ⟨by decide, by decide⟩ dX9_commands_37 ?_
    rintro _ _ hz37 ⟨rfl, rfl⟩
    try simp only [wi_wf, wf_same, wf_wf, tM0, tM1, tM2, tM3, tM4, tM5, tM6, tB0, tB1, tB2, tB3, tB4, tB5, tB6, tL0, tL1, tL2, up_up, wn_243_244, wn_243_245, wn_243_246, wn_243_247, wn_243_248, wn_243_249, wn_243_250, wn_243_251, wn_244_243, wn_244_245, wn_244_246, wn_244_247, wn_244_248, wn_244_249, wn_244_250, wn_244_251, wn_245_243, wn_245_244, wn_245_246, wn_245_247, wn_245_248, wn_245_249, wn_245_250, wn_245_251, wn_246_243, wn_246_244, wn_246_245, wn_246_247, wn_246_248, wn_246_249, wn_246_250, wn_246_251, wn_247_243, wn_247_244, wn_247_245, wn_247_246, wn_247_248, wn_247_249, wn_247_250, wn_247_251, wn_248_243, wn_248_244, wn_248_245, wn_248_246, wn_248_247, wn_248_249, wn_248_250, wn_248_251, wn_249_243, wn_249_244, wn_249_245, wn_249_246, wn_249_247, wn_249_248, wn_249_250, wn_249_251, wn_250_243, wn_250_244, wn_250_245, wn_250_246, wn_250_247, wn_250_248, wn_250_249, wn_250_251, wn_251_243, wn_251_244, wn_251_245, wn_251_246, wn_251_247, wn_251_248, wn_251_249, wn_251_250, NW_3, NW_5, NW_r3, NW_r5, NW_r4, NW_r9, NW_NW, up_same, Int.toNat_natCast, row_17a, row_17b, row_17c, EW_4, EW_5, EW_3, EW_0, refM_44, refM_45, refM_43] at hz37 ⊢
    refine j_if_eq C (by decide) dX9_commands_40 (fun _ => ?_) (fun hc => absurd hc (by decide))
    refine j_aload0 C dX9_commands_45 ?_
    refine j_cVV0 C (c_X9_keeps (by exact hw) (by exact hI) (by exact hz)) oX9_keeps kX9_94 ⟨_, rfl, rfl⟩ at_243 ⟨by decide, by decide⟩ rfl (Nat.le_of_ble_eq_true rfl) ⟨by decide, by decide⟩ dX9_commands_46 ?_
    rintro _ rfl
    refine j_conv rfl rfl (show _ = EW ω (RR ω K E) o (tD (ω.1 249) n) (tA (ω.1 249) n) (tB (ω.1 249) n) 0 from ?_) ?_
    · first | exact kp_EW | (rw [kp_EW (D := tD (ω.1 249) n) (A := tA (ω.1 249) n) (B := tB (ω.1 249) n)]; unfold RR; simp only [up_up])
    refine j_iconst C dX9_commands_49 ?_
    refine j_istore2 C rfl dX9_commands_50 ?_
    have hqq : prs (ω.1 249) n 21 0 = (-1, K) ∧ K ≤ 20 ∧ ∀ j : Nat, j < K → cOk (ω.1 249) n (psn (ω.1 249) n j) ∧ cRd (ω.1 249) n (psn (ω.1 249) n j) o j := by
      rcases hq with q | q
      · exact q.2
      · exact absurd q.1 hc12
    obtain ⟨hP, hK20, hall⟩ := hqq
    have hD8 : ∀ j : Nat, j < K → tD (ω.1 249) n j ≤ 8 := fun j hj => dOf_8 ((dOf_w _).mp (hall j hj).1.1)
    have hP1 : (prs (ω.1 249) n 21 0).1 = -1 := by rw [hP]
    have hP2 : K = (prs (ω.1 249) n 21 0).2 := by rw [hP]
    have loop51 : ∀ (N : Nat) (k : Nat), (K - k) < N → (k ≤ K) → (∀ j : Nat, j < k → (jd (tD (ω.1 249) n j) (exc (ω.1 244) (tD (ω.1 249) n) (tA (ω.1 249) n) (tB (ω.1 249) n) j) (tA (ω.1 249) n j) (tB (ω.1 249) n j)).1 = 0) → (excN (ω.1 244) (tD (ω.1 249) n) (tA (ω.1 249) n) (tB (ω.1 249) n) (K - k) k = excN (ω.1 244) (tD (ω.1 249) n) (tA (ω.1 249) n) (tB (ω.1 249) n) K 0) → J Γ p l e (rmk 7 0 0) s mm args below meth c (MQ below (QI Γ (fun z ω' => CmdP ω n z ω')) args s 0 0 (gA Γ)) 254 0 0 51 [some (.ref (rl Γ 243)), some (.int (iI z0)), some (.int (iI ((k : Nat) : Int))), none] [] (EW ω (RR ω K E) o (tD (ω.1 249) n) (tA (ω.1 249) n) (tB (ω.1 249) n) k) := by
      intro N
      induction N with
      | zero => intro k hN; exact absurd hN (Nat.not_lt_zero _)
      | succ N ih51 =>
        intro k hN hkK hjj hxN
        have hRk := exc_keep hI hWI (D := tD (ω.1 249) n) (A := tA (ω.1 249) n) (B := tB (ω.1 249) n) k (by omega) (fun j hj => ⟨hD8 j (by omega), hjj j hj⟩)
        refine j_iload2 C dX9_commands_51 ?_
        refine j_aload0 C dX9_commands_52 ?_
        refine j_geti C fX9_236 at_243 rfl (rfl : _ = (K : Int)) dX9_commands_53 (fun hr53 => ?_)
        try simp only [wf_same, wn_243_244, wn_243_245, wn_243_246, wn_243_247, wn_243_248, wn_243_249, wn_243_250, wn_243_251, wn_244_243, wn_244_245, wn_244_246, wn_244_247, wn_244_248, wn_244_249, wn_244_250, wn_244_251, wn_245_243, wn_245_244, wn_245_246, wn_245_247, wn_245_248, wn_245_249, wn_245_250, wn_245_251, wn_246_243, wn_246_244, wn_246_245, wn_246_247, wn_246_248, wn_246_249, wn_246_250, wn_246_251, wn_247_243, wn_247_244, wn_247_245, wn_247_246, wn_247_248, wn_247_249, wn_247_250, wn_247_251, wn_248_243, wn_248_244, wn_248_245, wn_248_246, wn_248_247, wn_248_249, wn_248_250, wn_248_251, wn_249_243, wn_249_244, wn_249_245, wn_249_246, wn_249_247, wn_249_248, wn_249_250, wn_249_251, wn_250_243, wn_250_244, wn_250_245, wn_250_246, wn_250_247, wn_250_248, wn_250_249, wn_250_251, wn_251_243, wn_251_244, wn_251_245, wn_251_246, wn_251_247, wn_251_248, wn_251_249, wn_251_250, NW_r3, NW_r5, NW_r4, NW_r9, up_same, Int.toNat_natCast, EW_4, EW_5, EW_3, EW_0, refM_44, refM_45, refM_43] at hr53 ⊢
        refine j_icmp_ge C ⟨by omega, by omega⟩ ⟨by omega, by omega⟩ dX9_commands_56 (fun hc56 => ?_) (fun hc56 => ?_)
        · -- 56 T
          refine j_aload0 C dX9_commands_105 ?_
          refine j_aload0 C dX9_commands_106 ?_
          refine j_geti C fX9_236 at_243 rfl (rfl : _ = (K : Int)) dX9_commands_107 (fun hr107 => ?_)
          try simp only [wf_same, wn_243_244, wn_243_245, wn_243_246, wn_243_247, wn_243_248, wn_243_249, wn_243_250, wn_243_251, wn_244_243, wn_244_245, wn_244_246, wn_244_247, wn_244_248, wn_244_249, wn_244_250, wn_244_251, wn_245_243, wn_245_244, wn_245_246, wn_245_247, wn_245_248, wn_245_249, wn_245_250, wn_245_251, wn_246_243, wn_246_244, wn_246_245, wn_246_247, wn_246_248, wn_246_249, wn_246_250, wn_246_251, wn_247_243, wn_247_244, wn_247_245, wn_247_246, wn_247_248, wn_247_249, wn_247_250, wn_247_251, wn_248_243, wn_248_244, wn_248_245, wn_248_246, wn_248_247, wn_248_249, wn_248_250, wn_248_251, wn_249_243, wn_249_244, wn_249_245, wn_249_246, wn_249_247, wn_249_248, wn_249_250, wn_249_251, wn_250_243, wn_250_244, wn_250_245, wn_250_246, wn_250_247, wn_250_248, wn_250_249, wn_250_251, wn_251_243, wn_251_244, wn_251_245, wn_251_246, wn_251_247, wn_251_248, wn_251_249, wn_251_250, NW_r3, NW_r5, NW_r4, NW_r9, up_same, Int.toNat_natCast, EW_4, EW_5, EW_3, EW_0, refM_44, refM_45, refM_43] at hr107 ⊢
          refine j_iconst C dX9_commands_110 ?_
          refine j_cVI2 C (c_X9_ends_ok (by exact hw) ⟨by omega, by omega⟩ (by decide) rfl (by exact hc5) hc8) oX9_ends kX9_100 ⟨_, rfl, rfl⟩ at_243 ⟨by decide, by decide⟩ rfl (Nat.le_of_ble_eq_true rfl) ⟨by decide, by decide⟩ dX9_commands_111 ?_
          rintro _ _ hz111 ⟨rfl, rfl⟩
          refine j_iret C hrt dX9_commands_114 ⟨by omega, by omega⟩ ?_
          have hkk : k = K := by omega
          subst hkk
          exact ⟨o, k, E, hP2, Or.inr (Or.inr ⟨hP1, hK20, hD8, hjj, rfl, rfl⟩)⟩
        · -- 56 F
          refine j_aload0 C dX9_commands_59 ?_
          refine j_iconst C dX9_commands_60 ?_
          refine j_iload2 C dX9_commands_61 ?_
          refine j_imul C dX9_commands_62 ?_
          refine j_conv rfl (cons_i (b := ((3 * k : Nat) : Int)) (by omega) _) rfl ?_
          have hkl : k < K := by omega
          have hck := hall k hkl
          have hlk : isW (o (3 * k)) := by rw [hck.2.1]; exact (dOf_w _).mp hck.1.1
          refine j_cVI1 C (c_X9_does (k := k) (by exact hw) (by exact hRk.1) (by omega) (by exact hlk) (by exact hRk.2.1) (by exact hRk.2.2.1) (by omega)) oX9_does kX9_258 ⟨_, rfl, rfl⟩ at_243 ⟨by decide, by decide⟩ rfl (Nat.le_of_ble_eq_true rfl) ⟨by decide, by decide⟩ dX9_commands_63 ?_
          intro z1 w1 hz1 hd1
          have hd2 := DoM_rd (t := (ω.1 249)) (n := n) hck.2 hd1
          refine j_istore3 C rfl dX9_commands_66 ?_
          refine j_aload0 C dX9_commands_67 ?_
          refine j_geti C fX9_38 at_243 rfl rfl dX9_commands_68 (fun hr68 => ?_)
          try simp only [wf_same, wn_243_244, wn_243_245, wn_243_246, wn_243_247, wn_243_248, wn_243_249, wn_243_250, wn_243_251, wn_244_243, wn_244_245, wn_244_246, wn_244_247, wn_244_248, wn_244_249, wn_244_250, wn_244_251, wn_245_243, wn_245_244, wn_245_246, wn_245_247, wn_245_248, wn_245_249, wn_245_250, wn_245_251, wn_246_243, wn_246_244, wn_246_245, wn_246_247, wn_246_248, wn_246_249, wn_246_250, wn_246_251, wn_247_243, wn_247_244, wn_247_245, wn_247_246, wn_247_248, wn_247_249, wn_247_250, wn_247_251, wn_248_243, wn_248_244, wn_248_245, wn_248_246, wn_248_247, wn_248_249, wn_248_250, wn_248_251, wn_249_243, wn_249_244, wn_249_245, wn_249_246, wn_249_247, wn_249_248, wn_249_250, wn_249_251, wn_250_243, wn_250_244, wn_250_245, wn_250_246, wn_250_247, wn_250_248, wn_250_249, wn_250_251, wn_251_243, wn_251_244, wn_251_245, wn_251_246, wn_251_247, wn_251_248, wn_251_249, wn_251_250, NW_r3, NW_r5, NW_r4, NW_r9, up_same, Int.toNat_natCast, EW_4, EW_5, EW_3, EW_0, refM_44, refM_45, refM_43] at hr68 ⊢
          refine j_if_eq C ⟨by omega, by omega⟩ dX9_commands_71 (fun hc71 => ?_) (fun hc71 => ?_)
          · -- 71 T
            obtain ⟨rfl, hjk⟩ := DoM_t hd2 hc71
            refine j_iinc2n C rfl dX9_commands_99 ?_
            refine j_goto C dX9_commands_102 ?_
            exact j_fg (ih51 (k + 1) (by omega) (by omega) (fun j hj => by
              by_cases q : j < k
              · exact hjj j q
              · have : j = k := by omega
                subst this; exact hjk) (excN_nx (by omega) hxN hjk)) ⟨Or.inr rfl, Or.inr rfl, Or.inr rfl, Or.inl rfl, trivial⟩ rfl
          · -- 71 F
            obtain ⟨rfl, rfl, hjk⟩ := DoM_f hd2 rfl hc71
            refine j_aload0 C dX9_commands_74 ?_
            refine j_iload2 C dX9_commands_75 ?_
            refine j_cVV1 C (c_X9_isCause (by exact hw) ⟨by omega, by omega⟩) oX9_isCause kX9_261 ⟨_, rfl, rfl⟩ at_243 ⟨by decide, by decide⟩ rfl (Nat.le_of_ble_eq_true rfl) ⟨by decide, by decide⟩ dX9_commands_76 ?_
            rintro _ rfl
            simp only [wi_wf, wf_same, wf_wf, tM0, tM1, tM2, tM3, tM4, tM5, tM6, tB0, tB1, tB2, tB3, tB4, tB5, tB6, tL0, tL1, tL2, up_up, wn_243_244, wn_243_245, wn_243_246, wn_243_247, wn_243_248, wn_243_249, wn_243_250, wn_243_251, wn_244_243, wn_244_245, wn_244_246, wn_244_247, wn_244_248, wn_244_249, wn_244_250, wn_244_251, wn_245_243, wn_245_244, wn_245_246, wn_245_247, wn_245_248, wn_245_249, wn_245_250, wn_245_251, wn_246_243, wn_246_244, wn_246_245, wn_246_247, wn_246_248, wn_246_249, wn_246_250, wn_246_251, wn_247_243, wn_247_244, wn_247_245, wn_247_246, wn_247_248, wn_247_249, wn_247_250, wn_247_251, wn_248_243, wn_248_244, wn_248_245, wn_248_246, wn_248_247, wn_248_249, wn_248_250, wn_248_251, wn_249_243, wn_249_244, wn_249_245, wn_249_246, wn_249_247, wn_249_248, wn_249_250, wn_249_251, wn_250_243, wn_250_244, wn_250_245, wn_250_246, wn_250_247, wn_250_248, wn_250_249, wn_250_251, wn_251_243, wn_251_244, wn_251_245, wn_251_246, wn_251_247, wn_251_248, wn_251_249, wn_251_250, NW_3, NW_5, NW_r3, NW_r5, NW_r4, NW_r9, NW_NW, up_same, Int.toNat_natCast, row_17a, row_17b, row_17c, EW_4, EW_5, EW_3, EW_0, refM_44, refM_45, refM_43]
            refine j_aload0 C dX9_commands_79 ?_
            refine j_getr C fX9_13 at_243 rfl hw.r1 dX9_commands_80 ?_
            refine j_iconst C dX9_commands_83 ?_
            refine j_aload0 C dX9_commands_84 ?_
            refine j_getr C fX9_9 at_243 rfl hw.r0 dX9_commands_85 ?_
            refine j_iconst C dX9_commands_88 ?_
            refine j_cSV4 C (c_X9_copies (f := 0) (g := 0) (n1 := 111) (n2 := 111) at_245 ⟨rfl, rfl⟩ rfl at_244 ⟨rfl, rfl⟩ rfl (by omega) (by omega) (by decide) (Or.inl (by decide))) oX9_copies kX9_41 ⟨by decide, by decide⟩ rfl (Nat.le_of_ble_eq_true rfl) ⟨by decide, by decide⟩ dX9_commands_89 ?_
            rintro _ rfl
            simp only [wi_wf, wf_same, wf_wf, tM0, tM1, tM2, tM3, tM4, tM5, tM6, tB0, tB1, tB2, tB3, tB4, tB5, tB6, tL0, tL1, tL2, up_up, wn_243_244, wn_243_245, wn_243_246, wn_243_247, wn_243_248, wn_243_249, wn_243_250, wn_243_251, wn_244_243, wn_244_245, wn_244_246, wn_244_247, wn_244_248, wn_244_249, wn_244_250, wn_244_251, wn_245_243, wn_245_244, wn_245_246, wn_245_247, wn_245_248, wn_245_249, wn_245_250, wn_245_251, wn_246_243, wn_246_244, wn_246_245, wn_246_247, wn_246_248, wn_246_249, wn_246_250, wn_246_251, wn_247_243, wn_247_244, wn_247_245, wn_247_246, wn_247_248, wn_247_249, wn_247_250, wn_247_251, wn_248_243, wn_248_244, wn_248_245, wn_248_246, wn_248_247, wn_248_249, wn_248_250, wn_248_251, wn_249_243, wn_249_244, wn_249_245, wn_249_246, wn_249_247, wn_249_248, wn_249_250, wn_249_251, wn_250_243, wn_250_244, wn_250_245, wn_250_246, wn_250_247, wn_250_248, wn_250_249, wn_250_251, wn_251_243, wn_251_244, wn_251_245, wn_251_246, wn_251_247, wn_251_248, wn_251_249, wn_251_250, NW_3, NW_5, NW_r3, NW_r5, NW_r4, NW_r9, NW_NW, up_same, Int.toNat_natCast, row_17a, row_17b, row_17c, EW_4, EW_5, EW_3, EW_0, refM_44, refM_45, refM_43]
            rw [cpy_full hI.z hRk.1.z]
            refine j_aload0 C dX9_commands_92 ?_
            refine j_iload3 C dX9_commands_93 ?_
            refine j_iconst C dX9_commands_94 ?_
            refine j_cVI2 C (c_X9_ends_no (by exact hw) (by decide) (by decide) rfl) oX9_ends kX9_100 ⟨_, rfl, rfl⟩ at_243 ⟨by decide, by decide⟩ rfl (Nat.le_of_ble_eq_true rfl) ⟨by decide, by decide⟩ dX9_commands_95 ?_
            rintro _ _ hz95 ⟨rfl, rfl⟩
            refine j_iret C hrt dX9_commands_98 ⟨by omega, by omega⟩ ?_
            have hR := excN_at (by omega) hxN hjk
            refine ⟨o, K, E, hP2, Or.inr (Or.inl ⟨hP1, hK20, hD8, by omega, rfl, ?_⟩)⟩
            rw [hR]
            exact cmd_no
    exact j_fg (loop51 _ 0 (Nat.lt_succ_self _) (Nat.zero_le _) (fun j q => absurd q (Nat.not_lt_zero _)) rfl) ⟨Or.inr rfl, Or.inr rfl, Or.inr rfl, Or.inr rfl, trivial⟩ rfl
