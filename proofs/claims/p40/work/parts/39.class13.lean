set_option maxRecDepth 100000 in
set_option maxHeartbeats 4000000 in
theorem c_X7_judgeGiveBack {Γ : Ga} {l : Launch} {ω : Wo} {B : Nat} (hB : Bs B) {σ : Row} (hS : St ω B σ) {M : Int} (hI : RI M σ) (hWI : WI σ)  {a : Int} (ha : Rg a) : CV Γ l yX7_judgeGiveBack cX7_judgeGiveBack 3 3 [.ref (rl Γ B), .int (iI a), .ref (rl Γ 67)] ω (fun ω' => ω' = RF ω 67 (jd 6 σ a 0).1 (jd 6 σ a 0).2) := by
  refine Met.ofJ (k := 0) [some (.ref (rl Γ B)), some (.int (iI a)), some (.ref (rl Γ 67))] (by decide) rfl rfl rfl (fun p e s mm args below meth c C hrt => ?_)
  have g := hI.s
  have gc := hI.c
  have gM := hI.2.1
  have g1 := oarsUp_rg hI (cL σ) gc.2.2.2
  have g2 := outUp_rg hI (cB σ) gc.2.1.2
  have gf : freeO σ = oarsUp σ (cL σ) - outUp σ (cB σ) := rfl
  refine j_aload0 C dX7_judgeGiveBack_0 ?_
  refine j_iload1 C dX7_judgeGiveBack_1 ?_
  refine j_cVI1 C (c_X7_hasLoan hB (by exact hS) (by exact hI) (by exact hWI) ⟨by omega, by omega⟩) oX7_hasLoan kX7_166 ⟨_, rfl, rfl⟩ (at_st hB) ⟨by decide, by decide⟩ rfl (Nat.le_of_ble_eq_true rfl) ⟨by decide, by decide⟩ dX7_judgeGiveBack_2 ?_
  rintro _ _ hz2 ⟨rfl, rfl⟩
  refine j_ifneb C dX7_judgeGiveBack_5 (fun hc5 => ?_) (fun hc5 => ?_)
  · -- 5 T
    obtain ⟨k, rfl⟩ := Int.eq_ofNat_of_zero_le hc5.1
    have gl := hI.l k (by omega)
    refine j_aload0 C dX7_judgeGiveBack_17 ?_
    refine j_getr C fX7_25 (at_st hB) rfl hS.r.a2 dX7_judgeGiveBack_18 ?_
    refine j_iload1 C dX7_judgeGiveBack_21 ?_
    obtain ⟨la22, ha22, hb22, hc22⟩ := hS.r.l k (by omega)
    refine j_aald C (at_lA hB) rfl (Cn := RX3) rfl (N := 4) rfl (by decide) ⟨by omega, by omega⟩ ha22 dX7_judgeGiveBack_22 ?_
    refine j_geti C fX7_169 (at_lx hB hb22 hc22) rfl (hS.l0 k (by omega) ha22) dX7_judgeGiveBack_23 (fun hr23 => ?_)
    refine j_aload0 C dX7_judgeGiveBack_26 ?_
    refine j_cVI0 C (c_X7_freeOars hB (by exact hS) (by exact hI) (by exact hWI)) oX7_freeOars kX7_129 ⟨_, rfl, rfl⟩ (at_st hB) ⟨by decide, by decide⟩ rfl (Nat.le_of_ble_eq_true rfl) ⟨by decide, by decide⟩ dX7_judgeGiveBack_27 ?_
    rintro _ _ hz27 ⟨rfl, rfl⟩
    refine j_icmp_le C ⟨by omega, by omega⟩ ⟨by omega, by omega⟩ dX7_judgeGiveBack_30 (fun hc30 => ?_) (fun hc30 => ?_)
    · -- 30 T
      refine j_aload2 C dX7_judgeGiveBack_56 ?_
      refine j_cVV0 C (c_X5_clear at_67) oX5_clear kX7_73 ⟨_, rfl, rfl⟩ at_67 ⟨by decide, by decide⟩ rfl (Nat.le_of_ble_eq_true rfl) ⟨by decide, by decide⟩ dX7_judgeGiveBack_57 ?_
      rintro _ rfl
      refine j_vret C hrt dX7_judgeGiveBack_60 ?_
      exact jdE (by simp only [jd, jA]; repeat (first | rw [if_pos (by omega)] | rw [if_neg (by omega)]))
    · -- 30 F
      refine j_aload2 C dX7_judgeGiveBack_33 ?_
      refine j_bipush C (by decide) dX7_judgeGiveBack_34 ?_
      refine j_aload0 C dX7_judgeGiveBack_36 ?_
      refine j_getr C fX7_25 (at_st hB) rfl hS.r.a2 dX7_judgeGiveBack_37 ?_
      refine j_iload1 C dX7_judgeGiveBack_40 ?_
      obtain ⟨la41, ha41, hb41, hc41⟩ := hS.r.l k (by omega)
      refine j_aald C (at_lA hB) rfl (Cn := RX3) rfl (N := 4) rfl (by decide) ⟨by omega, by omega⟩ ha41 dX7_judgeGiveBack_41 ?_
      refine j_geti C fX7_169 (at_lx hB hb41 hc41) rfl (hS.l0 k (by omega) ha41) dX7_judgeGiveBack_42 (fun hr42 => ?_)
      refine j_aload0 C dX7_judgeGiveBack_45 ?_
      refine j_cVI0 C (c_X7_freeOars hB (by exact hS) (by exact hI) (by exact hWI)) oX7_freeOars kX7_129 ⟨_, rfl, rfl⟩ (at_st hB) ⟨by decide, by decide⟩ rfl (Nat.le_of_ble_eq_true rfl) ⟨by decide, by decide⟩ dX7_judgeGiveBack_46 ?_
      rintro _ _ hz46 ⟨rfl, rfl⟩
      refine j_isub C dX7_judgeGiveBack_49 ?_
      refine j_cVV2 C (c_X5_set at_67 ⟨by omega, by omega⟩ ⟨by omega, by omega⟩) oX5_set kX7_67 ⟨_, rfl, rfl⟩ at_67 ⟨by decide, by decide⟩ rfl (Nat.le_of_ble_eq_true rfl) ⟨by decide, by decide⟩ dX7_judgeGiveBack_50 ?_
      rintro _ rfl
      refine j_goto C dX7_judgeGiveBack_53 ?_
      refine j_vret C hrt dX7_judgeGiveBack_60 ?_
      exact jdE (by simp only [jd, jA]; repeat (first | rw [if_pos (by omega)] | rw [if_neg (by omega)]))
  · -- 5 F
    refine j_aload2 C dX7_judgeGiveBack_8 ?_
    refine j_iconst C dX7_judgeGiveBack_9 ?_
    refine j_iload1 C dX7_judgeGiveBack_10 ?_
    refine j_cVV2 C (c_X5_set at_67 ⟨by omega, by omega⟩ ⟨by omega, by omega⟩) oX5_set kX7_67 ⟨_, rfl, rfl⟩ at_67 ⟨by decide, by decide⟩ rfl (Nat.le_of_ble_eq_true rfl) ⟨by decide, by decide⟩ dX7_judgeGiveBack_11 ?_
    rintro _ rfl
    refine j_goto C dX7_judgeGiveBack_14 ?_
    refine j_vret C hrt dX7_judgeGiveBack_60 ?_
    exact jdE (by simp only [jd, jA]; repeat (first | rw [if_pos (by omega)] | rw [if_neg (by omega)]))
set_option maxRecDepth 100000 in
set_option maxHeartbeats 4000000 in
theorem c_X8_judge {Γ : Ga} {l : Launch} {ω : Wo} (hsl : l.stackTraces = false) (hR : CR ω) {σ : Row} (hS : St ω 1 σ) {M : Int} (hI : RI M σ) (hWI : WI σ)  {i : Nat} (hi : i < 9) {a b : Int} (ha : Rg a) (hb : Rg b) : XV Γ l yX8_judge cX8_judge 4 6 0 [.ref (rl Γ 0), .ref (gad Γ i), .int (iI a), .int (iI b)] ω (fun ω' => ω' = RF ω 67 (jd i σ a b).1 (jd i σ a b).2) (fun E ω' => False) := by
  refine MetX.ofJ (k := 0) [some (.ref (rl Γ 0)), some (.ref (gad Γ i)), some (.int (iI a)), some (.int (iI b))] (by decide) rfl rfl rfl (fun p e s mm args below meth c C hK2 hxt hrt => ?_)
  have hB := bs1
  have g := hI.s
  have gc := hI.c
  have gM := hI.2.1
  refine j_swm C dX8_judge_0 ?_
  refine j_aload1 C dX8_judge_3 ?_
  refine j_ord C hK2 (by omega) (by decide) rfl (Nat.le_of_ble_eq_true rfl) ⟨by decide, by decide⟩ dX8_judge_4 ?_
  refine j_swi C (by omega) dX8_judge_7 ?_
  obtain h | h | h | h | h | h | h | h | h : i = 0 ∨ i = 1 ∨ i = 2 ∨ i = 3 ∨ i = 4 ∨ i = 5 ∨ i = 6 ∨ i = 7 ∨ i = 8 := by omega
  all_goals subst h
  · -- 8 case 1
    refine j_tswIn C (by decide) (by decide) (off := 48) rfl (tgt := 56) (by decide) dX8_judge_8 ?_
    refine j_aload0 C dX8_judge_56 ?_
    refine j_getr C fX8_12 at_0 rfl hR.1 dX8_judge_57 ?_
    refine j_iload2 C dX8_judge_60 ?_
    refine j_aload0 C dX8_judge_61 ?_
    refine j_getr C fX8_44 at_0 rfl hR.2.2.2.2.2.2.1 dX8_judge_62 ?_
    refine j_cVV2 C (c_X7_judgeMember hB (by exact hS) (by exact hI) (by exact hWI) ⟨by omega, by omega⟩) oX7_judgeMember kX8_397 ⟨_, rfl, rfl⟩ (at_st bs1) ⟨by decide, by decide⟩ rfl (Nat.le_of_ble_eq_true rfl) ⟨by decide, by decide⟩ dX8_judge_65 ?_
    rintro _ rfl
    refine j_goto C dX8_judge_68 ?_
    refine j_xr (by decide) ?_
    refine j_vret C hrt dX8_judge_191 ?_
    rfl
  · -- 8 case 2
    refine j_tswIn C (by decide) (by decide) (off := 63) rfl (tgt := 71) (by decide) dX8_judge_8 ?_
    refine j_aload0 C dX8_judge_71 ?_
    refine j_getr C fX8_12 at_0 rfl hR.1 dX8_judge_72 ?_
    refine j_iload2 C dX8_judge_75 ?_
    refine j_aload0 C dX8_judge_76 ?_
    refine j_getr C fX8_44 at_0 rfl hR.2.2.2.2.2.2.1 dX8_judge_77 ?_
    refine j_cVV2 C (c_X7_judgeLeave hB (by exact hS) (by exact hI) (by exact hWI) ⟨by omega, by omega⟩) oX7_judgeLeave kX8_401 ⟨_, rfl, rfl⟩ (at_st bs1) ⟨by decide, by decide⟩ rfl (Nat.le_of_ble_eq_true rfl) ⟨by decide, by decide⟩ dX8_judge_80 ?_
    rintro _ rfl
    refine j_goto C dX8_judge_83 ?_
    refine j_xr (by decide) ?_
    refine j_vret C hrt dX8_judge_191 ?_
    rfl
  · -- 8 case 3
    refine j_tswIn C (by decide) (by decide) (off := 78) rfl (tgt := 86) (by decide) dX8_judge_8 ?_
    refine j_aload0 C dX8_judge_86 ?_
    refine j_getr C fX8_12 at_0 rfl hR.1 dX8_judge_87 ?_
    refine j_iload2 C dX8_judge_90 ?_
    refine j_aload0 C dX8_judge_91 ?_
    refine j_getr C fX8_44 at_0 rfl hR.2.2.2.2.2.2.1 dX8_judge_92 ?_
    refine j_cVV2 C (c_X7_judgeTrain hB (by exact hS) (by exact hI) (by exact hWI) ⟨by omega, by omega⟩) oX7_judgeTrain kX8_404 ⟨_, rfl, rfl⟩ (at_st bs1) ⟨by decide, by decide⟩ rfl (Nat.le_of_ble_eq_true rfl) ⟨by decide, by decide⟩ dX8_judge_95 ?_
    rintro _ rfl
    refine j_goto C dX8_judge_98 ?_
    refine j_xr (by decide) ?_
    refine j_vret C hrt dX8_judge_191 ?_
    rfl
  · -- 8 case 4
    refine j_tswIn C (by decide) (by decide) (off := 93) rfl (tgt := 101) (by decide) dX8_judge_8 ?_
    refine j_aload0 C dX8_judge_101 ?_
    refine j_getr C fX8_12 at_0 rfl hR.1 dX8_judge_102 ?_
    refine j_iload2 C dX8_judge_105 ?_
    refine j_iload3 C dX8_judge_106 ?_
    refine j_aload0 C dX8_judge_107 ?_
    refine j_getr C fX8_44 at_0 rfl hR.2.2.2.2.2.2.1 dX8_judge_108 ?_
    refine j_cVV3 C (c_X7_judgeBoat hB (by exact hS) (by exact hI) (by exact hWI) ⟨by omega, by omega⟩ ⟨by omega, by omega⟩) oX7_judgeBoat kX8_407 ⟨_, rfl, rfl⟩ (at_st bs1) ⟨by decide, by decide⟩ rfl (Nat.le_of_ble_eq_true rfl) ⟨by decide, by decide⟩ dX8_judge_111 ?_
    rintro _ rfl
    refine j_goto C dX8_judge_114 ?_
    refine j_xr (by decide) ?_
    refine j_vret C hrt dX8_judge_191 ?_
    rfl
  · -- 8 case 5
    refine j_tswIn C (by decide) (by decide) (off := 109) rfl (tgt := 117) (by decide) dX8_judge_8 ?_
    refine j_aload0 C dX8_judge_117 ?_
    refine j_getr C fX8_12 at_0 rfl hR.1 dX8_judge_118 ?_
    refine j_iload2 C dX8_judge_121 ?_
    refine j_iload3 C dX8_judge_122 ?_
    refine j_aload0 C dX8_judge_123 ?_
    refine j_getr C fX8_44 at_0 rfl hR.2.2.2.2.2.2.1 dX8_judge_124 ?_
    refine j_cVV3 C (c_X7_judgeCall hB (by exact hS) (by exact hI) (by exact hWI) ⟨by omega, by omega⟩ ⟨by omega, by omega⟩) oX7_judgeCall kX8_205 ⟨_, rfl, rfl⟩ (at_st bs1) ⟨by decide, by decide⟩ rfl (Nat.le_of_ble_eq_true rfl) ⟨by decide, by decide⟩ dX8_judge_127 ?_
    rintro _ rfl
    refine j_goto C dX8_judge_130 ?_
    refine j_xr (by decide) ?_
    refine j_vret C hrt dX8_judge_191 ?_
    rfl
  · -- 8 case 6
    refine j_tswIn C (by decide) (by decide) (off := 125) rfl (tgt := 133) (by decide) dX8_judge_8 ?_
    refine j_aload0 C dX8_judge_133 ?_
    refine j_getr C fX8_12 at_0 rfl hR.1 dX8_judge_134 ?_
    refine j_iload2 C dX8_judge_137 ?_
    refine j_iload3 C dX8_judge_138 ?_
    refine j_aload0 C dX8_judge_139 ?_
    refine j_getr C fX8_44 at_0 rfl hR.2.2.2.2.2.2.1 dX8_judge_140 ?_
    refine j_cVV3 C (c_X7_judgeBorrow hB (by exact hS) (by exact hI) (by exact hWI) ⟨by omega, by omega⟩ ⟨by omega, by omega⟩) oX7_judgeBorrow kX8_410 ⟨_, rfl, rfl⟩ (at_st bs1) ⟨by decide, by decide⟩ rfl (Nat.le_of_ble_eq_true rfl) ⟨by decide, by decide⟩ dX8_judge_143 ?_
    rintro _ rfl
    refine j_goto C dX8_judge_146 ?_
    refine j_xr (by decide) ?_
    refine j_vret C hrt dX8_judge_191 ?_
    rfl
  · -- 8 case 7
    refine j_tswIn C (by decide) (by decide) (off := 141) rfl (tgt := 149) (by decide) dX8_judge_8 ?_
    refine j_aload0 C dX8_judge_149 ?_
    refine j_getr C fX8_12 at_0 rfl hR.1 dX8_judge_150 ?_
    refine j_iload2 C dX8_judge_153 ?_
    refine j_aload0 C dX8_judge_154 ?_
    refine j_getr C fX8_44 at_0 rfl hR.2.2.2.2.2.2.1 dX8_judge_155 ?_
    refine j_cVV2 C (c_X7_judgeGiveBack hB (by exact hS) (by exact hI) (by exact hWI) ⟨by omega, by omega⟩) oX7_judgeGiveBack kX8_413 ⟨_, rfl, rfl⟩ (at_st bs1) ⟨by decide, by decide⟩ rfl (Nat.le_of_ble_eq_true rfl) ⟨by decide, by decide⟩ dX8_judge_158 ?_
    rintro _ rfl
    refine j_goto C dX8_judge_161 ?_
    refine j_xr (by decide) ?_
    refine j_vret C hrt dX8_judge_191 ?_
    rfl
  · -- 8 case 8
    refine j_tswIn C (by decide) (by decide) (off := 156) rfl (tgt := 164) (by decide) dX8_judge_8 ?_
    refine j_aload0 C dX8_judge_164 ?_
    refine j_getr C fX8_12 at_0 rfl hR.1 dX8_judge_165 ?_
    refine j_iload2 C dX8_judge_168 ?_
    refine j_aload0 C dX8_judge_169 ?_
    refine j_getr C fX8_44 at_0 rfl hR.2.2.2.2.2.2.1 dX8_judge_170 ?_
    refine j_cVV2 C (c_X7_judgeLimit hB (by exact hS) (by exact hI) (by exact hWI) ⟨by omega, by omega⟩) oX7_judgeLimit kX8_416 ⟨_, rfl, rfl⟩ (at_st bs1) ⟨by decide, by decide⟩ rfl (Nat.le_of_ble_eq_true rfl) ⟨by decide, by decide⟩ dX8_judge_173 ?_
    rintro _ rfl
    refine j_goto C dX8_judge_176 ?_
    refine j_xr (by decide) ?_
    refine j_vret C hrt dX8_judge_191 ?_
    rfl
  · -- 8 case 0
    refine j_tswOut C (by decide) (by decide) (tgt := 179) (by decide) dX8_judge_8 ?_
    refine j_aload0 C dX8_judge_179 ?_
    refine j_getr C fX8_12 at_0 rfl hR.1 dX8_judge_180 ?_
    refine j_iload2 C dX8_judge_183 ?_
    refine j_aload0 C dX8_judge_184 ?_
    refine j_getr C fX8_44 at_0 rfl hR.2.2.2.2.2.2.1 dX8_judge_185 ?_
    refine j_cVV2 C (c_X7_judgePass hB (by exact hS) (by exact hI) (by exact hWI) ⟨by omega, by omega⟩) oX7_judgePass kX8_419 ⟨_, rfl, rfl⟩ (at_st bs1) ⟨by decide, by decide⟩ rfl (Nat.le_of_ble_eq_true rfl) ⟨by decide, by decide⟩ dX8_judge_188 ?_
    rintro _ rfl
    refine j_xr (by decide) ?_
    refine j_vret C hrt dX8_judge_191 ?_
    rfl
