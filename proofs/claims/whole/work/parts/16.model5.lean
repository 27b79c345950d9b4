set_option maxRecDepth 100000 in
set_option maxHeartbeats 4000000 in
theorem c_X9_lacking {Γ : Ga} {l : Launch} {ω : Wo} (hw : WM ω.2.1)  {b w : Int} (hb : 0 ≤ b ∧ b < 3) (hs : 2 ≤ sB (ω.1 244) b 1) (hw5 : w = 5 ∨ w = 7 ∨ w = 8 ∨ w = 9 ∨ w = 10 ∨ w = 11) (hw10 : w = 10 → 0 ≤ lst (ω.1 244) (ableS (ω.1 244)) 2) {M : Int} (hI : RI M (ω.1 244)) : CI Γ l yX9_lacking cX9_lacking 4 .int 3 [.ref (rl Γ 243), .int (iI b), .int (iI w)] ω (fun z ω' => z = lack (ω.1 244) b w ∧ ω = ω') := by
  refine Met.ofJ (k := 1) [some (.ref (rl Γ 243)), some (.int (iI b)), some (.int (iI w)), none] (by decide) rfl rfl rfl (fun p e s mm args below meth c C hrt => ?_)
  have g := hI.s
  have gc := hI.c
  have gb := hI.b b hb
  have ga := ableS_lt hI
  have gk : ∀ x, skl (ω.1 244) x = sklUp (ω.1 244) x (cM (ω.1 244)) := fun x => rfl
  have gbi := bitsUp_rg (ableS (ω.1 244)) 10
  have g1 := oarsUp_rg hI (cL (ω.1 244)) gc.2.2.2
  have g2 := outUp_rg hI (cB (ω.1 244)) gc.2.1.2
  have gf : freeO (ω.1 244) = oarsUp (ω.1 244) (cL (ω.1 244)) - outUp (ω.1 244) (cB (ω.1 244)) := rfl
  have gbn : bitsN (ableS (ω.1 244)) = bitsUp (ableS (ω.1 244)) 10 := rfl
  have gm : mustO (ω.1 244) b = (sB (ω.1 244) b 1 - 1) / 2 := rfl
  have gh := hgt_rg ((ω.1 244) 0)
  have gM := hI.2.1
  refine j_aload0 C dX9_lacking_0 ?_
  refine j_cVI0 C (c_X9_ableSet (by exact hw) hI) oX9_ableSet kX9_131 ⟨_, rfl, rfl⟩ at_243 ⟨by decide, by decide⟩ rfl (Nat.le_of_ble_eq_true rfl) ⟨by decide, by decide⟩ dX9_lacking_1 ?_
  rintro _ _ hz1 ⟨rfl, rfl⟩
  refine j_istore3 C rfl dX9_lacking_4 ?_
  refine j_iload2 C dX9_lacking_5 ?_
  rcases hw5 with rfl | rfl | rfl | rfl | rfl | rfl
  · -- 6 case 5
    refine j_tswIn C (by decide) (by decide) (off := 42) rfl (tgt := 48) (by decide) dX9_lacking_6 ?_
    refine j_iload1 C dX9_lacking_48 ?_
    refine j_iret C hrt dX9_lacking_49 ⟨by omega, by omega⟩ ?_
    refine ⟨?_, rfl⟩
    unfold lack
    try rw [hcx, Int.toNat_natCast]
    repeat (first | rw [if_pos (by omega)] | rw [if_neg (by omega)])
  · -- 6 case 7
    refine j_tswIn C (by decide) (by decide) (off := 44) rfl (tgt := 50) (by decide) dX9_lacking_6 ?_
    refine j_aload0 C dX9_lacking_50 ?_
    refine j_iload1 C dX9_lacking_51 ?_
    refine j_iconst C dX9_lacking_52 ?_
    refine j_cVI2 C (c_X9_ofBoat (by exact hw) (by omega) (by omega)) oX9_ofBoat kX9_72 ⟨_, rfl, rfl⟩ at_243 ⟨by decide, by decide⟩ rfl (Nat.le_of_ble_eq_true rfl) ⟨by decide, by decide⟩ dX9_lacking_53 ?_
    rintro _ _ hz53 ⟨rfl, rfl⟩
    refine j_aload0 C dX9_lacking_56 ?_
    refine j_aload0 C dX9_lacking_57 ?_
    refine j_getr C fX9_9 at_243 rfl hw.r0 dX9_lacking_58 ?_
    refine j_iconst C dX9_lacking_61 ?_
    refine j_ialdK C at_244 ⟨rfl, rfl⟩ (N := 111) rfl (by decide) (k := 0) rfl (by decide) dX9_lacking_62 (fun hr62 => ?_)
    refine j_cVI1 C (c_X9_heightAt (by exact hw) (by omega)) oX9_heightAt kX9_68 ⟨_, rfl, rfl⟩ at_243 ⟨by decide, by decide⟩ rfl (Nat.le_of_ble_eq_true rfl) ⟨by decide, by decide⟩ dX9_lacking_63 ?_
    rintro _ _ hz63 ⟨rfl, rfl⟩
    refine j_isub C dX9_lacking_66 ?_
    refine j_iret C hrt dX9_lacking_67 ⟨by omega, by omega⟩ ?_
    refine ⟨?_, rfl⟩
    unfold lack
    try rw [hcx, Int.toNat_natCast]
    repeat (first | rw [if_pos (by omega)] | rw [if_neg (by omega)])
  · -- 6 case 8
    refine j_tswIn C (by decide) (by decide) (off := 111) rfl (tgt := 117) (by decide) dX9_lacking_6 ?_
    refine j_iconst C dX9_lacking_117 ?_
    refine j_iret C hrt dX9_lacking_118 ⟨by omega, by omega⟩ ?_
    refine ⟨?_, rfl⟩
    unfold lack
    try rw [hcx, Int.toNat_natCast]
    repeat (first | rw [if_pos (by omega)] | rw [if_neg (by omega)])
  · -- 6 case 9
    refine j_tswIn C (by decide) (by decide) (off := 62) rfl (tgt := 68) (by decide) dX9_lacking_6 ?_
    refine j_aload0 C dX9_lacking_68 ?_
    refine j_iload1 C dX9_lacking_69 ?_
    refine j_iconst C dX9_lacking_70 ?_
    refine j_cVI2 C (c_X9_ofBoat (by exact hw) (by omega) (by omega)) oX9_ofBoat kX9_72 ⟨_, rfl, rfl⟩ at_243 ⟨by decide, by decide⟩ rfl (Nat.le_of_ble_eq_true rfl) ⟨by decide, by decide⟩ dX9_lacking_71 ?_
    rintro _ _ hz71 ⟨rfl, rfl⟩
    refine j_iload3 C dX9_lacking_74 ?_
    refine j_cSI1 C (c_X9_bits (by omega)) oX9_bits kX9_137 ⟨by decide, by decide⟩ rfl (Nat.le_of_ble_eq_true rfl) ⟨by decide, by decide⟩ dX9_lacking_75 ?_
    rintro _ _ hz75 ⟨rfl, rfl⟩
    refine j_isub C dX9_lacking_78 ?_
    refine j_iret C hrt dX9_lacking_79 ⟨by omega, by omega⟩ ?_
    refine ⟨?_, rfl⟩
    unfold lack
    try rw [hcx, Int.toNat_natCast]
    repeat (first | rw [if_pos (by omega)] | rw [if_neg (by omega)])
  · -- 6 case 10
    refine j_tswIn C (by decide) (by decide) (off := 74) rfl (tgt := 80) (by decide) dX9_lacking_6 ?_
    refine j_aload0 C dX9_lacking_80 ?_
    refine j_iload1 C dX9_lacking_81 ?_
    refine j_cVI1 C (c_X9_must (by exact hw) hb (by omega) (by exact hI)) oX9_must kX9_143 ⟨_, rfl, rfl⟩ at_243 ⟨by decide, by decide⟩ rfl (Nat.le_of_ble_eq_true rfl) ⟨by decide, by decide⟩ dX9_lacking_82 ?_
    rintro _ _ hz82 ⟨rfl, rfl⟩
    refine j_aload0 C dX9_lacking_85 ?_
    refine j_iload3 C dX9_lacking_86 ?_
    refine j_iconstN C (k := 1) rfl dX9_lacking_87 ?_
    refine j_aload0 C dX9_lacking_88 ?_
    refine j_iload3 C dX9_lacking_89 ?_
    refine j_iconst C dX9_lacking_90 ?_
    refine j_cVI2 C (c_X9_leastOf (by exact hw) (by omega) ⟨by omega, by omega⟩ (by exact hI)) oX9_leastOf kX9_134 ⟨_, rfl, rfl⟩ at_243 ⟨by decide, by decide⟩ rfl (Nat.le_of_ble_eq_true rfl) ⟨by decide, by decide⟩ dX9_lacking_91 ?_
    rintro _ _ hz91 ⟨rfl, rfl⟩
    obtain ⟨cx, hcx⟩ := Int.eq_ofNat_of_zero_le (show 0 ≤ lst (ω.1 244) (ableS (ω.1 244)) 2 from hw10 rfl)
    have hcxl := lst_lt hI (ableS (ω.1 244)) 2
    rw [hcx] at hcxl
    have hcxp := two_lt (show cx < 10 by omega)
    rw [hcx]
    refine j_ishl1 C (by omega) dX9_lacking_94 ?_
    refine j_iconst C dX9_lacking_95 ?_
    refine j_ixorm C (by omega) dX9_lacking_96 ?_
    refine j_iand C dX9_lacking_97 ?_
    rw [show ableS (ω.1 244) &&& (4294967295 - 2 ^ cx) = del (ableS (ω.1 244)) cx from rfl]
    have gs := sklUp_rg (ω.1 244) (del (ableS (ω.1 244)) cx) (cM (ω.1 244))
    have gk2 := gk (del (ableS (ω.1 244)) cx)
    refine j_cVI1 C (c_X9_skilled (by exact hw) (Nat.lt_of_le_of_lt (del_le _ _) (by omega)) (by exact hI)) oX9_skilled kX9_140 ⟨_, rfl, rfl⟩ at_243 ⟨by decide, by decide⟩ rfl (Nat.le_of_ble_eq_true rfl) ⟨by decide, by decide⟩ dX9_lacking_98 ?_
    rintro _ _ hz98 ⟨rfl, rfl⟩
    refine j_isub C dX9_lacking_101 ?_
    refine j_iret C hrt dX9_lacking_102 ⟨by omega, by omega⟩ ?_
    refine ⟨?_, rfl⟩
    unfold lack
    try rw [hcx, Int.toNat_natCast]
    repeat (first | rw [if_pos (by omega)] | rw [if_neg (by omega)])
  · -- 6 case 11
    refine j_tswIn C (by decide) (by decide) (off := 97) rfl (tgt := 103) (by decide) dX9_lacking_6 ?_
    refine j_aload0 C dX9_lacking_103 ?_
    refine j_iload1 C dX9_lacking_104 ?_
    refine j_iconst C dX9_lacking_105 ?_
    refine j_cVI2 C (c_X9_ofBoat (by exact hw) (by omega) (by omega)) oX9_ofBoat kX9_72 ⟨_, rfl, rfl⟩ at_243 ⟨by decide, by decide⟩ rfl (Nat.le_of_ble_eq_true rfl) ⟨by decide, by decide⟩ dX9_lacking_106 ?_
    rintro _ _ hz106 ⟨rfl, rfl⟩
    refine j_iconst C dX9_lacking_109 ?_
    refine j_isub C dX9_lacking_110 ?_
    refine j_aload0 C dX9_lacking_111 ?_
    refine j_cVI0 C (c_X9_freeOars (by exact hw) hI) oX9_freeOars kX9_152 ⟨_, rfl, rfl⟩ at_243 ⟨by decide, by decide⟩ rfl (Nat.le_of_ble_eq_true rfl) ⟨by decide, by decide⟩ dX9_lacking_112 ?_
    rintro _ _ hz112 ⟨rfl, rfl⟩
    refine j_isub C dX9_lacking_115 ?_
    refine j_iret C hrt dX9_lacking_116 ⟨by omega, by omega⟩ ?_
    refine ⟨?_, rfl⟩
    unfold lack
    try rw [hcx, Int.toNat_natCast]
    repeat (first | rw [if_pos (by omega)] | rw [if_neg (by omega)])
set_option maxRecDepth 100000 in
set_option maxHeartbeats 4000000 in
theorem c_X9_calls {Γ : Ga} {l : Launch} {ω : Wo} (hw : WM ω.2.1) {M : Int} (hI : RI M (ω.1 244))  {a b : Int} (ha : Rg a) (hb : Rg b) (hW2 : W2 (ω.1 244)) (hM : M + 1 ≤ 100000000) : CI Γ l yX9_calls cX9_calls 7 .int 5 [.ref (rl Γ 243), .int (iI a), .int (iI b)] ω (fun z ω' => DoM 4 ω a b z ω') := by
  refine Met.ofJ (k := 4) [some (.ref (rl Γ 243)), some (.int (iI a)), some (.int (iI b)), none, none, none, none] (by decide) rfl rfl rfl (fun p e s mm args below meth c C hrt => ?_)
  have g := hI.s
  have gc := hI.c
  refine j_aload0 C dX9_calls_0 ?_
  refine j_aload0 C dX9_calls_1 ?_
  refine j_iload1 C dX9_calls_2 ?_
  refine j_cVI1 C (c_X9_isBoat (by exact hw) ⟨by omega, by omega⟩ (by exact hI)) oX9_isBoat kX9_155 ⟨_, rfl, rfl⟩ at_243 ⟨by decide, by decide⟩ rfl (Nat.le_of_ble_eq_true rfl) ⟨by decide, by decide⟩ dX9_calls_3 ?_
  rintro _ _ hz3 ⟨rfl, rfl⟩
  try simp only [wi_wf, wf_same, wf_wf, tM0, tM1, tM2, tM3, tM4, tM5, tM6, tB0, tB1, tB2, tB3, tB4, tB5, tB6, tL0, tL1, tL2] at hz3 ⊢
  refine j_ifneb C dX9_calls_6 (fun hc6 => ?_) (fun hc6 => ?_)
  · -- 6 T
    refine j_iconst C dX9_calls_13 ?_
    refine j_iconst C dX9_calls_14 ?_
    refine j_iload1 C dX9_calls_15 ?_
    refine j_cVI3 C (c_X9_isRefused_0 (by exact hw) ⟨by omega, by omega⟩ ⟨by omega, by omega⟩) oX9_isRefused kX9_64 ⟨_, rfl, rfl⟩ at_243 ⟨by decide, by decide⟩ rfl (Nat.le_of_ble_eq_true rfl) ⟨by decide, by decide⟩ dX9_calls_16 ?_
    intro _ w9 _ h9
    obtain ⟨h8, h9⟩ := h9
    rw [h8, h9]
    clear h8 h9 w9
    refine j_if_ne C (by decide) dX9_calls_19 (fun hc => absurd hc (by decide)) (fun _ => ?_)
    refine j_aload0 C dX9_calls_22 ?_
    refine j_iload2 C dX9_calls_23 ?_
    refine j_iconst C dX9_calls_24 ?_
    refine j_bipush C (by decide) dX9_calls_25 ?_
    refine j_cSI3 C (c_X9_isIn ⟨by omega, by omega⟩ ⟨by omega, by omega⟩ ⟨by omega, by omega⟩) oX9_isIn kX9_60 ⟨by decide, by decide⟩ rfl (Nat.le_of_ble_eq_true rfl) ⟨by decide, by decide⟩ dX9_calls_27 ?_
    rintro _ _ hz27 ⟨rfl, rfl⟩
    try simp only [wi_wf, wf_same, wf_wf, tM0, tM1, tM2, tM3, tM4, tM5, tM6, tB0, tB1, tB2, tB3, tB4, tB5, tB6, tL0, tL1, tL2] at hz27 ⊢
    refine j_cVI1 C (c_X9_isOutside (by exact hw)) oX9_isOutside kX9_86 ⟨_, rfl, rfl⟩ at_243 ⟨by decide, by decide⟩ rfl (Nat.le_of_ble_eq_true rfl) ⟨by decide, by decide⟩ dX9_calls_30 ?_
    rintro _ _ hz30 ⟨rfl, rfl⟩
    try simp only [wi_wf, wf_same, wf_wf, tM0, tM1, tM2, tM3, tM4, tM5, tM6, tB0, tB1, tB2, tB3, tB4, tB5, tB6, tL0, tL1, tL2] at hz30 ⊢
    refine j_ifeqb C dX9_calls_33 (fun hc33 => ?_) (fun hc33 => ?_)
    · -- 33 T
      rw [if_pos hc33]
      refine j_iconst C dX9_calls_36 ?_
      refine j_iret C hrt dX9_calls_37 ⟨by omega, by omega⟩ ?_
      first | exact DoM.ref (by simp only [jd]; repeat (first | rw [if_pos (by omega)] | rw [if_neg (by omega)])) (by omega) | (refine DoM.ok (by simp only [jd]; repeat (first | rw [if_pos (by omega)] | rw [if_neg (by omega)])) ?_ ?_; rfl; (simp only [ad, sendR]; rw [show (78 + 7 * a + 2).toNat = (78 + 7 * a).toNat + 2 by omega, show (78 + 7 * a + 3).toNat = (78 + 7 * a).toNat + 3 by omega, show (78 + 7 * a + 5).toNat = (78 + 7 * a).toNat + 5 by omega, show (78 + 7 * a + 6).toNat = (78 + 7 * a).toNat + 6 by omega]))
    · -- 33 F
      rw [if_neg hc33]
      refine j_aload0 C dX9_calls_38 ?_
      refine j_iload1 C dX9_calls_39 ?_
      have hs2 := hW2.i (b := a) (by omega)
      have gb := hI.b a (by omega)
      have hc6 := whyN_rg (ω.1 244) a
      refine j_cVI1 C (c_X9_whyNot (by exact hw) (by omega) (by omega) (by exact hI)) oX9_whyNot kX9_158 ⟨_, rfl, rfl⟩ at_243 ⟨by decide, by decide⟩ rfl (Nat.le_of_ble_eq_true rfl) ⟨by decide, by decide⟩ dX9_calls_40 ?_
      rintro _ _ hz40 ⟨rfl, rfl⟩
      try simp only [wi_wf, wf_same, wf_wf, tM0, tM1, tM2, tM3, tM4, tM5, tM6, tB0, tB1, tB2, tB3, tB4, tB5, tB6, tL0, tL1, tL2] at hz40 ⊢
      refine j_istore3 C rfl dX9_calls_43 ?_
      refine j_aload0 C dX9_calls_44 ?_
      refine j_iload3 C dX9_calls_45 ?_
      refine j_if_le C ⟨by omega, by omega⟩ dX9_calls_46 (fun hc46 => ?_) (fun hc46 => ?_)
      · -- 46 T
        refine j_iconst C dX9_calls_53 ?_
        refine j_iload3 C dX9_calls_54 ?_
        refine j_iload3 C dX9_calls_55 ?_
        refine j_if_le C ⟨by omega, by omega⟩ dX9_calls_56 (fun hc56 => ?_) (fun hc56 => absurd hc56 (by omega))
        refine j_iconst C dX9_calls_68 ?_
        refine j_cVI3 C (c_X9_isRefused_0 (by exact hw) ⟨by omega, by omega⟩ ⟨by omega, by omega⟩) oX9_isRefused kX9_64 ⟨_, rfl, rfl⟩ at_243 ⟨by decide, by decide⟩ rfl (Nat.le_of_ble_eq_true rfl) ⟨by decide, by decide⟩ dX9_calls_69 ?_
        intro _ w9 _ h9
        obtain ⟨h8, h9⟩ := h9
        rw [h8, h9]
        clear h8 h9 w9
        refine j_if_eq C (by decide) dX9_calls_72 (fun _ => ?_) (fun hc => absurd hc (by decide))
        refine j_aload0 C dX9_calls_77 ?_
        refine j_iload1 C dX9_calls_78 ?_
        have hok := crOk_of hI (b := a) (by omega) hs2 (whyN_0 (by omega))
        have hcl := crw_lt hI a
        have hll := lst_lt hI (ableS (ω.1 244)) 2
        have hl0 := hok.1
        refine j_cVI1 C (c_X9_crewFor (by exact hw) (by omega) (by omega) hok (by exact hI)) oX9_crewFor kX9_164 ⟨_, rfl, rfl⟩ at_243 ⟨by decide, by decide⟩ rfl (Nat.le_of_ble_eq_true rfl) ⟨by decide, by decide⟩ dX9_calls_79 ?_
        rintro _ _ hz79 ⟨rfl, rfl⟩
        try simp only [wi_wf, wf_same, wf_wf, tM0, tM1, tM2, tM3, tM4, tM5, tM6, tB0, tB1, tB2, tB3, tB4, tB5, tB6, tL0, tL1, tL2] at hz79 ⊢
        refine j_istore4 C rfl dX9_calls_82 ?_
        refine j_aload0 C dX9_calls_84 ?_
        refine j_aload0 C dX9_calls_85 ?_
        refine j_cVI0 C (c_X9_ableSet (by exact hw) hI) oX9_ableSet kX9_131 ⟨_, rfl, rfl⟩ at_243 ⟨by decide, by decide⟩ rfl (Nat.le_of_ble_eq_true rfl) ⟨by decide, by decide⟩ dX9_calls_86 ?_
        rintro _ _ hz86 ⟨rfl, rfl⟩
        try simp only [wi_wf, wf_same, wf_wf, tM0, tM1, tM2, tM3, tM4, tM5, tM6, tB0, tB1, tB2, tB3, tB4, tB5, tB6, tL0, tL1, tL2] at hz86 ⊢
        refine j_iconst C dX9_calls_89 ?_
        refine j_cVI2 C (c_X9_leastOf (by exact hw) (by omega) ⟨by omega, by omega⟩ (by exact hI)) oX9_leastOf kX9_134 ⟨_, rfl, rfl⟩ at_243 ⟨by decide, by decide⟩ rfl (Nat.le_of_ble_eq_true rfl) ⟨by decide, by decide⟩ dX9_calls_90 ?_
        rintro _ _ hz90 ⟨rfl, rfl⟩
        try simp only [wi_wf, wf_same, wf_wf, tM0, tM1, tM2, tM3, tM4, tM5, tM6, tB0, tB1, tB2, tB3, tB4, tB5, tB6, tL0, tL1, tL2] at hz90 ⊢
        refine j_istore5 C rfl dX9_calls_93 ?_
        refine j_iconst C dX9_calls_95 ?_
        refine j_istore6 C rfl dX9_calls_96 ?_
        obtain ⟨b0, hb0⟩ := Int.eq_ofNat_of_zero_le (show 0 ≤ a by omega)
        have loop98 : ∀ (N : Nat) (k : Nat), (cM (ω.1 244) - k) < N → (k ≤ cM (ω.1 244)) → J Γ p l e (rmk 5 0 0) s mm args below meth c (MQ below (QI Γ (fun z ω' => DoM 4 ω a b z ω')) args s 0 0 (gA Γ)) 254 0 0 98 [some (.ref (rl Γ 243)), some (.int (iI a)), some (.int (iI b)), none, some (.int (iI ((crw (ω.1 244) a : Nat) : Int))), some (.int (iI (lst (ω.1 244) (ableS (ω.1 244)) 2))), some (.int (iI ((k : Nat) : Int)))] [] (wf ω 244 (sendUp (ω.1 244) (crw (ω.1 244) a) a (lst (ω.1 244) (ableS (ω.1 244)) 2) k)) := by
          intro N
          induction N with
          | zero => intro k hN; exact absurd hN (Nat.not_lt_zero _)
          | succ N ih98 =>
            intro k hN hi0
            have hIk := sendUp_RI hI (x := crw (ω.1 244) a) (b := a) (cox := lst (ω.1 244) (ableS (ω.1 244)) 2) (by omega) hM k (by omega)
            have e1 : (sendUp (ω.1 244) (crw (ω.1 244) a) a (lst (ω.1 244) (ableS (ω.1 244)) 2) k) 1 = (ω.1 244) 1 := sendUp_at k 1 (fun j _ => by omega)
            have gl := hIk.m k
            have gs := hIk.s
            have gbk := hIk.b a (by omega)
            have e5 : sM (sendUp (ω.1 244) (crw (ω.1 244) a) a (lst (ω.1 244) (ableS (ω.1 244)) 2) k) k 5 = sM (ω.1 244) k 5 := by rw [eM5, eM5]; exact sendUp_at k _ (fun j hj => by omega)
            have e6 : sM (sendUp (ω.1 244) (crw (ω.1 244) a) a (lst (ω.1 244) (ableS (ω.1 244)) 2) k) k 6 = sM (ω.1 244) k 6 := by rw [eM6, eM6]; exact sendUp_at k _ (fun j hj => by omega)
            have gk0 := hI.m k
            refine j_iload6 C dX9_calls_98 ?_
            refine j_aload0 C dX9_calls_100 ?_
            refine j_getr C fX9_9 at_243 rfl hw.r0 dX9_calls_101 ?_
            refine j_iconst C dX9_calls_104 ?_
            refine j_ialdK C at_244 ⟨rfl, rfl⟩ (N := 111) rfl (by decide) (k := 1) rfl (by decide) dX9_calls_105 (fun hr105 => ?_)
            try simp only [wf_same] at hr105 ⊢
            rw [e1] at hr105 ⊢
            refine j_icmp_ge C ⟨by omega, by omega⟩ ⟨by omega, by omega⟩ dX9_calls_106 (fun hc106 => ?_) (fun hc106 => ?_)
            · -- 106 T
              refine j_aload0 C dX9_calls_187 ?_
              refine j_iload1 C dX9_calls_188 ?_
              refine j_iconst C dX9_calls_189 ?_
              refine j_iconst C dX9_calls_190 ?_
              have hk9 : k = cM (ω.1 244) := by omega
              subst hk9
              refine j_cVV3 C (c_X9_setsBoat (by exact hw) (by omega) (by omega) ⟨by omega, by omega⟩) oX9_setsBoat kX9_125 ⟨_, rfl, rfl⟩ at_243 ⟨by decide, by decide⟩ rfl (Nat.le_of_ble_eq_true rfl) ⟨by decide, by decide⟩ dX9_calls_191 ?_
              rintro _ rfl
              try simp only [wi_wf, wf_same, wf_wf, tM0, tM1, tM2, tM3, tM4, tM5, tM6, tB0, tB1, tB2, tB3, tB4, tB5, tB6, tL0, tL1, tL2]
              refine j_aload0 C dX9_calls_194 ?_
              refine j_iload1 C dX9_calls_195 ?_
              refine j_iconst C dX9_calls_196 ?_
              refine j_iload2 C dX9_calls_197 ?_
              refine j_cVV3 C (c_X9_setsBoat (by exact hw) (by omega) (by omega) ⟨by omega, by omega⟩) oX9_setsBoat kX9_125 ⟨_, rfl, rfl⟩ at_243 ⟨by decide, by decide⟩ rfl (Nat.le_of_ble_eq_true rfl) ⟨by decide, by decide⟩ dX9_calls_198 ?_
              rintro _ rfl
              try simp only [wi_wf, wf_same, wf_wf, tM0, tM1, tM2, tM3, tM4, tM5, tM6, tB0, tB1, tB2, tB3, tB4, tB5, tB6, tL0, tL1, tL2]
              refine j_aload0 C dX9_calls_201 ?_
              refine j_iload1 C dX9_calls_202 ?_
              refine j_iconst C dX9_calls_203 ?_
              refine j_iload5 C dX9_calls_204 ?_
              refine j_cVV3 C (c_X9_setsBoat (by exact hw) (by omega) (by omega) ⟨by omega, by omega⟩) oX9_setsBoat kX9_125 ⟨_, rfl, rfl⟩ at_243 ⟨by decide, by decide⟩ rfl (Nat.le_of_ble_eq_true rfl) ⟨by decide, by decide⟩ dX9_calls_206 ?_
              rintro _ rfl
              try simp only [wi_wf, wf_same, wf_wf, tM0, tM1, tM2, tM3, tM4, tM5, tM6, tB0, tB1, tB2, tB3, tB4, tB5, tB6, tL0, tL1, tL2]
              refine j_aload0 C dX9_calls_209 ?_
              refine j_iload1 C dX9_calls_210 ?_
              refine j_bipush C (by decide) dX9_calls_211 ?_
              refine j_aload0 C dX9_calls_213 ?_
              refine j_iload1 C dX9_calls_214 ?_
              refine j_bipush C (by decide) dX9_calls_215 ?_
              refine j_cVI2 C (c_X9_ofBoat (by exact hw) (by omega) (by omega)) oX9_ofBoat kX9_72 ⟨_, rfl, rfl⟩ at_243 ⟨by decide, by decide⟩ rfl (Nat.le_of_ble_eq_true rfl) ⟨by decide, by decide⟩ dX9_calls_217 ?_
              rintro _ _ hz217 ⟨rfl, rfl⟩
              simp only [wf_same] at hz217 ⊢
              rw [show ∀ r v w u, sB (up (up (up r (78 + 7 * a + 2).toNat v) (78 + 7 * a + 3).toNat w) (78 + 7 * a + 5).toNat u) a 6 = sB r a 6 from fun r v w u => by simp only [sB]; rw [up_ne _ _ (by omega), up_ne _ _ (by omega), up_ne _ _ (by omega)]] at hz217 ⊢
              refine j_iconst C dX9_calls_220 ?_
              refine j_iadd C dX9_calls_221 ?_
              refine j_cVV3 C (c_X9_setsBoat (by exact hw) (by omega) (by omega) ⟨by omega, by omega⟩) oX9_setsBoat kX9_125 ⟨_, rfl, rfl⟩ at_243 ⟨by decide, by decide⟩ rfl (Nat.le_of_ble_eq_true rfl) ⟨by decide, by decide⟩ dX9_calls_222 ?_
              rintro _ rfl
              try simp only [wi_wf, wf_same, wf_wf, tM0, tM1, tM2, tM3, tM4, tM5, tM6, tB0, tB1, tB2, tB3, tB4, tB5, tB6, tL0, tL1, tL2]
              refine j_aload0 C dX9_calls_225 ?_
              refine j_getr C fX9_9 at_243 rfl hw.r0 dX9_calls_226 ?_
              refine j_iconst C dX9_calls_229 ?_
              refine j_dup2 C rfl rfl dX9_calls_230 ?_
              refine j_ialdK C at_244 ⟨rfl, rfl⟩ (N := 111) rfl (by decide) (k := 4) rfl (by decide) dX9_calls_231 (fun hr231 => ?_)
              try simp only [wf_same] at hr231 ⊢
              rw [up_ne _ _ (by omega), up_ne _ _ (by omega), up_ne _ _ (by omega), up_ne _ _ (by omega)] at hr231 ⊢
              refine j_iconst C dX9_calls_232 ?_
              refine j_iadd C dX9_calls_233 ?_
              refine j_iastK C at_244 ⟨rfl, rfl⟩ (N := 111) rfl (by decide) (k := 4) rfl (by decide) ⟨by omega, by omega⟩ dX9_calls_234 ?_
              try simp only [wi_wf, wf_same, wf_wf, tM0, tM1, tM2, tM3, tM4, tM5, tM6, tB0, tB1, tB2, tB3, tB4, tB5, tB6, tL0, tL1, tL2]
              refine j_iload5 C dX9_calls_235 ?_
              refine j_iret C hrt dX9_calls_237 ⟨by omega, by omega⟩ ?_
              first | exact DoM.ref (by simp only [jd]; repeat (first | rw [if_pos (by omega)] | rw [if_neg (by omega)])) (by omega) | (refine DoM.ok (by simp only [jd]; repeat (first | rw [if_pos (by omega)] | rw [if_neg (by omega)])) ?_ ?_; rfl; (simp only [ad, sendR]; rw [show (78 + 7 * a + 2).toNat = (78 + 7 * a).toNat + 2 by omega, show (78 + 7 * a + 3).toNat = (78 + 7 * a).toNat + 3 by omega, show (78 + 7 * a + 5).toNat = (78 + 7 * a).toNat + 5 by omega, show (78 + 7 * a + 6).toNat = (78 + 7 * a).toNat + 6 by omega]))
            · -- 106 F
              refine j_iload4 C dX9_calls_109 ?_
              refine j_iload6 C dX9_calls_111 ?_
              refine j_ishr C (by omega) (by omega) dX9_calls_113 ?_
              refine j_iconstN C (k := 1) rfl dX9_calls_114 ?_
              refine j_iand1 C dX9_calls_115 ?_
              refine j_iconst C dX9_calls_116 ?_
              refine j_icmp_ne C ⟨by omega, by omega⟩ ⟨by omega, by omega⟩ dX9_calls_117 (fun hc117 => ?_) (fun hc117 => ?_)
              · -- 117 T
                refine j_iinc6n C rfl dX9_calls_181 ?_
                refine j_goto C dX9_calls_184 ?_
                exact j_fg (ih98 (k + 1) (by omega) (by omega)) ⟨Or.inr rfl, Or.inr rfl, Or.inr rfl, Or.inl rfl, Or.inr rfl, Or.inr rfl, Or.inr rfl, trivial⟩ (by simp only [sendUp]; first | (rw [if_pos (by omega), if_pos (by omega)]) | (rw [if_pos (by omega), if_neg (by omega)]) | rw [if_neg (by omega)])
              · -- 117 F
                refine j_aload0 C dX9_calls_120 ?_
                refine j_iload6 C dX9_calls_121 ?_
                refine j_iconst C dX9_calls_123 ?_
                refine j_iconst C dX9_calls_124 ?_
                refine j_cVV3 C (c_X9_sets (by exact hw) (by omega) (by omega) ⟨by omega, by omega⟩) oX9_sets kX9_90 ⟨_, rfl, rfl⟩ at_243 ⟨by decide, by decide⟩ rfl (Nat.le_of_ble_eq_true rfl) ⟨by decide, by decide⟩ dX9_calls_125 ?_
                rintro _ rfl
                try simp only [wi_wf, wf_same, wf_wf, tM0, tM1, tM2, tM3, tM4, tM5, tM6, tB0, tB1, tB2, tB3, tB4, tB5, tB6, tL0, tL1, tL2]
                refine j_aload0 C dX9_calls_128 ?_
                refine j_iload6 C dX9_calls_129 ?_
                refine j_iconst C dX9_calls_131 ?_
                refine j_iload1 C dX9_calls_132 ?_
                refine j_cVV3 C (c_X9_sets (by exact hw) (by omega) (by omega) ⟨by omega, by omega⟩) oX9_sets kX9_90 ⟨_, rfl, rfl⟩ at_243 ⟨by decide, by decide⟩ rfl (Nat.le_of_ble_eq_true rfl) ⟨by decide, by decide⟩ dX9_calls_133 ?_
                rintro _ rfl
                try simp only [wi_wf, wf_same, wf_wf, tM0, tM1, tM2, tM3, tM4, tM5, tM6, tB0, tB1, tB2, tB3, tB4, tB5, tB6, tL0, tL1, tL2]
                refine j_aload0 C dX9_calls_136 ?_
                refine j_iload6 C dX9_calls_137 ?_
                refine j_iconst C dX9_calls_139 ?_
                refine j_aload0 C dX9_calls_140 ?_
                refine j_iload6 C dX9_calls_141 ?_
                refine j_iconst C dX9_calls_143 ?_
                refine j_cVI2 C (c_X9_of (by exact hw) (by omega) (by omega)) oX9_of kX9_103 ⟨_, rfl, rfl⟩ at_243 ⟨by decide, by decide⟩ rfl (Nat.le_of_ble_eq_true rfl) ⟨by decide, by decide⟩ dX9_calls_144 ?_
                rintro _ _ hz144 ⟨rfl, rfl⟩
                simp only [wf_same] at hz144 ⊢
                rw [show ∀ v w, sM (up (up (sendUp (ω.1 244) (crw (ω.1 244) a) a (lst (ω.1 244) (ableS (ω.1 244)) 2) k) (8 + 7 * k + 1) v) (8 + 7 * k + 3) w) k 5 = sM (sendUp (ω.1 244) (crw (ω.1 244) a) a (lst (ω.1 244) (ableS (ω.1 244)) 2) k) k 5 from fun v w => by rw [eM5, eM5, up_ne _ _ (by omega), up_ne _ _ (by omega)]] at hz144 ⊢
                refine j_iconst C dX9_calls_147 ?_
                refine j_iadd C dX9_calls_148 ?_
                refine j_cVV3 C (c_X9_sets (by exact hw) (by omega) (by omega) ⟨by omega, by omega⟩) oX9_sets kX9_90 ⟨_, rfl, rfl⟩ at_243 ⟨by decide, by decide⟩ rfl (Nat.le_of_ble_eq_true rfl) ⟨by decide, by decide⟩ dX9_calls_149 ?_
                rintro _ rfl
                try simp only [wi_wf, wf_same, wf_wf, tM0, tM1, tM2, tM3, tM4, tM5, tM6, tB0, tB1, tB2, tB3, tB4, tB5, tB6, tL0, tL1, tL2]
                refine j_aload0 C dX9_calls_152 ?_
                refine j_iload6 C dX9_calls_153 ?_
                refine j_bipush C (by decide) dX9_calls_155 ?_
                refine j_aload0 C dX9_calls_157 ?_
                refine j_iload6 C dX9_calls_158 ?_
                refine j_bipush C (by decide) dX9_calls_160 ?_
                refine j_cVI2 C (c_X9_of (by exact hw) (by omega) (by omega)) oX9_of kX9_103 ⟨_, rfl, rfl⟩ at_243 ⟨by decide, by decide⟩ rfl (Nat.le_of_ble_eq_true rfl) ⟨by decide, by decide⟩ dX9_calls_162 ?_
                rintro _ _ hz162 ⟨rfl, rfl⟩
                simp only [wf_same] at hz162 ⊢
                rw [show ∀ v w u, sM (up (up (up (sendUp (ω.1 244) (crw (ω.1 244) a) a (lst (ω.1 244) (ableS (ω.1 244)) 2) k) (8 + 7 * k + 1) v) (8 + 7 * k + 3) w) (8 + 7 * k + 5) u) k 6 = sM (sendUp (ω.1 244) (crw (ω.1 244) a) a (lst (ω.1 244) (ableS (ω.1 244)) 2) k) k 6 from fun v w u => by rw [eM6, eM6, up_ne _ _ (by omega), up_ne _ _ (by omega), up_ne _ _ (by omega)]] at hz162 ⊢
                refine j_iload6 C dX9_calls_165 ?_
                refine j_iload5 C dX9_calls_167 ?_
                refine j_icmp_ne C ⟨by omega, by omega⟩ ⟨by omega, by omega⟩ dX9_calls_169 (fun hc169 => ?_) (fun hc169 => ?_)
                · -- 169 T
                  refine j_iconst C dX9_calls_176 ?_
                  refine j_iadd C dX9_calls_177 ?_
                  refine j_cVV3 C (c_X9_sets (by exact hw) (by omega) (by omega) ⟨by omega, by omega⟩) oX9_sets kX9_90 ⟨_, rfl, rfl⟩ at_243 ⟨by decide, by decide⟩ rfl (Nat.le_of_ble_eq_true rfl) ⟨by decide, by decide⟩ dX9_calls_178 ?_
                  rintro _ rfl
                  try simp only [wi_wf, wf_same, wf_wf, tM0, tM1, tM2, tM3, tM4, tM5, tM6, tB0, tB1, tB2, tB3, tB4, tB5, tB6, tL0, tL1, tL2]
                  refine j_iinc6n C rfl dX9_calls_181 ?_
                  refine j_goto C dX9_calls_184 ?_
                  exact j_fg (ih98 (k + 1) (by omega) (by omega)) ⟨Or.inr rfl, Or.inr rfl, Or.inr rfl, Or.inl rfl, Or.inr rfl, Or.inr rfl, Or.inr rfl, trivial⟩ (by simp only [sendUp]; first | (rw [if_pos (by omega), if_pos (by omega)]) | (rw [if_pos (by omega), if_neg (by omega)]) | rw [if_neg (by omega)])
                · -- 169 F
                  refine j_iconst C dX9_calls_172 ?_
                  refine j_goto C dX9_calls_173 ?_
                  refine j_iadd C dX9_calls_177 ?_
                  refine j_cVV3 C (c_X9_sets (by exact hw) (by omega) (by omega) ⟨by omega, by omega⟩) oX9_sets kX9_90 ⟨_, rfl, rfl⟩ at_243 ⟨by decide, by decide⟩ rfl (Nat.le_of_ble_eq_true rfl) ⟨by decide, by decide⟩ dX9_calls_178 ?_
                  rintro _ rfl
                  try simp only [wi_wf, wf_same, wf_wf, tM0, tM1, tM2, tM3, tM4, tM5, tM6, tB0, tB1, tB2, tB3, tB4, tB5, tB6, tL0, tL1, tL2]
                  refine j_iinc6n C rfl dX9_calls_181 ?_
                  refine j_goto C dX9_calls_184 ?_
                  exact j_fg (ih98 (k + 1) (by omega) (by omega)) ⟨Or.inr rfl, Or.inr rfl, Or.inr rfl, Or.inl rfl, Or.inr rfl, Or.inr rfl, Or.inr rfl, trivial⟩ (by simp only [sendUp]; first | (rw [if_pos (by omega), if_pos (by omega)]) | (rw [if_pos (by omega), if_neg (by omega)]) | rw [if_neg (by omega)])
        exact j_fg (loop98 _ 0 (Nat.lt_succ_self _) (Nat.zero_le _)) ⟨Or.inr rfl, Or.inr rfl, Or.inr rfl, Or.inl rfl, Or.inr rfl, Or.inr rfl, Or.inr rfl, trivial⟩ (wf_id ω 244).symm
      · -- 46 F
        refine j_iconst C dX9_calls_49 ?_
        refine j_goto C dX9_calls_50 ?_
        refine j_iload3 C dX9_calls_54 ?_
        refine j_iload3 C dX9_calls_55 ?_
        refine j_if_le C ⟨by omega, by omega⟩ dX9_calls_56 (fun hc56 => absurd hc56 (by omega)) (fun hc56 => ?_)
        refine j_aload0 C dX9_calls_59 ?_
        refine j_iload1 C dX9_calls_60 ?_
        refine j_iload3 C dX9_calls_61 ?_
        have hw5 := hc6 (by omega)
        have hw10 := whyN_10 (ω.1 244) a
        refine j_cVI2 C (c_X9_lacking (by exact hw) (by omega) (by omega) hw5 hw10 (by exact hI)) oX9_lacking kX9_161 ⟨_, rfl, rfl⟩ at_243 ⟨by decide, by decide⟩ rfl (Nat.le_of_ble_eq_true rfl) ⟨by decide, by decide⟩ dX9_calls_62 ?_
        rintro _ _ hz62 ⟨rfl, rfl⟩
        try simp only [wi_wf, wf_same, wf_wf, tM0, tM1, tM2, tM3, tM4, tM5, tM6, tB0, tB1, tB2, tB3, tB4, tB5, tB6, tL0, tL1, tL2] at hz62 ⊢
        refine j_goto C dX9_calls_65 ?_
        refine j_cVI3 C (c_X9_isRefused_1 (by exact hw) ⟨by omega, by omega⟩ ⟨by omega, by omega⟩) oX9_isRefused kX9_64 ⟨_, rfl, rfl⟩ at_243 ⟨by decide, by decide⟩ rfl (Nat.le_of_ble_eq_true rfl) ⟨by decide, by decide⟩ dX9_calls_69 ?_
        rintro _ _ hz69 ⟨rfl, rfl⟩
        try simp only [wi_wf, wf_same, wf_wf, tM0, tM1, tM2, tM3, tM4, tM5, tM6, tB0, tB1, tB2, tB3, tB4, tB5, tB6, tL0, tL1, tL2] at hz69 ⊢
        refine j_if_eq C (by decide) dX9_calls_72 (fun hc => absurd hc (by decide)) (fun _ => ?_)
        refine j_iconst C dX9_calls_75 ?_
        refine j_iret C hrt dX9_calls_76 ⟨by omega, by omega⟩ ?_
        first | exact DoM.ref (by simp only [jd]; repeat (first | rw [if_pos (by omega)] | rw [if_neg (by omega)])) (by omega) | (refine DoM.ok (by simp only [jd]; repeat (first | rw [if_pos (by omega)] | rw [if_neg (by omega)])) ?_ ?_; rfl; (simp only [ad, sendR]; rw [show (78 + 7 * a + 2).toNat = (78 + 7 * a).toNat + 2 by omega, show (78 + 7 * a + 3).toNat = (78 + 7 * a).toNat + 3 by omega, show (78 + 7 * a + 5).toNat = (78 + 7 * a).toNat + 5 by omega, show (78 + 7 * a + 6).toNat = (78 + 7 * a).toNat + 6 by omega]))
  · -- 6 F
    refine j_iconst C dX9_calls_9 ?_
    refine j_goto C dX9_calls_10 ?_
    refine j_iconst C dX9_calls_14 ?_
    refine j_iload1 C dX9_calls_15 ?_
    refine j_cVI3 C (c_X9_isRefused_1 (by exact hw) ⟨by omega, by omega⟩ ⟨by omega, by omega⟩) oX9_isRefused kX9_64 ⟨_, rfl, rfl⟩ at_243 ⟨by decide, by decide⟩ rfl (Nat.le_of_ble_eq_true rfl) ⟨by decide, by decide⟩ dX9_calls_16 ?_
    rintro _ _ hz16 ⟨rfl, rfl⟩
    try simp only [wi_wf, wf_same, wf_wf, tM0, tM1, tM2, tM3, tM4, tM5, tM6, tB0, tB1, tB2, tB3, tB4, tB5, tB6, tL0, tL1, tL2] at hz16 ⊢
    refine j_if_ne C (by decide) dX9_calls_19 (fun _ => ?_) (fun hc => absurd hc (by decide))
    refine j_iconst C dX9_calls_36 ?_
    refine j_iret C hrt dX9_calls_37 ⟨by omega, by omega⟩ ?_
    first | exact DoM.ref (by simp only [jd]; repeat (first | rw [if_pos (by omega)] | rw [if_neg (by omega)])) (by omega) | (refine DoM.ok (by simp only [jd]; repeat (first | rw [if_pos (by omega)] | rw [if_neg (by omega)])) ?_ ?_; rfl; (simp only [ad, sendR]; rw [show (78 + 7 * a + 2).toNat = (78 + 7 * a).toNat + 2 by omega, show (78 + 7 * a + 3).toNat = (78 + 7 * a).toNat + 3 by omega, show (78 + 7 * a + 5).toNat = (78 + 7 * a).toNat + 5 by omega, show (78 + 7 * a + 6).toNat = (78 + 7 * a).toNat + 6 by omega]))
