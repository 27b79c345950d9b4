set_option maxRecDepth 100000 in
set_option maxHeartbeats 4000000 in
theorem c_X7_judgeTrain {Γ : Ga} {l : Launch} {ω : Wo} {B : Nat} (hB : Bs B) {σ : Row} (hS : St ω B σ) {M : Int} (hI : RI M σ) (hWI : WI σ)  {a : Int} (ha : Rg a) : CV Γ l yX7_judgeTrain cX7_judgeTrain 3 3 [.ref (rl Γ B), .int (iI a), .ref (rl Γ 67)] ω (fun ω' => ω' = RF ω 67 (jd 2 σ a 0).1 (jd 2 σ a 0).2) := by
  refine Met.ofJ (k := 0) [some (.ref (rl Γ B)), some (.int (iI a)), some (.ref (rl Γ 67))] (by decide) rfl rfl rfl (fun p e s mm args below meth c C hrt => ?_)
  have g := hI.s
  have gc := hI.c
  have gM := hI.2.1
  refine j_aload0 C dX7_judgeTrain_0 ?_
  refine j_iload1 C dX7_judgeTrain_1 ?_
  refine j_aload2 C dX7_judgeTrain_2 ?_
  refine j_cVV2 C (c_X7_judgeLeave hB (by exact hS) (by exact hI) (by exact hWI) ha) oX7_judgeLeave kX7_101 ⟨_, rfl, rfl⟩ (at_st hB) ⟨by decide, by decide⟩ rfl (Nat.le_of_ble_eq_true rfl) ⟨by decide, by decide⟩ dX7_judgeTrain_3 ?_
  rintro _ rfl
  refine j_aload2 C dX7_judgeTrain_6 ?_
  refine j_cVI0 C (c_X5_isThere at_67) oX5_isThere kX7_105 ⟨_, rfl, rfl⟩ at_67 ⟨by decide, by decide⟩ rfl (Nat.le_of_ble_eq_true rfl) ⟨by decide, by decide⟩ dX7_judgeTrain_7 ?_
  rintro _ _ hz7 ⟨rfl, rfl⟩
  simp only [RF_0] at hz7 ⊢
  refine j_ifneb C dX7_judgeTrain_10 (fun hc10 => ?_) (fun hc10 => ?_)
  · -- 10 T
    refine j_vret C hrt dX7_judgeTrain_33 ?_
    first | rw [jd2_a hc10] | exact jdE (jd2_b (by omega) (by omega)) | rw [(jd2_c (s := σ) (a := k) (by omega) (by omega)).1, (jd2_c (s := σ) (a := k) (by omega) (by omega)).2]
  · -- 10 F
    have hj1 := jd1_ok (b := 0) (show (jd 1 σ a 0).1 = 0 by omega)
    obtain ⟨k, rfl⟩ := Int.eq_ofNat_of_zero_le hj1.1.1
    have hS2 := hS.rf hB hI (n := (jd 1 σ k 0).1) (d := (jd 1 σ k 0).2)
    refine j_aload0 C dX7_judgeTrain_13 ?_
    refine j_getr C fX7_11 (at_st hB) rfl hS.r.a0 dX7_judgeTrain_14 ?_
    refine j_iload1 C dX7_judgeTrain_17 ?_
    refine j_aald C (at_mA hB) rfl (Cn := RX4) rfl (N := 10) rfl (by decide) ⟨by omega, by omega⟩ (hS.r.m k (by omega)) dX7_judgeTrain_18 ?_
    refine j_geti C fX7_108 (at_m hB (by omega)) rfl (hS2.m0 k (by omega)) dX7_judgeTrain_19 (fun hr19 => ?_)
    refine j_iconst C dX7_judgeTrain_22 ?_
    refine j_icmp_ne C ⟨by omega, by omega⟩ ⟨by omega, by omega⟩ dX7_judgeTrain_23 (fun hc23 => ?_) (fun hc23 => ?_)
    · -- 23 T
      refine j_vret C hrt dX7_judgeTrain_33 ?_
      first | rw [jd2_a hc10] | exact jdE (jd2_b (by omega) (by omega)) | rw [(jd2_c (s := σ) (a := k) (by omega) (by omega)).1, (jd2_c (s := σ) (a := k) (by omega) (by omega)).2]
    · -- 23 F
      refine j_aload2 C dX7_judgeTrain_26 ?_
      refine j_bipush C (by decide) dX7_judgeTrain_27 ?_
      refine j_iconst C dX7_judgeTrain_29 ?_
      refine j_cVV2 C (c_X5_set at_67 ⟨by omega, by omega⟩ ⟨by omega, by omega⟩) oX5_set kX7_67 ⟨_, rfl, rfl⟩ at_67 ⟨by decide, by decide⟩ rfl (Nat.le_of_ble_eq_true rfl) ⟨by decide, by decide⟩ dX7_judgeTrain_30 ?_
      rintro _ rfl
      rw [RF_RF]
      refine j_vret C hrt dX7_judgeTrain_33 ?_
      first | rw [jd2_a hc10] | exact jdE (jd2_b (by omega) (by omega)) | rw [(jd2_c (s := σ) (a := k) (by omega) (by omega)).1, (jd2_c (s := σ) (a := k) (by omega) (by omega)).2]
set_option maxRecDepth 100000 in
set_option maxHeartbeats 4000000 in
theorem c_X7_judgeCrew {Γ : Ga} {l : Launch} {ω : Wo} {B : Nat} (hB : Bs B) {σ : Row} (hS : St ω B σ) {M : Int} (hI : RI M σ) (hWI : WI σ)  {b : Nat} (hb : b < cB σ) : CV Γ l yX7_judgeCrew cX7_judgeCrew 7 2 [.ref (rl Γ B), .int (iI ((b : Int))), .ref (rl Γ 67)] ω (fun ω' => ω' = RF ω 67 (whyC σ b) (lack σ b (whyC σ b))) := by
  refine Met.ofJ (k := 4) [some (.ref (rl Γ B)), some (.int (iI ((b : Int)))), some (.ref (rl Γ 67)), none, none, none, none] (by decide) rfl rfl rfl (fun p e s mm args below meth c C hrt => ?_)
  have g := hI.s
  have gc := hI.c
  have gM := hI.2.1
  have gb := hI.b b (by omega)
  have gs2 := hWI.2.1 b (by omega)
  have gwb := hWI.2.2.2 b hb
  have ha := ableS_lt hI
  have gm : mustO σ b = (sB σ b 1 - 1) / 2 := rfl
  have hw := whyC_c hI (b : Int)
  have hb1 := bitsUp_rg (ableS σ) 10
  have hb2 := bitsUp_rg (ableS σ &&& skS σ 1) 10
  have eb1 : bitsN (ableS σ) = bitsUp (ableS σ) 10 := rfl
  have eb2 : bitsN (ableS σ &&& skS σ 1) = bitsUp (ableS σ &&& skS σ 1) 10 := rfl
  have hal : ableS σ &&& skS σ 2 < 1024 := and_lt ha
  refine j_aload0 C dX7_judgeCrew_0 ?_
  refine j_cVI0 C (c_X7_ableMembers hB (by exact hS) (by exact hI) (by exact hWI)) oX7_ableMembers kX7_132 ⟨_, rfl, rfl⟩ (at_st hB) ⟨by decide, by decide⟩ rfl (Nat.le_of_ble_eq_true rfl) ⟨by decide, by decide⟩ dX7_judgeCrew_1 ?_
  rintro _ _ hz1 ⟨rfl, rfl⟩
  refine j_istore3 C rfl dX7_judgeCrew_4 ?_
  refine j_aload0 C dX7_judgeCrew_5 ?_
  refine j_getr C fX7_19 (at_st hB) rfl hS.r.a1 dX7_judgeCrew_6 ?_
  refine j_iload1 C dX7_judgeCrew_9 ?_
  refine j_aald C (at_bA hB) rfl (Cn := RX1) rfl (N := 3) rfl (by decide) ⟨by omega, by omega⟩ (hS.r.b b (by omega)) dX7_judgeCrew_10 ?_
  refine j_geti C fX7_135 (at_b hB (by omega)) rfl (hS.b1 b (by omega)) dX7_judgeCrew_11 (fun hr11 => ?_)
  refine j_iload3 C dX7_judgeCrew_14 ?_
  refine j_cSI1 C (c_J6_bitCount ha) oJ6_bitCount_0f7a4 kX7_95 ⟨by decide, by decide⟩ rfl (Nat.le_of_ble_eq_true rfl) ⟨by decide, by decide⟩ dX7_judgeCrew_15 ?_
  rintro _ _ hz15 ⟨rfl, rfl⟩
  refine j_isub C dX7_judgeCrew_18 ?_
  refine j_istore4 C rfl dX7_judgeCrew_19 ?_
  refine j_iload3 C dX7_judgeCrew_21 ?_
  refine j_aload0 C dX7_judgeCrew_22 ?_
  refine j_iconst C dX7_judgeCrew_23 ?_
  refine j_cVI1 C (c_X7_skilledMembers hB (by exact hS) (by exact hI) (by exact hWI) ⟨by omega, by omega⟩) oX7_skilledMembers kX7_138 ⟨_, rfl, rfl⟩ (at_st hB) ⟨by decide, by decide⟩ rfl (Nat.le_of_ble_eq_true rfl) ⟨by decide, by decide⟩ dX7_judgeCrew_24 ?_
  rintro _ _ hz24 ⟨rfl, rfl⟩
  refine j_iand C dX7_judgeCrew_27 ?_
  refine j_cSI1 C (c_J6_bitCount (and_lt ha)) oJ6_bitCount_0f7a4 kX7_95 ⟨by decide, by decide⟩ rfl (Nat.le_of_ble_eq_true rfl) ⟨by decide, by decide⟩ dX7_judgeCrew_28 ?_
  rintro _ _ hz28 ⟨rfl, rfl⟩
  refine j_istore5 C rfl dX7_judgeCrew_31 ?_
  refine j_aload0 C dX7_judgeCrew_33 ?_
  refine j_getr C fX7_19 (at_st hB) rfl hS.r.a1 dX7_judgeCrew_34 ?_
  refine j_iload1 C dX7_judgeCrew_37 ?_
  refine j_aald C (at_bA hB) rfl (Cn := RX1) rfl (N := 3) rfl (by decide) ⟨by omega, by omega⟩ (hS.r.b b (by omega)) dX7_judgeCrew_38 ?_
  refine j_cVI0 C (c_X1_skilledNeeded (at_b hB (by omega)) (hS.b1 b (by omega)) (by omega)) oX1_skilledNeeded kX7_141 ⟨_, rfl, rfl⟩ (at_b hB (by omega)) ⟨by decide, by decide⟩ rfl (Nat.le_of_ble_eq_true rfl) ⟨by decide, by decide⟩ dX7_judgeCrew_39 ?_
  rintro _ _ hz39 ⟨rfl, rfl⟩
  refine j_iconst C dX7_judgeCrew_42 ?_
  refine j_iadd C dX7_judgeCrew_43 ?_
  refine j_iload5 C dX7_judgeCrew_44 ?_
  refine j_isub C dX7_judgeCrew_46 ?_
  refine j_istore6 C rfl dX7_judgeCrew_47 ?_
  refine j_iload3 C dX7_judgeCrew_49 ?_
  refine j_aload0 C dX7_judgeCrew_50 ?_
  refine j_iconst C dX7_judgeCrew_51 ?_
  refine j_cVI1 C (c_X7_skilledMembers hB (by exact hS) (by exact hI) (by exact hWI) ⟨by omega, by omega⟩) oX7_skilledMembers kX7_138 ⟨_, rfl, rfl⟩ (at_st hB) ⟨by decide, by decide⟩ rfl (Nat.le_of_ble_eq_true rfl) ⟨by decide, by decide⟩ dX7_judgeCrew_52 ?_
  rintro _ _ hz52 ⟨rfl, rfl⟩
  refine j_iand C dX7_judgeCrew_55 ?_
  refine j_if_ne C ⟨by omega, by omega⟩ dX7_judgeCrew_56 (fun hc56 => ?_) (fun hc56 => ?_)
  · -- 56 T
    refine j_iload4 C dX7_judgeCrew_69 ?_
    refine j_if_le C ⟨by omega, by omega⟩ dX7_judgeCrew_71 (fun hc71 => ?_) (fun hc71 => ?_)
    · -- 71 T
      refine j_iload6 C dX7_judgeCrew_85 ?_
      refine j_if_le C ⟨by omega, by omega⟩ dX7_judgeCrew_87 (fun hc87 => ?_) (fun hc87 => ?_)
      · -- 87 T
        refine j_aload2 C dX7_judgeCrew_101 ?_
        refine j_cVV0 C (c_X5_clear at_67) oX5_clear kX7_73 ⟨_, rfl, rfl⟩ at_67 ⟨by decide, by decide⟩ rfl (Nat.le_of_ble_eq_true rfl) ⟨by decide, by decide⟩ dX7_judgeCrew_102 ?_
        rintro _ rfl
        refine j_vret C hrt dX7_judgeCrew_105 ?_
        first | exact jcE_8 hI (by omega) | exact jcE_9 hI (by omega) (by omega) | exact jcE_10 hI (by omega) (by omega) (by omega) (by omega) | exact jcE_0 hI (by omega) (by omega) (by omega)
      · -- 87 F
        refine j_aload2 C dX7_judgeCrew_90 ?_
        refine j_bipush C (by decide) dX7_judgeCrew_91 ?_
        refine j_iload6 C dX7_judgeCrew_93 ?_
        refine j_cVV2 C (c_X5_set at_67 ⟨by omega, by omega⟩ ⟨by omega, by omega⟩) oX5_set kX7_67 ⟨_, rfl, rfl⟩ at_67 ⟨by decide, by decide⟩ rfl (Nat.le_of_ble_eq_true rfl) ⟨by decide, by decide⟩ dX7_judgeCrew_95 ?_
        rintro _ rfl
        refine j_goto C dX7_judgeCrew_98 ?_
        refine j_vret C hrt dX7_judgeCrew_105 ?_
        first | exact jcE_8 hI (by omega) | exact jcE_9 hI (by omega) (by omega) | exact jcE_10 hI (by omega) (by omega) (by omega) (by omega) | exact jcE_0 hI (by omega) (by omega) (by omega)
    · -- 71 F
      refine j_aload2 C dX7_judgeCrew_74 ?_
      refine j_bipush C (by decide) dX7_judgeCrew_75 ?_
      refine j_iload4 C dX7_judgeCrew_77 ?_
      refine j_cVV2 C (c_X5_set at_67 ⟨by omega, by omega⟩ ⟨by omega, by omega⟩) oX5_set kX7_67 ⟨_, rfl, rfl⟩ at_67 ⟨by decide, by decide⟩ rfl (Nat.le_of_ble_eq_true rfl) ⟨by decide, by decide⟩ dX7_judgeCrew_79 ?_
      rintro _ rfl
      refine j_goto C dX7_judgeCrew_82 ?_
      refine j_vret C hrt dX7_judgeCrew_105 ?_
      first | exact jcE_8 hI (by omega) | exact jcE_9 hI (by omega) (by omega) | exact jcE_10 hI (by omega) (by omega) (by omega) (by omega) | exact jcE_0 hI (by omega) (by omega) (by omega)
  · -- 56 F
    refine j_aload2 C dX7_judgeCrew_59 ?_
    refine j_bipush C (by decide) dX7_judgeCrew_60 ?_
    refine j_iconst C dX7_judgeCrew_62 ?_
    refine j_cVV2 C (c_X5_set at_67 ⟨by omega, by omega⟩ ⟨by omega, by omega⟩) oX5_set kX7_67 ⟨_, rfl, rfl⟩ at_67 ⟨by decide, by decide⟩ rfl (Nat.le_of_ble_eq_true rfl) ⟨by decide, by decide⟩ dX7_judgeCrew_63 ?_
    rintro _ rfl
    refine j_goto C dX7_judgeCrew_66 ?_
    refine j_vret C hrt dX7_judgeCrew_105 ?_
    first | exact jcE_8 hI (by omega) | exact jcE_9 hI (by omega) (by omega) | exact jcE_10 hI (by omega) (by omega) (by omega) (by omega) | exact jcE_0 hI (by omega) (by omega) (by omega)
set_option maxRecDepth 100000 in
set_option maxHeartbeats 4000000 in
theorem c_X7_judgeCall {Γ : Ga} {l : Launch} {ω : Wo} {B : Nat} (hB : Bs B) {σ : Row} (hS : St ω B σ) {M : Int} (hI : RI M σ) (hWI : WI σ)  {a b : Int} (ha : Rg a) (hb : Rg b) : CV Γ l yX7_judgeCall cX7_judgeCall 5 3 [.ref (rl Γ B), .int (iI a), .int (iI b), .ref (rl Γ 67)] ω (fun ω' => ω' = RF ω 67 (jd 4 σ a b).1 (jd 4 σ a b).2) := by
  refine Met.ofJ (k := 1) [some (.ref (rl Γ B)), some (.int (iI a)), some (.int (iI b)), some (.ref (rl Γ 67)), none] (by decide) rfl rfl rfl (fun p e s mm args below meth c C hrt => ?_)
  have g := hI.s
  have gc := hI.c
  have gM := hI.2.1
  have g1 := oarsUp_rg hI (cL σ) gc.2.2.2
  have g2 := outUp_rg hI (cB σ) gc.2.1.2
  have gf : freeO σ = oarsUp σ (cL σ) - outUp σ (cB σ) := rfl
  have gh := hgt_rg (σ 0)
  refine j_aload0 C dX7_judgeCall_0 ?_
  refine j_iload1 C dX7_judgeCall_1 ?_
  refine j_cVI1 C (c_X7_hasBoat hB (by exact hS) (by exact hI) (by exact hWI) ⟨by omega, by omega⟩) oX7_hasBoat kX7_113 ⟨_, rfl, rfl⟩ (at_st hB) ⟨by decide, by decide⟩ rfl (Nat.le_of_ble_eq_true rfl) ⟨by decide, by decide⟩ dX7_judgeCall_2 ?_
  rintro _ _ hz2 ⟨rfl, rfl⟩
  refine j_ifneb C dX7_judgeCall_5 (fun hc5 => ?_) (fun hc5 => ?_)
  · -- 5 T
    obtain ⟨k, rfl⟩ := Int.eq_ofNat_of_zero_le hc5.1
    have gb := hI.b k (by omega)
    have gs2 := hWI.2.1 k (by omega)
    have gwb := hWI.2.2.2 k (by omega)
    have gwc := whyC_rg σ k
    refine j_iload2 C dX7_judgeCall_17 ?_
    refine j_iconst C dX7_judgeCall_18 ?_
    refine j_icmp_lt C ⟨by omega, by omega⟩ ⟨by omega, by omega⟩ dX7_judgeCall_19 (fun hc19 => ?_) (fun hc19 => ?_)
    · -- 19 T
      refine j_aload3 C dX7_judgeCall_28 ?_
      refine j_iconst C dX7_judgeCall_29 ?_
      refine j_iconst C dX7_judgeCall_30 ?_
      refine j_cVV2 C (c_X5_set at_67 ⟨by omega, by omega⟩ ⟨by omega, by omega⟩) oX5_set kX7_67 ⟨_, rfl, rfl⟩ at_67 ⟨by decide, by decide⟩ rfl (Nat.le_of_ble_eq_true rfl) ⟨by decide, by decide⟩ dX7_judgeCall_31 ?_
      rintro _ rfl
      refine j_goto C dX7_judgeCall_34 ?_
      refine j_vret C hrt dX7_judgeCall_145 ?_
      first
      | exact jdE (jd4_3 (by assumption))
      | exact jdE (jd4_1 hc5 (by omega))
      | exact jdE (jd4_r hc5 (by omega) (whyN_5 (by omega)) (by decide) rfl)
      | exact jdE (jd4_r hc5 (by omega) (whyN_7 (by omega) (by omega)) (by decide) rfl)
      | exact jdE (jd4_r hc5 (by omega) (whyN_w (by omega) (by omega) (by omega)) (by omega) rfl)
      | exact jdE (jd4_r hc5 (by omega) (whyN_11 (by omega) (by omega) (by omega) (by omega)) (by decide) rfl)
      | (rw [show whyC σ (k : Int) = 0 by omega, lack_0]; exact jdE (jd4_z hc5 (by omega) (whyN_z (by omega) (by omega) (by omega) (by omega))))
    · -- 19 F
      refine j_iload2 C dX7_judgeCall_22 ?_
      refine j_bipush C (by decide) dX7_judgeCall_23 ?_
      refine j_icmp_le C ⟨by omega, by omega⟩ ⟨by omega, by omega⟩ dX7_judgeCall_25 (fun hc25 => ?_) (fun hc25 => ?_)
      · -- 25 T
        refine j_aload0 C dX7_judgeCall_37 ?_
        refine j_getr C fX7_19 (at_st hB) rfl hS.r.a1 dX7_judgeCall_38 ?_
        refine j_iload1 C dX7_judgeCall_41 ?_
        refine j_aald C (at_bA hB) rfl (Cn := RX1) rfl (N := 3) rfl (by decide) ⟨by omega, by omega⟩ (hS.r.b k (by omega)) dX7_judgeCall_42 ?_
        refine j_cVI0 C (c_X1_isOut (at_b hB (by omega)) (hS.b2 k (by omega))) oX1_isOut kX7_116 ⟨_, rfl, rfl⟩ (at_b hB (by omega)) ⟨by decide, by decide⟩ rfl (Nat.le_of_ble_eq_true rfl) ⟨by decide, by decide⟩ dX7_judgeCall_43 ?_
        rintro _ _ hz43 ⟨rfl, rfl⟩
        refine j_ifeqb C dX7_judgeCall_46 (fun hc46 => ?_) (fun hc46 => ?_)
        · -- 46 T
          refine j_aload3 C dX7_judgeCall_49 ?_
          refine j_iconst C dX7_judgeCall_50 ?_
          refine j_iload1 C dX7_judgeCall_51 ?_
          refine j_cVV2 C (c_X5_set at_67 ⟨by omega, by omega⟩ ⟨by omega, by omega⟩) oX5_set kX7_67 ⟨_, rfl, rfl⟩ at_67 ⟨by decide, by decide⟩ rfl (Nat.le_of_ble_eq_true rfl) ⟨by decide, by decide⟩ dX7_judgeCall_52 ?_
          rintro _ rfl
          refine j_goto C dX7_judgeCall_55 ?_
          refine j_vret C hrt dX7_judgeCall_145 ?_
          first
          | exact jdE (jd4_3 (by assumption))
          | exact jdE (jd4_1 hc5 (by omega))
          | exact jdE (jd4_r hc5 (by omega) (whyN_5 (by omega)) (by decide) rfl)
          | exact jdE (jd4_r hc5 (by omega) (whyN_7 (by omega) (by omega)) (by decide) rfl)
          | exact jdE (jd4_r hc5 (by omega) (whyN_w (by omega) (by omega) (by omega)) (by omega) rfl)
          | exact jdE (jd4_r hc5 (by omega) (whyN_11 (by omega) (by omega) (by omega) (by omega)) (by decide) rfl)
          | (rw [show whyC σ (k : Int) = 0 by omega, lack_0]; exact jdE (jd4_z hc5 (by omega) (whyN_z (by omega) (by omega) (by omega) (by omega))))
        · -- 46 F
          refine j_aload0 C dX7_judgeCall_58 ?_
          refine j_geti C fX7_39 (at_st hB) rfl hS.c6 dX7_judgeCall_59 (fun hr59 => ?_)
          refine j_cNI1 (host := RX8) C (c_X8_heightAt (by omega)) oX8_heightAt (List.mem_of_getElem? (i := 5) rfl) ⟨by decide, by decide⟩ rfl (Nat.le_of_ble_eq_true rfl) ⟨by decide, by decide⟩ dX7_judgeCall_62 ?_
          rintro _ _ hz62 ⟨rfl, rfl⟩
          refine j_aload0 C dX7_judgeCall_65 ?_
          refine j_getr C fX7_19 (at_st hB) rfl hS.r.a1 dX7_judgeCall_66 ?_
          refine j_iload1 C dX7_judgeCall_69 ?_
          refine j_aald C (at_bA hB) rfl (Cn := RX1) rfl (N := 3) rfl (by decide) ⟨by omega, by omega⟩ (hS.r.b k (by omega)) dX7_judgeCall_70 ?_
          refine j_geti C fX7_120 (at_b hB (by omega)) rfl (hS.b0 k (by omega)) dX7_judgeCall_71 (fun hr71 => ?_)
          refine j_icmp_ge C ⟨by omega, by omega⟩ ⟨by omega, by omega⟩ dX7_judgeCall_74 (fun hc74 => ?_) (fun hc74 => ?_)
          · -- 74 T
            refine j_aload0 C dX7_judgeCall_103 ?_
            refine j_iload1 C dX7_judgeCall_104 ?_
            refine j_aload3 C dX7_judgeCall_105 ?_
            refine j_cVV2 C (c_X7_judgeCrew hB (by exact hS) (by exact hI) (by exact hWI) (by omega)) oX7_judgeCrew kX7_123 ⟨_, rfl, rfl⟩ (at_st hB) ⟨by decide, by decide⟩ rfl (Nat.le_of_ble_eq_true rfl) ⟨by decide, by decide⟩ dX7_judgeCall_106 ?_
            rintro _ rfl
            have hS2 := hS.rf hB hI (n := whyC σ k) (d := lack σ k (whyC σ k))
            refine j_aload0 C dX7_judgeCall_109 ?_
            refine j_getr C fX7_19 (at_st hB) rfl hS.r.a1 dX7_judgeCall_110 ?_
            refine j_iload1 C dX7_judgeCall_113 ?_
            refine j_aald C (at_bA hB) rfl (Cn := RX1) rfl (N := 3) rfl (by decide) ⟨by omega, by omega⟩ (hS.r.b k (by omega)) dX7_judgeCall_114 ?_
            refine j_cVI0 C (c_X1_oarsNeeded (at_b hB (by omega)) (hS2.b1 k (by omega)) (by omega)) oX1_oarsNeeded kX7_126 ⟨_, rfl, rfl⟩ (at_b hB (by omega)) ⟨by decide, by decide⟩ rfl (Nat.le_of_ble_eq_true rfl) ⟨by decide, by decide⟩ dX7_judgeCall_115 ?_
            rintro _ _ hz115 ⟨rfl, rfl⟩
            refine j_aload0 C dX7_judgeCall_118 ?_
            refine j_cVI0 C (c_X7_freeOars hB (by exact hS2) (by exact hI) (by exact hWI)) oX7_freeOars kX7_129 ⟨_, rfl, rfl⟩ (at_st hB) ⟨by decide, by decide⟩ rfl (Nat.le_of_ble_eq_true rfl) ⟨by decide, by decide⟩ dX7_judgeCall_119 ?_
            rintro _ _ hz119 ⟨rfl, rfl⟩
            refine j_isub C dX7_judgeCall_122 ?_
            refine j_istore4 C rfl dX7_judgeCall_123 ?_
            refine j_aload3 C dX7_judgeCall_125 ?_
            refine j_cVI0 C (c_X5_isThere at_67) oX5_isThere kX7_105 ⟨_, rfl, rfl⟩ at_67 ⟨by decide, by decide⟩ rfl (Nat.le_of_ble_eq_true rfl) ⟨by decide, by decide⟩ dX7_judgeCall_126 ?_
            rintro _ _ hz126 ⟨rfl, rfl⟩
            simp only [RF_0] at hz126 ⊢
            refine j_ifneb C dX7_judgeCall_129 (fun hc129 => ?_) (fun hc129 => ?_)
            · -- 129 T
              refine j_vret C hrt dX7_judgeCall_145 ?_
              first
              | exact jdE (jd4_3 (by assumption))
              | exact jdE (jd4_1 hc5 (by omega))
              | exact jdE (jd4_r hc5 (by omega) (whyN_5 (by omega)) (by decide) rfl)
              | exact jdE (jd4_r hc5 (by omega) (whyN_7 (by omega) (by omega)) (by decide) rfl)
              | exact jdE (jd4_r hc5 (by omega) (whyN_w (by omega) (by omega) (by omega)) (by omega) rfl)
              | exact jdE (jd4_r hc5 (by omega) (whyN_11 (by omega) (by omega) (by omega) (by omega)) (by decide) rfl)
              | (rw [show whyC σ (k : Int) = 0 by omega, lack_0]; exact jdE (jd4_z hc5 (by omega) (whyN_z (by omega) (by omega) (by omega) (by omega))))
            · -- 129 F
              refine j_iload4 C dX7_judgeCall_132 ?_
              refine j_if_le C ⟨by omega, by omega⟩ dX7_judgeCall_134 (fun hc134 => ?_) (fun hc134 => ?_)
              · -- 134 T
                refine j_vret C hrt dX7_judgeCall_145 ?_
                first
                | exact jdE (jd4_3 (by assumption))
                | exact jdE (jd4_1 hc5 (by omega))
                | exact jdE (jd4_r hc5 (by omega) (whyN_5 (by omega)) (by decide) rfl)
                | exact jdE (jd4_r hc5 (by omega) (whyN_7 (by omega) (by omega)) (by decide) rfl)
                | exact jdE (jd4_r hc5 (by omega) (whyN_w (by omega) (by omega) (by omega)) (by omega) rfl)
                | exact jdE (jd4_r hc5 (by omega) (whyN_11 (by omega) (by omega) (by omega) (by omega)) (by decide) rfl)
                | (rw [show whyC σ (k : Int) = 0 by omega, lack_0]; exact jdE (jd4_z hc5 (by omega) (whyN_z (by omega) (by omega) (by omega) (by omega))))
              · -- 134 F
                refine j_aload3 C dX7_judgeCall_137 ?_
                refine j_bipush C (by decide) dX7_judgeCall_138 ?_
                refine j_iload4 C dX7_judgeCall_140 ?_
                refine j_cVV2 C (c_X5_set at_67 ⟨by omega, by omega⟩ ⟨by omega, by omega⟩) oX5_set kX7_67 ⟨_, rfl, rfl⟩ at_67 ⟨by decide, by decide⟩ rfl (Nat.le_of_ble_eq_true rfl) ⟨by decide, by decide⟩ dX7_judgeCall_142 ?_
                rintro _ rfl
                rw [RF_RF]
                refine j_vret C hrt dX7_judgeCall_145 ?_
                first
                | exact jdE (jd4_3 (by assumption))
                | exact jdE (jd4_1 hc5 (by omega))
                | exact jdE (jd4_r hc5 (by omega) (whyN_5 (by omega)) (by decide) rfl)
                | exact jdE (jd4_r hc5 (by omega) (whyN_7 (by omega) (by omega)) (by decide) rfl)
                | exact jdE (jd4_r hc5 (by omega) (whyN_w (by omega) (by omega) (by omega)) (by omega) rfl)
                | exact jdE (jd4_r hc5 (by omega) (whyN_11 (by omega) (by omega) (by omega) (by omega)) (by decide) rfl)
                | (rw [show whyC σ (k : Int) = 0 by omega, lack_0]; exact jdE (jd4_z hc5 (by omega) (whyN_z (by omega) (by omega) (by omega) (by omega))))
          · -- 74 F
            refine j_aload3 C dX7_judgeCall_77 ?_
            refine j_bipush C (by decide) dX7_judgeCall_78 ?_
            refine j_aload0 C dX7_judgeCall_80 ?_
            refine j_getr C fX7_19 (at_st hB) rfl hS.r.a1 dX7_judgeCall_81 ?_
            refine j_iload1 C dX7_judgeCall_84 ?_
            refine j_aald C (at_bA hB) rfl (Cn := RX1) rfl (N := 3) rfl (by decide) ⟨by omega, by omega⟩ (hS.r.b k (by omega)) dX7_judgeCall_85 ?_
            refine j_geti C fX7_120 (at_b hB (by omega)) rfl (hS.b0 k (by omega)) dX7_judgeCall_86 (fun hr86 => ?_)
            refine j_aload0 C dX7_judgeCall_89 ?_
            refine j_geti C fX7_39 (at_st hB) rfl hS.c6 dX7_judgeCall_90 (fun hr90 => ?_)
            refine j_cNI1 (host := RX8) C (c_X8_heightAt (by omega)) oX8_heightAt (List.mem_of_getElem? (i := 5) rfl) ⟨by decide, by decide⟩ rfl (Nat.le_of_ble_eq_true rfl) ⟨by decide, by decide⟩ dX7_judgeCall_93 ?_
            rintro _ _ hz93 ⟨rfl, rfl⟩
            refine j_isub C dX7_judgeCall_96 ?_
            refine j_cVV2 C (c_X5_set at_67 ⟨by omega, by omega⟩ ⟨by omega, by omega⟩) oX5_set kX7_67 ⟨_, rfl, rfl⟩ at_67 ⟨by decide, by decide⟩ rfl (Nat.le_of_ble_eq_true rfl) ⟨by decide, by decide⟩ dX7_judgeCall_97 ?_
            rintro _ rfl
            refine j_goto C dX7_judgeCall_100 ?_
            refine j_vret C hrt dX7_judgeCall_145 ?_
            first
            | exact jdE (jd4_3 (by assumption))
            | exact jdE (jd4_1 hc5 (by omega))
            | exact jdE (jd4_r hc5 (by omega) (whyN_5 (by omega)) (by decide) rfl)
            | exact jdE (jd4_r hc5 (by omega) (whyN_7 (by omega) (by omega)) (by decide) rfl)
            | exact jdE (jd4_r hc5 (by omega) (whyN_w (by omega) (by omega) (by omega)) (by omega) rfl)
            | exact jdE (jd4_r hc5 (by omega) (whyN_11 (by omega) (by omega) (by omega) (by omega)) (by decide) rfl)
            | (rw [show whyC σ (k : Int) = 0 by omega, lack_0]; exact jdE (jd4_z hc5 (by omega) (whyN_z (by omega) (by omega) (by omega) (by omega))))
      · -- 25 F
        refine j_aload3 C dX7_judgeCall_28 ?_
        refine j_iconst C dX7_judgeCall_29 ?_
        refine j_iconst C dX7_judgeCall_30 ?_
        refine j_cVV2 C (c_X5_set at_67 ⟨by omega, by omega⟩ ⟨by omega, by omega⟩) oX5_set kX7_67 ⟨_, rfl, rfl⟩ at_67 ⟨by decide, by decide⟩ rfl (Nat.le_of_ble_eq_true rfl) ⟨by decide, by decide⟩ dX7_judgeCall_31 ?_
        rintro _ rfl
        refine j_goto C dX7_judgeCall_34 ?_
        refine j_vret C hrt dX7_judgeCall_145 ?_
        first
        | exact jdE (jd4_3 (by assumption))
        | exact jdE (jd4_1 hc5 (by omega))
        | exact jdE (jd4_r hc5 (by omega) (whyN_5 (by omega)) (by decide) rfl)
        | exact jdE (jd4_r hc5 (by omega) (whyN_7 (by omega) (by omega)) (by decide) rfl)
        | exact jdE (jd4_r hc5 (by omega) (whyN_w (by omega) (by omega) (by omega)) (by omega) rfl)
        | exact jdE (jd4_r hc5 (by omega) (whyN_11 (by omega) (by omega) (by omega) (by omega)) (by decide) rfl)
        | (rw [show whyC σ (k : Int) = 0 by omega, lack_0]; exact jdE (jd4_z hc5 (by omega) (whyN_z (by omega) (by omega) (by omega) (by omega))))
  · -- 5 F
    refine j_aload3 C dX7_judgeCall_8 ?_
    refine j_iconst C dX7_judgeCall_9 ?_
    refine j_iload1 C dX7_judgeCall_10 ?_
    refine j_cVV2 C (c_X5_set at_67 ⟨by omega, by omega⟩ ⟨by omega, by omega⟩) oX5_set kX7_67 ⟨_, rfl, rfl⟩ at_67 ⟨by decide, by decide⟩ rfl (Nat.le_of_ble_eq_true rfl) ⟨by decide, by decide⟩ dX7_judgeCall_11 ?_
    rintro _ rfl
    refine j_goto C dX7_judgeCall_14 ?_
    refine j_vret C hrt dX7_judgeCall_145 ?_
    first
    | exact jdE (jd4_3 (by assumption))
    | exact jdE (jd4_1 hc5 (by omega))
    | exact jdE (jd4_r hc5 (by omega) (whyN_5 (by omega)) (by decide) rfl)
    | exact jdE (jd4_r hc5 (by omega) (whyN_7 (by omega) (by omega)) (by decide) rfl)
    | exact jdE (jd4_r hc5 (by omega) (whyN_w (by omega) (by omega) (by omega)) (by omega) rfl)
    | exact jdE (jd4_r hc5 (by omega) (whyN_11 (by omega) (by omega) (by omega) (by omega)) (by decide) rfl)
    | (rw [show whyC σ (k : Int) = 0 by omega, lack_0]; exact jdE (jd4_z hc5 (by omega) (whyN_z (by omega) (by omega) (by omega) (by omega))))
set_option maxRecDepth 100000 in
set_option maxHeartbeats 4000000 in
theorem c_X7_isFresher {Γ : Ga} {l : Launch} {ω : Wo} {B : Nat} (hB : Bs B) {σ : Row} (hS : St ω B σ) {M : Int} (hI : RI M σ) (hWI : WI σ)  {j k : Nat} (hj : j < cM σ) (hk : k < cM σ) : CI Γ l yX7_isFresher cX7_isFresher 5 .boolean 0 [.ref (rl Γ B), .int (iI ((j : Int))), .int (iI ((k : Int)))] ω (fun z ω' => z = bI (lessP σ j k) ∧ ω = ω') := by
  refine Met.ofJ (k := 2) [some (.ref (rl Γ B)), some (.int (iI ((j : Int)))), some (.int (iI ((k : Int)))), none, none] (by decide) rfl rfl rfl (fun p e s mm args below meth c C hrt => ?_)
  have g := hI.s
  have gc := hI.c
  have gM := hI.2.1
  have gm := hI.m j (by omega)
  have go := hI.m k (by omega)
  refine j_aload0 C dX7_isFresher_0 ?_
  refine j_getr C fX7_11 (at_st hB) rfl hS.r.a0 dX7_isFresher_1 ?_
  refine j_iload1 C dX7_isFresher_4 ?_
  refine j_aald C (at_mA hB) rfl (Cn := RX4) rfl (N := 10) rfl (by decide) ⟨by omega, by omega⟩ (hS.r.m j (by omega)) dX7_isFresher_5 ?_
  refine j_astore3 C rfl dX7_isFresher_6 ?_
  refine j_aload0 C dX7_isFresher_7 ?_
  refine j_getr C fX7_11 (at_st hB) rfl hS.r.a0 dX7_isFresher_8 ?_
  refine j_iload2 C dX7_isFresher_11 ?_
  refine j_aald C (at_mA hB) rfl (Cn := RX4) rfl (N := 10) rfl (by decide) ⟨by omega, by omega⟩ (hS.r.m k (by omega)) dX7_isFresher_12 ?_
  refine j_astore4 C rfl dX7_isFresher_13 ?_
  refine j_aload3 C dX7_isFresher_15 ?_
  refine j_geti C fX7_184 (at_m hB (by omega)) rfl (hS.m2 j (by omega)) dX7_isFresher_16 (fun hr16 => ?_)
  refine j_aload4 C dX7_isFresher_19 ?_
  refine j_geti C fX7_184 (at_m hB (by omega)) rfl (hS.m2 k (by omega)) dX7_isFresher_21 (fun hr21 => ?_)
  refine j_icmp_eq C ⟨by omega, by omega⟩ ⟨by omega, by omega⟩ dX7_isFresher_24 (fun hc24 => ?_) (fun hc24 => ?_)
  · -- 24 T
    refine j_aload3 C dX7_isFresher_45 ?_
    refine j_geti C fX7_108 (at_m hB (by omega)) rfl (hS.m0 j (by omega)) dX7_isFresher_46 (fun hr46 => ?_)
    refine j_aload4 C dX7_isFresher_49 ?_
    refine j_geti C fX7_108 (at_m hB (by omega)) rfl (hS.m0 k (by omega)) dX7_isFresher_51 (fun hr51 => ?_)
    refine j_icmp_eq C ⟨by omega, by omega⟩ ⟨by omega, by omega⟩ dX7_isFresher_54 (fun hc54 => ?_) (fun hc54 => ?_)
    · -- 54 T
      refine j_iload1 C dX7_isFresher_77 ?_
      refine j_iload2 C dX7_isFresher_78 ?_
      refine j_icmp_ge C ⟨by omega, by omega⟩ ⟨by omega, by omega⟩ dX7_isFresher_79 (fun hc79 => ?_) (fun hc79 => ?_)
      · -- 79 T
        refine j_iconst C dX7_isFresher_86 ?_
        refine j_zret C hrt dX7_isFresher_87 (by first | exact Or.inl rfl | exact Or.inr rfl | exact bI_01 _) ?_
        refine ⟨?_, rfl⟩
        simp only [lessP]
        first | exact (bI_t (by omega)).symm | exact (bI_f (by omega)).symm
      · -- 79 F
        refine j_iconst C dX7_isFresher_82 ?_
        refine j_goto C dX7_isFresher_83 ?_
        refine j_zret C hrt dX7_isFresher_87 (by first | exact Or.inl rfl | exact Or.inr rfl | exact bI_01 _) ?_
        refine ⟨?_, rfl⟩
        simp only [lessP]
        first | exact (bI_t (by omega)).symm | exact (bI_f (by omega)).symm
    · -- 54 F
      refine j_aload3 C dX7_isFresher_57 ?_
      refine j_geti C fX7_108 (at_m hB (by omega)) rfl (hS.m0 j (by omega)) dX7_isFresher_58 (fun hr58 => ?_)
      refine j_aload4 C dX7_isFresher_61 ?_
      refine j_geti C fX7_108 (at_m hB (by omega)) rfl (hS.m0 k (by omega)) dX7_isFresher_63 (fun hr63 => ?_)
      refine j_icmp_le C ⟨by omega, by omega⟩ ⟨by omega, by omega⟩ dX7_isFresher_66 (fun hc66 => ?_) (fun hc66 => ?_)
      · -- 66 T
        refine j_iconst C dX7_isFresher_73 ?_
        refine j_goto C dX7_isFresher_74 ?_
        refine j_zret C hrt dX7_isFresher_87 (by first | exact Or.inl rfl | exact Or.inr rfl | exact bI_01 _) ?_
        refine ⟨?_, rfl⟩
        simp only [lessP]
        first | exact (bI_t (by omega)).symm | exact (bI_f (by omega)).symm
      · -- 66 F
        refine j_iconst C dX7_isFresher_69 ?_
        refine j_goto C dX7_isFresher_70 ?_
        refine j_zret C hrt dX7_isFresher_87 (by first | exact Or.inl rfl | exact Or.inr rfl | exact bI_01 _) ?_
        refine ⟨?_, rfl⟩
        simp only [lessP]
        first | exact (bI_t (by omega)).symm | exact (bI_f (by omega)).symm
  · -- 24 F
    refine j_aload3 C dX7_isFresher_27 ?_
    refine j_geti C fX7_184 (at_m hB (by omega)) rfl (hS.m2 j (by omega)) dX7_isFresher_28 (fun hr28 => ?_)
    refine j_aload4 C dX7_isFresher_31 ?_
    refine j_geti C fX7_184 (at_m hB (by omega)) rfl (hS.m2 k (by omega)) dX7_isFresher_33 (fun hr33 => ?_)
    refine j_icmp_ge C ⟨by omega, by omega⟩ ⟨by omega, by omega⟩ dX7_isFresher_36 (fun hc36 => ?_) (fun hc36 => ?_)
    · -- 36 T
      refine j_iconst C dX7_isFresher_43 ?_
      refine j_zret C hrt dX7_isFresher_44 (by first | exact Or.inl rfl | exact Or.inr rfl | exact bI_01 _) ?_
      refine ⟨?_, rfl⟩
      simp only [lessP]
      first | exact (bI_t (by omega)).symm | exact (bI_f (by omega)).symm
    · -- 36 F
      refine j_iconst C dX7_isFresher_39 ?_
      refine j_goto C dX7_isFresher_40 ?_
      refine j_zret C hrt dX7_isFresher_44 (by first | exact Or.inl rfl | exact Or.inr rfl | exact bI_01 _) ?_
      refine ⟨?_, rfl⟩
      simp only [lessP]
      first | exact (bI_t (by omega)).symm | exact (bI_f (by omega)).symm
set_option maxRecDepth 100000 in
set_option maxHeartbeats 4000000 in
theorem c_X7_isBusier {Γ : Ga} {l : Launch} {ω : Wo} {B : Nat} (hB : Bs B) {σ : Row} (hS : St ω B σ) {M : Int} (hI : RI M σ) (hWI : WI σ)  {j k : Nat} (hj : j < cM σ) (hk : k < cM σ) : CI Γ l yX7_isBusier cX7_isBusier 5 .boolean 0 [.ref (rl Γ B), .int (iI ((j : Int))), .int (iI ((k : Int)))] ω (fun z ω' => z = bI (busyP σ j k) ∧ ω = ω') := by
  refine Met.ofJ (k := 2) [some (.ref (rl Γ B)), some (.int (iI ((j : Int)))), some (.int (iI ((k : Int)))), none, none] (by decide) rfl rfl rfl (fun p e s mm args below meth c C hrt => ?_)
  have g := hI.s
  have gc := hI.c
  have gM := hI.2.1
  have gm := hI.m j (by omega)
  have go := hI.m k (by omega)
  refine j_aload0 C dX7_isBusier_0 ?_
  refine j_getr C fX7_11 (at_st hB) rfl hS.r.a0 dX7_isBusier_1 ?_
  refine j_iload1 C dX7_isBusier_4 ?_
  refine j_aald C (at_mA hB) rfl (Cn := RX4) rfl (N := 10) rfl (by decide) ⟨by omega, by omega⟩ (hS.r.m j (by omega)) dX7_isBusier_5 ?_
  refine j_astore3 C rfl dX7_isBusier_6 ?_
  refine j_aload0 C dX7_isBusier_7 ?_
  refine j_getr C fX7_11 (at_st hB) rfl hS.r.a0 dX7_isBusier_8 ?_
  refine j_iload2 C dX7_isBusier_11 ?_
  refine j_aald C (at_mA hB) rfl (Cn := RX4) rfl (N := 10) rfl (by decide) ⟨by omega, by omega⟩ (hS.r.m k (by omega)) dX7_isBusier_12 ?_
  refine j_astore4 C rfl dX7_isBusier_13 ?_
  refine j_aload3 C dX7_isBusier_15 ?_
  refine j_geti C fX7_187 (at_m hB (by omega)) rfl (hS.m3 j (by omega)) dX7_isBusier_16 (fun hr16 => ?_)
  refine j_aload4 C dX7_isBusier_19 ?_
  refine j_geti C fX7_187 (at_m hB (by omega)) rfl (hS.m3 k (by omega)) dX7_isBusier_21 (fun hr21 => ?_)
  refine j_icmp_eq C ⟨by omega, by omega⟩ ⟨by omega, by omega⟩ dX7_isBusier_24 (fun hc24 => ?_) (fun hc24 => ?_)
  · -- 24 T
    refine j_aload3 C dX7_isBusier_45 ?_
    refine j_geti C fX7_154 (at_m hB (by omega)) rfl (hS.m4 j (by omega)) dX7_isBusier_46 (fun hr46 => ?_)
    refine j_aload4 C dX7_isBusier_49 ?_
    refine j_geti C fX7_154 (at_m hB (by omega)) rfl (hS.m4 k (by omega)) dX7_isBusier_51 (fun hr51 => ?_)
    refine j_icmp_eq C ⟨by omega, by omega⟩ ⟨by omega, by omega⟩ dX7_isBusier_54 (fun hc54 => ?_) (fun hc54 => ?_)
    · -- 54 T
      refine j_iload1 C dX7_isBusier_77 ?_
      refine j_iload2 C dX7_isBusier_78 ?_
      refine j_icmp_ge C ⟨by omega, by omega⟩ ⟨by omega, by omega⟩ dX7_isBusier_79 (fun hc79 => ?_) (fun hc79 => ?_)
      · -- 79 T
        refine j_iconst C dX7_isBusier_86 ?_
        refine j_zret C hrt dX7_isBusier_87 (by first | exact Or.inl rfl | exact Or.inr rfl | exact bI_01 _) ?_
        refine ⟨?_, rfl⟩
        simp only [busyP]
        first | exact (bI_t (by omega)).symm | exact (bI_f (by omega)).symm
      · -- 79 F
        refine j_iconst C dX7_isBusier_82 ?_
        refine j_goto C dX7_isBusier_83 ?_
        refine j_zret C hrt dX7_isBusier_87 (by first | exact Or.inl rfl | exact Or.inr rfl | exact bI_01 _) ?_
        refine ⟨?_, rfl⟩
        simp only [busyP]
        first | exact (bI_t (by omega)).symm | exact (bI_f (by omega)).symm
    · -- 54 F
      refine j_aload3 C dX7_isBusier_57 ?_
      refine j_geti C fX7_154 (at_m hB (by omega)) rfl (hS.m4 j (by omega)) dX7_isBusier_58 (fun hr58 => ?_)
      refine j_aload4 C dX7_isBusier_61 ?_
      refine j_geti C fX7_154 (at_m hB (by omega)) rfl (hS.m4 k (by omega)) dX7_isBusier_63 (fun hr63 => ?_)
      refine j_icmp_le C ⟨by omega, by omega⟩ ⟨by omega, by omega⟩ dX7_isBusier_66 (fun hc66 => ?_) (fun hc66 => ?_)
      · -- 66 T
        refine j_iconst C dX7_isBusier_73 ?_
        refine j_goto C dX7_isBusier_74 ?_
        refine j_zret C hrt dX7_isBusier_87 (by first | exact Or.inl rfl | exact Or.inr rfl | exact bI_01 _) ?_
        refine ⟨?_, rfl⟩
        simp only [busyP]
        first | exact (bI_t (by omega)).symm | exact (bI_f (by omega)).symm
      · -- 66 F
        refine j_iconst C dX7_isBusier_69 ?_
        refine j_goto C dX7_isBusier_70 ?_
        refine j_zret C hrt dX7_isBusier_87 (by first | exact Or.inl rfl | exact Or.inr rfl | exact bI_01 _) ?_
        refine ⟨?_, rfl⟩
        simp only [busyP]
        first | exact (bI_t (by omega)).symm | exact (bI_f (by omega)).symm
  · -- 24 F
    refine j_aload3 C dX7_isBusier_27 ?_
    refine j_geti C fX7_187 (at_m hB (by omega)) rfl (hS.m3 j (by omega)) dX7_isBusier_28 (fun hr28 => ?_)
    refine j_aload4 C dX7_isBusier_31 ?_
    refine j_geti C fX7_187 (at_m hB (by omega)) rfl (hS.m3 k (by omega)) dX7_isBusier_33 (fun hr33 => ?_)
    refine j_icmp_le C ⟨by omega, by omega⟩ ⟨by omega, by omega⟩ dX7_isBusier_36 (fun hc36 => ?_) (fun hc36 => ?_)
    · -- 36 T
      refine j_iconst C dX7_isBusier_43 ?_
      refine j_zret C hrt dX7_isBusier_44 (by first | exact Or.inl rfl | exact Or.inr rfl | exact bI_01 _) ?_
      refine ⟨?_, rfl⟩
      simp only [busyP]
      first | exact (bI_t (by omega)).symm | exact (bI_f (by omega)).symm
    · -- 36 F
      refine j_iconst C dX7_isBusier_39 ?_
      refine j_goto C dX7_isBusier_40 ?_
      refine j_zret C hrt dX7_isBusier_44 (by first | exact Or.inl rfl | exact Or.inr rfl | exact bI_01 _) ?_
      refine ⟨?_, rfl⟩
      simp only [busyP]
      first | exact (bI_t (by omega)).symm | exact (bI_f (by omega)).symm
set_option maxRecDepth 100000 in
set_option maxHeartbeats 4000000 in
theorem c_X7_countBefore_F {Γ : Ga} {l : Launch} {ω : Wo} {B : Nat} (hB : Bs B) {σ : Row} (hS : St ω B σ) {M : Int} (hI : RI M σ) (hWI : WI σ)  {k x : Nat} (hk : k < cM σ) (hx : x < 1024) : CI Γ l yX7_countBefore cX7_countBefore 7 .int 1 [.ref (rl Γ B), .int (iI ((k : Int))), .int (iI ((x : Int))), .int (iI 0)] ω (fun z ω' => z = cbUp σ x k (cM σ) ∧ ω = ω') := by
  refine Met.ofJ (k := 3) [some (.ref (rl Γ B)), some (.int (iI ((k : Int)))), some (.int (iI ((x : Int)))), some (.int (iI 0)), none, none, none] (by decide) rfl rfl rfl (fun p e s mm args below meth c C hrt => ?_)
  have g := hI.s
  have gc := hI.c
  have gM := hI.2.1
  refine j_iconst C dX7_countBefore_0 ?_
  refine j_istore4 C rfl dX7_countBefore_1 ?_
  refine j_iconst C dX7_countBefore_3 ?_
  refine j_istore5 C rfl dX7_countBefore_4 ?_
  have loop6 : ∀ (N : Nat) (n : Nat), (cM σ - n) < N → (n ≤ cM σ) → J Γ p l e (rmk 1 0 0) s mm args below meth c (MQ below (QI Γ (fun z ω' => z = cbUp σ x k (cM σ) ∧ ω = ω')) args s 0 0 (gA Γ)) 243 0 0 6 [some (.ref (rl Γ B)), some (.int (iI ((k : Nat) : Int))), some (.int (iI ((x : Nat) : Int))), some (.int (iI 0)), some (.int (iI (cbUp σ x k n))), some (.int (iI ((n : Nat) : Int))), none] [] ω := by
    intro N
    induction N with
    | zero => intro n hN; exact absurd hN (Nat.not_lt_zero _)
    | succ N ih6 =>
      intro n hN hi0
      have go := cbUp_rg σ x k n
      refine j_iload5 C dX7_countBefore_6 ?_
      refine j_aload0 C dX7_countBefore_8 ?_
      refine j_geti C fX7_29 (at_st hB) rfl hS.c3 dX7_countBefore_9 (fun hr9 => ?_)
      refine j_icmp_ge C ⟨by omega, by omega⟩ ⟨by omega, by omega⟩ dX7_countBefore_12 (fun hc12 => ?_) (fun hc12 => ?_)
      · -- 12 T
        refine j_iload4 C dX7_countBefore_61 ?_
        refine j_iret C hrt dX7_countBefore_63 ⟨by omega, by omega⟩ ?_
        have hn9 : n = cM σ := by omega
        subst hn9
        exact ⟨rfl, rfl⟩
      · -- 12 F
        refine j_iload3 C dX7_countBefore_15 ?_
        refine j_if_eq C (by decide) dX7_countBefore_16 (fun hc16 => ?_) (fun hc16 => ?_)
        · -- 16 T
          refine j_aload0 C dX7_countBefore_29 ?_
          refine j_iload5 C dX7_countBefore_30 ?_
          refine j_iload1 C dX7_countBefore_32 ?_
          refine j_cVI2 C (c_X7_isFresher hB (by exact hS) (by exact hI) (by exact hWI) (by omega) (by omega)) oX7_isFresher kX7_241 ⟨_, rfl, rfl⟩ (at_st hB) ⟨by decide, by decide⟩ rfl (Nat.le_of_ble_eq_true rfl) ⟨by decide, by decide⟩ dX7_countBefore_33 ?_
          rintro _ _ hz33 ⟨rfl, rfl⟩
          refine j_istore6 C rfl dX7_countBefore_36 ?_
          refine j_iload5 C dX7_countBefore_38 ?_
          refine j_iload2 C dX7_countBefore_40 ?_
          refine j_cNI2 (host := RX8) C (c_X8_isIn (k := n) (by omega) (by omega)) oX8_isIn (List.mem_of_getElem? (i := 6) rfl) ⟨by decide, by decide⟩ rfl (Nat.le_of_ble_eq_true rfl) ⟨by decide, by decide⟩ dX7_countBefore_41 ?_
          rintro _ _ hz41 ⟨rfl, rfl⟩
          refine j_ifeqb C dX7_countBefore_44 (fun hc44 => ?_) (fun hc44 => ?_)
          · -- 44 T
            refine j_iload6 C dX7_countBefore_47 ?_
            refine j_ifeqb C dX7_countBefore_49 (fun hc49 => ?_) (fun hc49 => ?_)
            · -- 49 T
              refine j_iinc4 C rfl dX7_countBefore_52 ?_
              refine j_iinc5n C rfl dX7_countBefore_55 ?_
              refine j_goto C dX7_countBefore_58 ?_
              exact j_fg (ih6 (n + 1) (by omega) (by omega)) ⟨Or.inr rfl, Or.inr rfl, Or.inr rfl, Or.inr rfl, Or.inr (sI (by simp only [cbUp]; first | rw [if_pos ⟨by assumption, by assumption⟩] | (rw [if_neg (fun q => absurd q.1 (by assumption))] <;> simp) | (rw [if_neg (fun q => absurd q.2 (by assumption))] <;> simp))), Or.inr rfl, Or.inl rfl, trivial⟩ rfl
            · -- 49 F
              refine j_iinc5n C rfl dX7_countBefore_55 ?_
              refine j_goto C dX7_countBefore_58 ?_
              exact j_fg (ih6 (n + 1) (by omega) (by omega)) ⟨Or.inr rfl, Or.inr rfl, Or.inr rfl, Or.inr rfl, Or.inr (sI (by simp only [cbUp]; first | rw [if_pos ⟨by assumption, by assumption⟩] | (rw [if_neg (fun q => absurd q.1 (by assumption))] <;> simp) | (rw [if_neg (fun q => absurd q.2 (by assumption))] <;> simp))), Or.inr rfl, Or.inl rfl, trivial⟩ rfl
          · -- 44 F
            refine j_iinc5n C rfl dX7_countBefore_55 ?_
            refine j_goto C dX7_countBefore_58 ?_
            exact j_fg (ih6 (n + 1) (by omega) (by omega)) ⟨Or.inr rfl, Or.inr rfl, Or.inr rfl, Or.inr rfl, Or.inr (sI (by simp only [cbUp]; first | rw [if_pos ⟨by assumption, by assumption⟩] | (rw [if_neg (fun q => absurd q.1 (by assumption))] <;> simp) | (rw [if_neg (fun q => absurd q.2 (by assumption))] <;> simp))), Or.inr rfl, Or.inl rfl, trivial⟩ rfl
        · -- 16 F
          exact absurd rfl hc16
  exact j_fg (loop6 _ 0 (Nat.lt_succ_self _) (Nat.zero_le _)) ⟨Or.inr rfl, Or.inr rfl, Or.inr rfl, Or.inr rfl, Or.inr rfl, Or.inr rfl, Or.inr rfl, trivial⟩ rfl
set_option maxRecDepth 100000 in
set_option maxHeartbeats 4000000 in
theorem c_X7_memberInPlace_F {Γ : Ga} {l : Launch} {ω : Wo} {B : Nat} (hB : Bs B) {σ : Row} (hS : St ω B σ) {M : Int} (hI : RI M σ) (hWI : WI σ)  {x : Nat} {q : Int} (hq : Rg q) (hx : x < 1024) : CI Γ l yX7_memberInPlace cX7_memberInPlace 5 .int 2 [.ref (rl Γ B), .int (iI q), .int (iI ((x : Int))), .int (iI 0)] ω (fun z ω' => z = mpUp σ x q (cM σ) 0 ∧ ω = ω') := by
  refine Met.ofJ (k := 1) [some (.ref (rl Γ B)), some (.int (iI q)), some (.int (iI ((x : Int)))), some (.int (iI 0)), none] (by decide) rfl rfl rfl (fun p e s mm args below meth c C hrt => ?_)
  have g := hI.s
  have gc := hI.c
  have gM := hI.2.1
  refine j_iconst C dX7_memberInPlace_0 ?_
  refine j_istore4 C rfl dX7_memberInPlace_1 ?_
  have loop3 : ∀ (N : Nat) (k : Nat), (cM σ - k) < N → (k ≤ cM σ) → (mpUp σ x q (cM σ - k) k = mpUp σ x q (cM σ) 0) → J Γ p l e (rmk 2 0 0) s mm args below meth c (MQ below (QI Γ (fun z ω' => z = mpUp σ x q (cM σ) 0 ∧ ω = ω')) args s 0 0 (gA Γ)) 243 0 0 3 [some (.ref (rl Γ B)), some (.int (iI q)), some (.int (iI ((x : Nat) : Int))), some (.int (iI 0)), some (.int (iI ((k : Nat) : Int)))] [] ω := by
    intro N
    induction N with
    | zero => intro k hN; exact absurd hN (Nat.not_lt_zero _)
    | succ N ih3 =>
      intro k hN hi0 hi1
      have go := cbUp_rg σ x k (cM σ)
      refine j_iload4 C dX7_memberInPlace_3 ?_
      refine j_aload0 C dX7_memberInPlace_5 ?_
      refine j_geti C fX7_29 (at_st hB) rfl hS.c3 dX7_memberInPlace_6 (fun hr6 => ?_)
      refine j_icmp_ge C ⟨by omega, by omega⟩ ⟨by omega, by omega⟩ dX7_memberInPlace_9 (fun hc9 => ?_) (fun hc9 => ?_)
      · -- 9 T
        refine j_iconst C dX7_memberInPlace_42 ?_
        refine j_iret C hrt dX7_memberInPlace_43 ⟨by omega, by omega⟩ ?_
        refine ⟨?_, rfl⟩
        rw [← hi1, show cM σ - k = 0 by omega]
        rfl
      · -- 9 F
        refine j_iload4 C dX7_memberInPlace_12 ?_
        refine j_iload2 C dX7_memberInPlace_14 ?_
        refine j_cNI2 (host := RX8) C (c_X8_isIn (k := k) (by omega) (by omega)) oX8_isIn (List.mem_of_getElem? (i := 6) rfl) ⟨by decide, by decide⟩ rfl (Nat.le_of_ble_eq_true rfl) ⟨by decide, by decide⟩ dX7_memberInPlace_15 ?_
        rintro _ _ hz15 ⟨rfl, rfl⟩
        refine j_ifeqb C dX7_memberInPlace_18 (fun hc18 => ?_) (fun hc18 => ?_)
        · -- 18 T
          refine j_aload0 C dX7_memberInPlace_21 ?_
          refine j_iload4 C dX7_memberInPlace_22 ?_
          refine j_iload2 C dX7_memberInPlace_24 ?_
          refine j_iload3 C dX7_memberInPlace_25 ?_
          refine j_cVI3 C (c_X7_countBefore_F hB (by exact hS) (by exact hI) (by exact hWI) (by omega) hx) oX7_countBefore kX7_234 ⟨_, rfl, rfl⟩ (at_st hB) ⟨by decide, by decide⟩ rfl (Nat.le_of_ble_eq_true rfl) ⟨by decide, by decide⟩ dX7_memberInPlace_26 ?_
          rintro _ _ hz26 ⟨rfl, rfl⟩
          refine j_iload1 C dX7_memberInPlace_29 ?_
          refine j_icmp_ne C ⟨by omega, by omega⟩ ⟨by omega, by omega⟩ dX7_memberInPlace_30 (fun hc30 => ?_) (fun hc30 => ?_)
          · -- 30 T
            refine j_iinc4n C rfl dX7_memberInPlace_36 ?_
            refine j_goto C dX7_memberInPlace_39 ?_
            exact j_fg (ih3 (k + 1) (by omega) (by omega) (by rw [← hi1, show cM σ - k = (cM σ - (k + 1)) + 1 by omega]; exact (mpUp_f (by first | exact fun r => absurd r.1 (by assumption) | exact fun r => absurd r.2 (by assumption))).symm)) ⟨Or.inr rfl, Or.inr rfl, Or.inr rfl, Or.inr rfl, Or.inr rfl, trivial⟩ rfl
          · -- 30 F
            refine j_iload4 C dX7_memberInPlace_33 ?_
            refine j_iret C hrt dX7_memberInPlace_35 ⟨by omega, by omega⟩ ?_
            refine ⟨?_, rfl⟩
            rw [← hi1, show cM σ - k = (cM σ - (k + 1)) + 1 by omega]
            exact (mpUp_t ⟨by assumption, by assumption⟩).symm
        · -- 18 F
          refine j_iinc4n C rfl dX7_memberInPlace_36 ?_
          refine j_goto C dX7_memberInPlace_39 ?_
          exact j_fg (ih3 (k + 1) (by omega) (by omega) (by rw [← hi1, show cM σ - k = (cM σ - (k + 1)) + 1 by omega]; exact (mpUp_f (by first | exact fun r => absurd r.1 (by assumption) | exact fun r => absurd r.2 (by assumption))).symm)) ⟨Or.inr rfl, Or.inr rfl, Or.inr rfl, Or.inr rfl, Or.inr rfl, trivial⟩ rfl
  exact j_fg (loop3 _ 0 (Nat.lt_succ_self _) (Nat.zero_le _) rfl) ⟨Or.inr rfl, Or.inr rfl, Or.inr rfl, Or.inr rfl, Or.inr rfl, trivial⟩ rfl
set_option maxRecDepth 100000 in
set_option maxHeartbeats 4000000 in
theorem c_X7_countBefore_T {Γ : Ga} {l : Launch} {ω : Wo} {B : Nat} (hB : Bs B) {σ : Row} (hS : St ω B σ) {M : Int} (hI : RI M σ) (hWI : WI σ)  {k x : Nat} (hk : k < cM σ) (hx : x < 1024) : CI Γ l yX7_countBefore cX7_countBefore 7 .int 1 [.ref (rl Γ B), .int (iI ((k : Int))), .int (iI ((x : Int))), .int (iI 1)] ω (fun z ω' => z = cbUpB σ x k (cM σ) ∧ ω = ω') := by
  refine Met.ofJ (k := 3) [some (.ref (rl Γ B)), some (.int (iI ((k : Int)))), some (.int (iI ((x : Int)))), some (.int (iI 1)), none, none, none] (by decide) rfl rfl rfl (fun p e s mm args below meth c C hrt => ?_)
  have g := hI.s
  have gc := hI.c
  have gM := hI.2.1
  refine j_iconst C dX7_countBefore_0 ?_
  refine j_istore4 C rfl dX7_countBefore_1 ?_
  refine j_iconst C dX7_countBefore_3 ?_
  refine j_istore5 C rfl dX7_countBefore_4 ?_
  have loop6 : ∀ (N : Nat) (n : Nat), (cM σ - n) < N → (n ≤ cM σ) → J Γ p l e (rmk 1 0 0) s mm args below meth c (MQ below (QI Γ (fun z ω' => z = cbUpB σ x k (cM σ) ∧ ω = ω')) args s 0 0 (gA Γ)) 243 0 0 6 [some (.ref (rl Γ B)), some (.int (iI ((k : Nat) : Int))), some (.int (iI ((x : Nat) : Int))), some (.int (iI 1)), some (.int (iI (cbUpB σ x k n))), some (.int (iI ((n : Nat) : Int))), none] [] ω := by
    intro N
    induction N with
    | zero => intro n hN; exact absurd hN (Nat.not_lt_zero _)
    | succ N ih6 =>
      intro n hN hi0
      have go := cbUpB_rg σ x k n
      refine j_iload5 C dX7_countBefore_6 ?_
      refine j_aload0 C dX7_countBefore_8 ?_
      refine j_geti C fX7_29 (at_st hB) rfl hS.c3 dX7_countBefore_9 (fun hr9 => ?_)
      refine j_icmp_ge C ⟨by omega, by omega⟩ ⟨by omega, by omega⟩ dX7_countBefore_12 (fun hc12 => ?_) (fun hc12 => ?_)
      · -- 12 T
        refine j_iload4 C dX7_countBefore_61 ?_
        refine j_iret C hrt dX7_countBefore_63 ⟨by omega, by omega⟩ ?_
        have hn9 : n = cM σ := by omega
        subst hn9
        exact ⟨rfl, rfl⟩
      · -- 12 F
        refine j_iload3 C dX7_countBefore_15 ?_
        refine j_if_eq C (by decide) dX7_countBefore_16 (fun hc16 => ?_) (fun hc16 => ?_)
        · -- 16 T
          exact absurd hc16 (by decide)
        · -- 16 F
          refine j_aload0 C dX7_countBefore_19 ?_
          refine j_iload5 C dX7_countBefore_20 ?_
          refine j_iload1 C dX7_countBefore_22 ?_
          refine j_cVI2 C (c_X7_isBusier hB (by exact hS) (by exact hI) (by exact hWI) (by omega) (by omega)) oX7_isBusier kX7_238 ⟨_, rfl, rfl⟩ (at_st hB) ⟨by decide, by decide⟩ rfl (Nat.le_of_ble_eq_true rfl) ⟨by decide, by decide⟩ dX7_countBefore_23 ?_
          rintro _ _ hz23 ⟨rfl, rfl⟩
          refine j_goto C dX7_countBefore_26 ?_
          refine j_istore6 C rfl dX7_countBefore_36 ?_
          refine j_iload5 C dX7_countBefore_38 ?_
          refine j_iload2 C dX7_countBefore_40 ?_
          refine j_cNI2 (host := RX8) C (c_X8_isIn (k := n) (by omega) (by omega)) oX8_isIn (List.mem_of_getElem? (i := 6) rfl) ⟨by decide, by decide⟩ rfl (Nat.le_of_ble_eq_true rfl) ⟨by decide, by decide⟩ dX7_countBefore_41 ?_
          rintro _ _ hz41 ⟨rfl, rfl⟩
          refine j_ifeqb C dX7_countBefore_44 (fun hc44 => ?_) (fun hc44 => ?_)
          · -- 44 T
            refine j_iload6 C dX7_countBefore_47 ?_
            refine j_ifeqb C dX7_countBefore_49 (fun hc49 => ?_) (fun hc49 => ?_)
            · -- 49 T
              refine j_iinc4 C rfl dX7_countBefore_52 ?_
              refine j_iinc5n C rfl dX7_countBefore_55 ?_
              refine j_goto C dX7_countBefore_58 ?_
              exact j_fg (ih6 (n + 1) (by omega) (by omega)) ⟨Or.inr rfl, Or.inr rfl, Or.inr rfl, Or.inr rfl, Or.inr (sI (by simp only [cbUpB]; first | rw [if_pos ⟨by assumption, by assumption⟩] | (rw [if_neg (fun q => absurd q.1 (by assumption))] <;> simp) | (rw [if_neg (fun q => absurd q.2 (by assumption))] <;> simp))), Or.inr rfl, Or.inl rfl, trivial⟩ rfl
            · -- 49 F
              refine j_iinc5n C rfl dX7_countBefore_55 ?_
              refine j_goto C dX7_countBefore_58 ?_
              exact j_fg (ih6 (n + 1) (by omega) (by omega)) ⟨Or.inr rfl, Or.inr rfl, Or.inr rfl, Or.inr rfl, Or.inr (sI (by simp only [cbUpB]; first | rw [if_pos ⟨by assumption, by assumption⟩] | (rw [if_neg (fun q => absurd q.1 (by assumption))] <;> simp) | (rw [if_neg (fun q => absurd q.2 (by assumption))] <;> simp))), Or.inr rfl, Or.inl rfl, trivial⟩ rfl
          · -- 44 F
            refine j_iinc5n C rfl dX7_countBefore_55 ?_
            refine j_goto C dX7_countBefore_58 ?_
            exact j_fg (ih6 (n + 1) (by omega) (by omega)) ⟨Or.inr rfl, Or.inr rfl, Or.inr rfl, Or.inr rfl, Or.inr (sI (by simp only [cbUpB]; first | rw [if_pos ⟨by assumption, by assumption⟩] | (rw [if_neg (fun q => absurd q.1 (by assumption))] <;> simp) | (rw [if_neg (fun q => absurd q.2 (by assumption))] <;> simp))), Or.inr rfl, Or.inl rfl, trivial⟩ rfl
  exact j_fg (loop6 _ 0 (Nat.lt_succ_self _) (Nat.zero_le _)) ⟨Or.inr rfl, Or.inr rfl, Or.inr rfl, Or.inr rfl, Or.inr rfl, Or.inr rfl, Or.inr rfl, trivial⟩ rfl
set_option maxRecDepth 100000 in
set_option maxHeartbeats 4000000 in
theorem c_X7_memberInPlace_T {Γ : Ga} {l : Launch} {ω : Wo} {B : Nat} (hB : Bs B) {σ : Row} (hS : St ω B σ) {M : Int} (hI : RI M σ) (hWI : WI σ)  {x : Nat} {q : Int} (hq : Rg q) (hx : x < 1024) : CI Γ l yX7_memberInPlace cX7_memberInPlace 5 .int 2 [.ref (rl Γ B), .int (iI q), .int (iI ((x : Int))), .int (iI 1)] ω (fun z ω' => z = mpUpB σ x q (cM σ) 0 ∧ ω = ω') := by
  refine Met.ofJ (k := 1) [some (.ref (rl Γ B)), some (.int (iI q)), some (.int (iI ((x : Int)))), some (.int (iI 1)), none] (by decide) rfl rfl rfl (fun p e s mm args below meth c C hrt => ?_)
  have g := hI.s
  have gc := hI.c
  have gM := hI.2.1
  refine j_iconst C dX7_memberInPlace_0 ?_
  refine j_istore4 C rfl dX7_memberInPlace_1 ?_
  have loop3 : ∀ (N : Nat) (k : Nat), (cM σ - k) < N → (k ≤ cM σ) → (mpUpB σ x q (cM σ - k) k = mpUpB σ x q (cM σ) 0) → J Γ p l e (rmk 2 0 0) s mm args below meth c (MQ below (QI Γ (fun z ω' => z = mpUpB σ x q (cM σ) 0 ∧ ω = ω')) args s 0 0 (gA Γ)) 243 0 0 3 [some (.ref (rl Γ B)), some (.int (iI q)), some (.int (iI ((x : Nat) : Int))), some (.int (iI 1)), some (.int (iI ((k : Nat) : Int)))] [] ω := by
    intro N
    induction N with
    | zero => intro k hN; exact absurd hN (Nat.not_lt_zero _)
    | succ N ih3 =>
      intro k hN hi0 hi1
      have go := cbUpB_rg σ x k (cM σ)
      refine j_iload4 C dX7_memberInPlace_3 ?_
      refine j_aload0 C dX7_memberInPlace_5 ?_
      refine j_geti C fX7_29 (at_st hB) rfl hS.c3 dX7_memberInPlace_6 (fun hr6 => ?_)
      refine j_icmp_ge C ⟨by omega, by omega⟩ ⟨by omega, by omega⟩ dX7_memberInPlace_9 (fun hc9 => ?_) (fun hc9 => ?_)
      · -- 9 T
        refine j_iconst C dX7_memberInPlace_42 ?_
        refine j_iret C hrt dX7_memberInPlace_43 ⟨by omega, by omega⟩ ?_
        refine ⟨?_, rfl⟩
        rw [← hi1, show cM σ - k = 0 by omega]
        rfl
      · -- 9 F
        refine j_iload4 C dX7_memberInPlace_12 ?_
        refine j_iload2 C dX7_memberInPlace_14 ?_
        refine j_cNI2 (host := RX8) C (c_X8_isIn (k := k) (by omega) (by omega)) oX8_isIn (List.mem_of_getElem? (i := 6) rfl) ⟨by decide, by decide⟩ rfl (Nat.le_of_ble_eq_true rfl) ⟨by decide, by decide⟩ dX7_memberInPlace_15 ?_
        rintro _ _ hz15 ⟨rfl, rfl⟩
        refine j_ifeqb C dX7_memberInPlace_18 (fun hc18 => ?_) (fun hc18 => ?_)
        · -- 18 T
          refine j_aload0 C dX7_memberInPlace_21 ?_
          refine j_iload4 C dX7_memberInPlace_22 ?_
          refine j_iload2 C dX7_memberInPlace_24 ?_
          refine j_iload3 C dX7_memberInPlace_25 ?_
          refine j_cVI3 C (c_X7_countBefore_T hB (by exact hS) (by exact hI) (by exact hWI) (by omega) hx) oX7_countBefore kX7_234 ⟨_, rfl, rfl⟩ (at_st hB) ⟨by decide, by decide⟩ rfl (Nat.le_of_ble_eq_true rfl) ⟨by decide, by decide⟩ dX7_memberInPlace_26 ?_
          rintro _ _ hz26 ⟨rfl, rfl⟩
          refine j_iload1 C dX7_memberInPlace_29 ?_
          refine j_icmp_ne C ⟨by omega, by omega⟩ ⟨by omega, by omega⟩ dX7_memberInPlace_30 (fun hc30 => ?_) (fun hc30 => ?_)
          · -- 30 T
            refine j_iinc4n C rfl dX7_memberInPlace_36 ?_
            refine j_goto C dX7_memberInPlace_39 ?_
            exact j_fg (ih3 (k + 1) (by omega) (by omega) (by rw [← hi1, show cM σ - k = (cM σ - (k + 1)) + 1 by omega]; exact (mpUpB_f (by first | exact fun r => absurd r.1 (by assumption) | exact fun r => absurd r.2 (by assumption))).symm)) ⟨Or.inr rfl, Or.inr rfl, Or.inr rfl, Or.inr rfl, Or.inr rfl, trivial⟩ rfl
          · -- 30 F
            refine j_iload4 C dX7_memberInPlace_33 ?_
            refine j_iret C hrt dX7_memberInPlace_35 ⟨by omega, by omega⟩ ?_
            refine ⟨?_, rfl⟩
            rw [← hi1, show cM σ - k = (cM σ - (k + 1)) + 1 by omega]
            exact (mpUpB_t ⟨by assumption, by assumption⟩).symm
        · -- 18 F
          refine j_iinc4n C rfl dX7_memberInPlace_36 ?_
          refine j_goto C dX7_memberInPlace_39 ?_
          exact j_fg (ih3 (k + 1) (by omega) (by omega) (by rw [← hi1, show cM σ - k = (cM σ - (k + 1)) + 1 by omega]; exact (mpUpB_f (by first | exact fun r => absurd r.1 (by assumption) | exact fun r => absurd r.2 (by assumption))).symm)) ⟨Or.inr rfl, Or.inr rfl, Or.inr rfl, Or.inr rfl, Or.inr rfl, trivial⟩ rfl
  exact j_fg (loop3 _ 0 (Nat.lt_succ_self _) (Nat.zero_le _) rfl) ⟨Or.inr rfl, Or.inr rfl, Or.inr rfl, Or.inr rfl, Or.inr rfl, trivial⟩ rfl
set_option maxRecDepth 100000 in
set_option maxHeartbeats 4000000 in
theorem c_X7_leastWearinessOfAll {Γ : Ga} {l : Launch} {ω : Wo} {B : Nat} (hB : Bs B) {σ : Row} (hS : St ω B σ) {M : Int} (hI : RI M σ) (hWI : WI σ)  {b : Nat} (hb : b < cB σ) : CI Γ l yX7_leastWearinessOfAll cX7_leastWearinessOfAll 8 .int 2 [.ref (rl Γ B), .int (iI ((b : Int)))] ω (fun z ω' => z = lwUp σ b (ableS σ) ∧ ω = ω') := by
  refine Met.ofJ (k := 6) [some (.ref (rl Γ B)), some (.int (iI ((b : Int)))), none, none, none, none, none, none] (by decide) rfl rfl rfl (fun p e s mm args below meth c C hrt => ?_)
  have g := hI.s
  have gc := hI.c
  have gM := hI.2.1
  have gb := hI.b b (by omega)
  have gs2 := hWI.2.1 b (by omega)
  have gwb := hWI.2.2.2 b hb
  have ha := ableS_lt hI
  have gm : mustO σ b = (sB σ b 1 - 1) / 2 := rfl
  refine j_aload0 C dX7_leastWearinessOfAll_0 ?_
  refine j_cVI0 C (c_X7_ableMembers hB (by exact hS) (by exact hI) (by exact hWI)) oX7_ableMembers kX7_132 ⟨_, rfl, rfl⟩ (at_st hB) ⟨by decide, by decide⟩ rfl (Nat.le_of_ble_eq_true rfl) ⟨by decide, by decide⟩ dX7_leastWearinessOfAll_1 ?_
  rintro _ _ hz1 ⟨rfl, rfl⟩
  refine j_istore2 C rfl dX7_leastWearinessOfAll_4 ?_
  refine j_aload0 C dX7_leastWearinessOfAll_5 ?_
  refine j_iconst C dX7_leastWearinessOfAll_6 ?_
  refine j_cVI1 C (c_X7_skilledMembers hB (by exact hS) (by exact hI) (by exact hWI) ⟨by omega, by omega⟩) oX7_skilledMembers kX7_138 ⟨_, rfl, rfl⟩ (at_st hB) ⟨by decide, by decide⟩ rfl (Nat.le_of_ble_eq_true rfl) ⟨by decide, by decide⟩ dX7_leastWearinessOfAll_7 ?_
  rintro _ _ hz7 ⟨rfl, rfl⟩
  refine j_istore3 C rfl dX7_leastWearinessOfAll_10 ?_
  refine j_aload0 C dX7_leastWearinessOfAll_11 ?_
  refine j_iconst C dX7_leastWearinessOfAll_12 ?_
  refine j_cVI1 C (c_X7_skilledMembers hB (by exact hS) (by exact hI) (by exact hWI) ⟨by omega, by omega⟩) oX7_skilledMembers kX7_138 ⟨_, rfl, rfl⟩ (at_st hB) ⟨by decide, by decide⟩ rfl (Nat.le_of_ble_eq_true rfl) ⟨by decide, by decide⟩ dX7_leastWearinessOfAll_13 ?_
  rintro _ _ hz13 ⟨rfl, rfl⟩
  refine j_istore4 C rfl dX7_leastWearinessOfAll_16 ?_
  refine j_aload0 C dX7_leastWearinessOfAll_18 ?_
  refine j_iload2 C dX7_leastWearinessOfAll_19 ?_
  refine j_cVI1 C (c_X7_wearinessOf hB (by exact hS) (by exact hI) (by exact hWI) (x := ableS σ) (by omega)) oX7_wearinessOf kX7_225 ⟨_, rfl, rfl⟩ (at_st hB) ⟨by decide, by decide⟩ rfl (Nat.le_of_ble_eq_true rfl) ⟨by decide, by decide⟩ dX7_leastWearinessOfAll_20 ?_
  rintro _ _ hz20 ⟨rfl, rfl⟩
  refine j_istore5 C rfl dX7_leastWearinessOfAll_23 ?_
  refine j_iconst C dX7_leastWearinessOfAll_25 ?_
  refine j_istore6 C rfl dX7_leastWearinessOfAll_26 ?_
  have loop28 : ∀ (N : Nat) (n : Nat), (ableS σ - n) < N → (n ≤ ableS σ) → J Γ p l e (rmk 2 0 0) s mm args below meth c (MQ below (QI Γ (fun z ω' => z = lwUp σ b (ableS σ) ∧ ω = ω')) args s 0 0 (gA Γ)) 243 0 0 28 [some (.ref (rl Γ B)), some (.int (iI ((b : Nat) : Int))), some (.int (iI ((ableS σ : Nat) : Int))), some (.int (iI ((skS σ 2 : Nat) : Int))), some (.int (iI ((skS σ 1 : Nat) : Int))), some (.int (iI (lwUp σ b n))), some (.int (iI ((n + 1 : Nat) : Int))), none] [] ω := by
    intro N
    induction N with
    | zero => intro n hN; exact absurd hN (Nat.not_lt_zero _)
    | succ N ih28 =>
      intro n hN hi0
      have gl := lwUp_rg hI b n
      have gw := wsUp_rg hI (n + 1) (cM σ) gc.1.2
      have hn1 : n + 1 &&& (4294967295 - ableS σ) ≤ n + 1 := Nat.and_le_left
      have hn2 : n + 1 &&& skS σ 2 ≤ n + 1 := Nat.and_le_left
      have hn3 : n + 1 &&& skS σ 1 ≤ n + 1 := Nat.and_le_left
      have hb1 := bitsUp_rg (n + 1) 10
      have hb2 := bitsUp_rg (n + 1 &&& skS σ 1) 10
      have eb1 : bitsN (n + 1) = bitsUp (n + 1) 10 := rfl
      have eb2 : bitsN (n + 1 &&& skS σ 1) = bitsUp (n + 1 &&& skS σ 1) 10 := rfl
      refine j_iload6 C dX7_leastWearinessOfAll_28 ?_
      refine j_iload2 C dX7_leastWearinessOfAll_30 ?_
      refine j_icmp_gt C ⟨by omega, by omega⟩ ⟨by omega, by omega⟩ dX7_leastWearinessOfAll_31 (fun hc31 => ?_) (fun hc31 => ?_)
      · -- 31 T
        refine j_iload5 C dX7_leastWearinessOfAll_118 ?_
        refine j_iret C hrt dX7_leastWearinessOfAll_120 ⟨by omega, by omega⟩ ?_
        have hn9 : n = ableS σ := by omega
        subst hn9
        exact ⟨rfl, rfl⟩
      · -- 31 F
        refine j_iload6 C dX7_leastWearinessOfAll_34 ?_
        refine j_iload2 C dX7_leastWearinessOfAll_36 ?_
        refine j_iconst C dX7_leastWearinessOfAll_37 ?_
        refine j_ixorm C (by omega) dX7_leastWearinessOfAll_38 ?_
        refine j_iand C dX7_leastWearinessOfAll_39 ?_
        refine j_if_ne C ⟨by omega, by omega⟩ dX7_leastWearinessOfAll_40 (fun hc40 => ?_) (fun hc40 => ?_)
        · -- 40 T
          refine j_iconst C dX7_leastWearinessOfAll_64 ?_
          refine j_istore7 C rfl dX7_leastWearinessOfAll_65 ?_
          refine j_iload7 C dX7_leastWearinessOfAll_67 ?_
          refine j_if_eq C (by decide) dX7_leastWearinessOfAll_69 (fun _ => ?_) (fun hc => absurd hc (by decide))
          refine j_iinc6n C rfl dX7_leastWearinessOfAll_112 ?_
          refine j_goto C dX7_leastWearinessOfAll_115 ?_
          exact j_fg (ih28 (n + 1) (by omega) (by omega)) ⟨Or.inr rfl, Or.inr rfl, Or.inr rfl, Or.inr rfl, Or.inr rfl, Or.inr (sI (by simp only [lwUp]; first | rw [if_pos ⟨⟨by omega, by omega⟩, by omega, by omega⟩] | rw [if_neg (fun q => by have q1 := q.1.1; have q2 := q.1.2; have q3 := q.2.1; have q4 := q.2.2; omega)])), Or.inr rfl, Or.inl rfl, trivial⟩ rfl
        · -- 40 F
          refine j_iload6 C dX7_leastWearinessOfAll_43 ?_
          refine j_cSI1 C (c_J6_bitCount (x := n + 1) (by omega)) oJ6_bitCount_0f7a4 kX7_95 ⟨by decide, by decide⟩ rfl (Nat.le_of_ble_eq_true rfl) ⟨by decide, by decide⟩ dX7_leastWearinessOfAll_45 ?_
          rintro _ _ hz45 ⟨rfl, rfl⟩
          refine j_aload0 C dX7_leastWearinessOfAll_48 ?_
          refine j_getr C fX7_19 (at_st hB) rfl hS.r.a1 dX7_leastWearinessOfAll_49 ?_
          refine j_iload1 C dX7_leastWearinessOfAll_52 ?_
          refine j_aald C (at_bA hB) rfl (Cn := RX1) rfl (N := 3) rfl (by decide) ⟨by omega, by omega⟩ (hS.r.b b (by omega)) dX7_leastWearinessOfAll_53 ?_
          refine j_geti C fX7_135 (at_b hB (by omega)) rfl (hS.b1 b (by omega)) dX7_leastWearinessOfAll_54 (fun hr54 => ?_)
          refine j_icmp_ne C ⟨by omega, by omega⟩ ⟨by omega, by omega⟩ dX7_leastWearinessOfAll_57 (fun hc57 => ?_) (fun hc57 => ?_)
          · -- 57 T
            refine j_iconst C dX7_leastWearinessOfAll_64 ?_
            refine j_istore7 C rfl dX7_leastWearinessOfAll_65 ?_
            refine j_iload7 C dX7_leastWearinessOfAll_67 ?_
            refine j_if_eq C (by decide) dX7_leastWearinessOfAll_69 (fun _ => ?_) (fun hc => absurd hc (by decide))
            refine j_iinc6n C rfl dX7_leastWearinessOfAll_112 ?_
            refine j_goto C dX7_leastWearinessOfAll_115 ?_
            exact j_fg (ih28 (n + 1) (by omega) (by omega)) ⟨Or.inr rfl, Or.inr rfl, Or.inr rfl, Or.inr rfl, Or.inr rfl, Or.inr (sI (by simp only [lwUp]; first | rw [if_pos ⟨⟨by omega, by omega⟩, by omega, by omega⟩] | rw [if_neg (fun q => by have q1 := q.1.1; have q2 := q.1.2; have q3 := q.2.1; have q4 := q.2.2; omega)])), Or.inr rfl, Or.inl rfl, trivial⟩ rfl
          · -- 57 F
            refine j_iconst C dX7_leastWearinessOfAll_60 ?_
            refine j_goto C dX7_leastWearinessOfAll_61 ?_
            refine j_istore7 C rfl dX7_leastWearinessOfAll_65 ?_
            refine j_iload7 C dX7_leastWearinessOfAll_67 ?_
            refine j_if_eq C (by decide) dX7_leastWearinessOfAll_69 (fun hc => absurd hc (by decide)) (fun _ => ?_)
            refine j_iload6 C dX7_leastWearinessOfAll_72 ?_
            refine j_iload3 C dX7_leastWearinessOfAll_74 ?_
            refine j_iand C dX7_leastWearinessOfAll_75 ?_
            refine j_if_eq C ⟨by omega, by omega⟩ dX7_leastWearinessOfAll_76 (fun hc76 => ?_) (fun hc76 => ?_)
            · -- 76 T
              refine j_iinc6n C rfl dX7_leastWearinessOfAll_112 ?_
              refine j_goto C dX7_leastWearinessOfAll_115 ?_
              exact j_fg (ih28 (n + 1) (by omega) (by omega)) ⟨Or.inr rfl, Or.inr rfl, Or.inr rfl, Or.inr rfl, Or.inr rfl, Or.inr (sI (by simp only [lwUp]; first | rw [if_pos ⟨⟨by omega, by omega⟩, by omega, by omega⟩] | rw [if_neg (fun q => by have q1 := q.1.1; have q2 := q.1.2; have q3 := q.2.1; have q4 := q.2.2; omega)])), Or.inr rfl, Or.inl rfl, trivial⟩ rfl
            · -- 76 F
              refine j_iload6 C dX7_leastWearinessOfAll_79 ?_
              refine j_iload4 C dX7_leastWearinessOfAll_81 ?_
              refine j_iand C dX7_leastWearinessOfAll_83 ?_
              refine j_cSI1 C (c_J6_bitCount (by omega)) oJ6_bitCount_0f7a4 kX7_95 ⟨by decide, by decide⟩ rfl (Nat.le_of_ble_eq_true rfl) ⟨by decide, by decide⟩ dX7_leastWearinessOfAll_84 ?_
              rintro _ _ hz84 ⟨rfl, rfl⟩
              refine j_aload0 C dX7_leastWearinessOfAll_87 ?_
              refine j_getr C fX7_19 (at_st hB) rfl hS.r.a1 dX7_leastWearinessOfAll_88 ?_
              refine j_iload1 C dX7_leastWearinessOfAll_91 ?_
              refine j_aald C (at_bA hB) rfl (Cn := RX1) rfl (N := 3) rfl (by decide) ⟨by omega, by omega⟩ (hS.r.b b (by omega)) dX7_leastWearinessOfAll_92 ?_
              refine j_cVI0 C (c_X1_skilledNeeded (at_b hB (by omega)) (hS.b1 b (by omega)) (by omega)) oX1_skilledNeeded kX7_141 ⟨_, rfl, rfl⟩ (at_b hB (by omega)) ⟨by decide, by decide⟩ rfl (Nat.le_of_ble_eq_true rfl) ⟨by decide, by decide⟩ dX7_leastWearinessOfAll_93 ?_
              rintro _ _ hz93 ⟨rfl, rfl⟩
              refine j_icmp_le C ⟨by omega, by omega⟩ ⟨by omega, by omega⟩ dX7_leastWearinessOfAll_96 (fun hc96 => ?_) (fun hc96 => ?_)
              · -- 96 T
                refine j_iinc6n C rfl dX7_leastWearinessOfAll_112 ?_
                refine j_goto C dX7_leastWearinessOfAll_115 ?_
                exact j_fg (ih28 (n + 1) (by omega) (by omega)) ⟨Or.inr rfl, Or.inr rfl, Or.inr rfl, Or.inr rfl, Or.inr rfl, Or.inr (sI (by simp only [lwUp]; first | rw [if_pos ⟨⟨by omega, by omega⟩, by omega, by omega⟩] | rw [if_neg (fun q => by have q1 := q.1.1; have q2 := q.1.2; have q3 := q.2.1; have q4 := q.2.2; omega)])), Or.inr rfl, Or.inl rfl, trivial⟩ rfl
              · -- 96 F
                refine j_iload5 C dX7_leastWearinessOfAll_99 ?_
                refine j_aload0 C dX7_leastWearinessOfAll_101 ?_
                refine j_iload6 C dX7_leastWearinessOfAll_102 ?_
                refine j_cVI1 C (c_X7_wearinessOf hB (by exact hS) (by exact hI) (by exact hWI) (x := n + 1) (by omega)) oX7_wearinessOf kX7_225 ⟨_, rfl, rfl⟩ (at_st hB) ⟨by decide, by decide⟩ rfl (Nat.le_of_ble_eq_true rfl) ⟨by decide, by decide⟩ dX7_leastWearinessOfAll_104 ?_
                rintro _ _ hz104 ⟨rfl, rfl⟩
                refine j_mmin C kX7_228 (by decide) (Nat.le_of_ble_eq_true rfl) rfl ⟨by decide, by decide⟩ ⟨by omega, by omega⟩ ⟨by omega, by omega⟩ dX7_leastWearinessOfAll_107 ?_
                refine j_istore5 C rfl dX7_leastWearinessOfAll_110 ?_
                refine j_iinc6n C rfl dX7_leastWearinessOfAll_112 ?_
                refine j_goto C dX7_leastWearinessOfAll_115 ?_
                exact j_fg (ih28 (n + 1) (by omega) (by omega)) ⟨Or.inr rfl, Or.inr rfl, Or.inr rfl, Or.inr rfl, Or.inr rfl, Or.inr (sI (by simp only [lwUp]; first | rw [if_pos ⟨⟨by omega, by omega⟩, by omega, by omega⟩] | rw [if_neg (fun q => by have q1 := q.1.1; have q2 := q.1.2; have q3 := q.2.1; have q4 := q.2.2; omega)])), Or.inr rfl, Or.inl rfl, trivial⟩ rfl
  exact j_fg (loop28 _ 0 (Nat.lt_succ_self _) (Nat.zero_le _)) ⟨Or.inr rfl, Or.inr rfl, Or.inr rfl, Or.inr rfl, Or.inr rfl, Or.inr rfl, Or.inr rfl, Or.inr rfl, trivial⟩ rfl
