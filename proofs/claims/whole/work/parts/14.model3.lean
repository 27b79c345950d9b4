set_option maxRecDepth 100000 in
set_option maxHeartbeats 4000000 in
theorem c_X9_comesIn {Γ : Ga} {l : Launch} {ω : Wo} (hw : WM ω.2.1) {M : Int} (hI : RI M (ω.1 244))  {b : Nat} (hb : b < 3) (hM : M + 1 ≤ 100000000) : CV Γ l yX9_comesIn cX9_comesIn 3 1 [.ref (rl Γ 243), .int (iI ((b : Int)))] ω (fun ω' => ω' = wf ω 244 (comeIn (ω.1 244) b)) := by
  refine Met.ofJ (k := 1) [some (.ref (rl Γ 243)), some (.int (iI ((b : Int)))), none] (by decide) rfl rfl rfl (fun p e s mm args below meth c C hrt => ?_)
  have g := hI.s
  have gc := hI.c
  refine j_iconst C dX9_comesIn_0 ?_
  refine j_istore2 C rfl dX9_comesIn_1 ?_
  have loop2 : ∀ (N : Nat) (k : Nat), (cM (ω.1 244) - k) < N → (k ≤ cM (ω.1 244)) → J Γ p l e (rmk 1 0 0) s mm args below meth c (MQ below (QV Γ (fun ω' => ω' = wf ω 244 (comeIn (ω.1 244) b))) args s 0 0 (gA Γ)) 254 0 0 2 [some (.ref (rl Γ 243)), some (.int (iI ((b : Nat) : Int))), some (.int (iI ((k : Nat) : Int)))] [] (wf ω 244 (inUp (ω.1 244) (b : Int) k)) := by
    intro N
    induction N with
    | zero => intro k hN; exact absurd hN (Nat.not_lt_zero _)
    | succ N ih2 =>
      intro k hN hi0
      have hIk := inUp_RI hI (b := b) k (by omega)
      have e1 : inUp (ω.1 244) (b : Int) k 1 = (ω.1 244) 1 := inUp_at k 1 (fun j _ => by omega)
      have gl := hIk.m k
      have gs := hIk.s
      refine j_iload2 C dX9_comesIn_2 ?_
      refine j_aload0 C dX9_comesIn_3 ?_
      refine j_getr C fX9_9 at_243 rfl hw.r0 dX9_comesIn_4 ?_
      refine j_iconst C dX9_comesIn_7 ?_
      refine j_ialdK C at_244 ⟨rfl, rfl⟩ (N := 111) rfl (by decide) (k := 1) rfl (by decide) dX9_comesIn_8 (fun hr8 => ?_)
      try simp only [wf_same] at hr8 ⊢
      rw [e1] at hr8 ⊢
      refine j_icmp_ge C ⟨by omega, by omega⟩ ⟨by omega, by omega⟩ dX9_comesIn_9 (fun hc9 => ?_) (fun hc9 => ?_)
      · -- 9 T
        refine j_aload0 C dX9_comesIn_52 ?_
        refine j_iload1 C dX9_comesIn_53 ?_
        refine j_iconst C dX9_comesIn_54 ?_
        refine j_iconst C dX9_comesIn_55 ?_
        refine j_cVV3 C (c_X9_setsBoat (by exact hw) (by omega) (by omega) ⟨by omega, by omega⟩) oX9_setsBoat kX9_125 ⟨_, rfl, rfl⟩ at_243 ⟨by decide, by decide⟩ rfl (Nat.le_of_ble_eq_true rfl) ⟨by decide, by decide⟩ dX9_comesIn_56 ?_
        rintro _ rfl
        try simp only [wi_wf, wf_same, wf_wf, tM0, tM1, tM2, tM3, tM4, tM5, tM6, tB0, tB1, tB2, tB3, tB4, tB5, tB6, tL0, tL1, tL2]
        refine j_aload0 C dX9_comesIn_59 ?_
        refine j_iload1 C dX9_comesIn_60 ?_
        refine j_iconst C dX9_comesIn_61 ?_
        refine j_iconst C dX9_comesIn_62 ?_
        refine j_cVV3 C (c_X9_setsBoat (by exact hw) (by omega) (by omega) ⟨by omega, by omega⟩) oX9_setsBoat kX9_125 ⟨_, rfl, rfl⟩ at_243 ⟨by decide, by decide⟩ rfl (Nat.le_of_ble_eq_true rfl) ⟨by decide, by decide⟩ dX9_comesIn_63 ?_
        rintro _ rfl
        try simp only [wi_wf, wf_same, wf_wf, tM0, tM1, tM2, tM3, tM4, tM5, tM6, tB0, tB1, tB2, tB3, tB4, tB5, tB6, tL0, tL1, tL2]
        refine j_aload0 C dX9_comesIn_66 ?_
        refine j_getr C fX9_9 at_243 rfl hw.r0 dX9_comesIn_67 ?_
        refine j_iconst C dX9_comesIn_70 ?_
        refine j_dup2 C rfl rfl dX9_comesIn_71 ?_
        refine j_ialdK C at_244 ⟨rfl, rfl⟩ (N := 111) rfl (by decide) (k := 5) rfl (by decide) dX9_comesIn_72 (fun hr72 => ?_)
        try simp only [wf_same] at hr72 ⊢
        rw [up_ne _ _ (by omega), up_ne _ _ (by omega)] at hr72 ⊢
        refine j_iconst C dX9_comesIn_73 ?_
        refine j_iadd C dX9_comesIn_74 ?_
        refine j_iastK C at_244 ⟨rfl, rfl⟩ (N := 111) rfl (by decide) (k := 5) rfl (by decide) ⟨by omega, by omega⟩ dX9_comesIn_75 ?_
        try simp only [wi_wf, wf_same, wf_wf, tM0, tM1, tM2, tM3, tM4, tM5, tM6, tB0, tB1, tB2, tB3, tB4, tB5, tB6, tL0, tL1, tL2]
        refine j_vret C hrt dX9_comesIn_76 ?_
        have : k = cM (ω.1 244) := by omega
        subst this
        rfl
      · -- 9 F
        refine j_aload0 C dX9_comesIn_12 ?_
        refine j_iload2 C dX9_comesIn_13 ?_
        refine j_iconst C dX9_comesIn_14 ?_
        refine j_cVI2 C (c_X9_of (by exact hw) (by omega) (by omega)) oX9_of kX9_103 ⟨_, rfl, rfl⟩ at_243 ⟨by decide, by decide⟩ rfl (Nat.le_of_ble_eq_true rfl) ⟨by decide, by decide⟩ dX9_comesIn_15 ?_
        rintro _ _ hz15 ⟨rfl, rfl⟩
        try simp only [wi_wf, wf_same, wf_wf, tM0, tM1, tM2, tM3, tM4, tM5, tM6, tB0, tB1, tB2, tB3, tB4, tB5, tB6, tL0, tL1, tL2] at hz15 ⊢
        refine j_iconst C dX9_comesIn_18 ?_
        refine j_icmp_ne C ⟨by omega, by omega⟩ ⟨by omega, by omega⟩ dX9_comesIn_19 (fun hc19 => ?_) (fun hc19 => ?_)
        · -- 19 T
          refine j_iinc2n C rfl dX9_comesIn_46 ?_
          refine j_goto C dX9_comesIn_49 ?_
          exact j_fg (ih2 (k + 1) (by omega) (by omega)) ⟨Or.inr rfl, Or.inr rfl, Or.inr rfl, trivial⟩ (by simp only [inUp]; first | rw [if_pos (by omega)] | rw [if_neg (by omega)])
        · -- 19 F
          refine j_aload0 C dX9_comesIn_22 ?_
          refine j_iload2 C dX9_comesIn_23 ?_
          refine j_iconst C dX9_comesIn_24 ?_
          refine j_cVI2 C (c_X9_of (by exact hw) (by omega) (by omega)) oX9_of kX9_103 ⟨_, rfl, rfl⟩ at_243 ⟨by decide, by decide⟩ rfl (Nat.le_of_ble_eq_true rfl) ⟨by decide, by decide⟩ dX9_comesIn_25 ?_
          rintro _ _ hz25 ⟨rfl, rfl⟩
          try simp only [wi_wf, wf_same, wf_wf, tM0, tM1, tM2, tM3, tM4, tM5, tM6, tB0, tB1, tB2, tB3, tB4, tB5, tB6, tL0, tL1, tL2] at hz25 ⊢
          refine j_iload1 C dX9_comesIn_28 ?_
          refine j_icmp_ne C ⟨by omega, by omega⟩ ⟨by omega, by omega⟩ dX9_comesIn_29 (fun hc29 => ?_) (fun hc29 => ?_)
          · -- 29 T
            refine j_iinc2n C rfl dX9_comesIn_46 ?_
            refine j_goto C dX9_comesIn_49 ?_
            exact j_fg (ih2 (k + 1) (by omega) (by omega)) ⟨Or.inr rfl, Or.inr rfl, Or.inr rfl, trivial⟩ (by simp only [inUp]; first | rw [if_pos (by omega)] | rw [if_neg (by omega)])
          · -- 29 F
            refine j_aload0 C dX9_comesIn_32 ?_
            refine j_iload2 C dX9_comesIn_33 ?_
            refine j_iconst C dX9_comesIn_34 ?_
            refine j_iconst C dX9_comesIn_35 ?_
            refine j_cVV3 C (c_X9_sets (by exact hw) (by omega) (by omega) ⟨by omega, by omega⟩) oX9_sets kX9_90 ⟨_, rfl, rfl⟩ at_243 ⟨by decide, by decide⟩ rfl (Nat.le_of_ble_eq_true rfl) ⟨by decide, by decide⟩ dX9_comesIn_36 ?_
            rintro _ rfl
            try simp only [wi_wf, wf_same, wf_wf, tM0, tM1, tM2, tM3, tM4, tM5, tM6, tB0, tB1, tB2, tB3, tB4, tB5, tB6, tL0, tL1, tL2]
            refine j_aload0 C dX9_comesIn_39 ?_
            refine j_iload2 C dX9_comesIn_40 ?_
            refine j_iconst C dX9_comesIn_41 ?_
            refine j_iconst C dX9_comesIn_42 ?_
            refine j_cVV3 C (c_X9_sets (by exact hw) (by omega) (by omega) ⟨by omega, by omega⟩) oX9_sets kX9_90 ⟨_, rfl, rfl⟩ at_243 ⟨by decide, by decide⟩ rfl (Nat.le_of_ble_eq_true rfl) ⟨by decide, by decide⟩ dX9_comesIn_43 ?_
            rintro _ rfl
            try simp only [wi_wf, wf_same, wf_wf, tM0, tM1, tM2, tM3, tM4, tM5, tM6, tB0, tB1, tB2, tB3, tB4, tB5, tB6, tL0, tL1, tL2]
            refine j_iinc2n C rfl dX9_comesIn_46 ?_
            refine j_goto C dX9_comesIn_49 ?_
            exact j_fg (ih2 (k + 1) (by omega) (by omega)) ⟨Or.inr rfl, Or.inr rfl, Or.inr rfl, trivial⟩ (by simp only [inUp]; first | rw [if_pos (by omega)] | rw [if_neg (by omega)])
  exact j_fg (loop2 _ 0 (Nat.lt_succ_self _) (Nat.zero_le _)) ⟨Or.inr rfl, Or.inr rfl, Or.inr rfl, trivial⟩ (wf_id ω 244).symm
set_option maxRecDepth 100000 in
set_option maxHeartbeats 4000000 in
theorem c_X9_boatGoes {Γ : Ga} {l : Launch} {ω : Wo} (hw : WM ω.2.1) {M : Int} (hI : RI M (ω.1 244))  {b : Nat} (hb : b < 3) (hM : M + 1 ≤ 100000000) : CV Γ l yX9_boatGoes cX9_boatGoes 2 2 [.ref (rl Γ 243), .int (iI ((b : Int)))] ω (fun ω' => ω' = wf ω 244 (boatGo (ω.1 244) b)) := by
  refine Met.ofJ (k := 0) [some (.ref (rl Γ 243)), some (.int (iI ((b : Int))))] (by decide) rfl rfl rfl (fun p e s mm args below meth c C hrt => ?_)
  have g := hI.s
  have gc := hI.c
  have gb := hI.b b (by omega)
  have hI1 : RI M (up (ω.1 244) (78 + 7 * b + 3) (max 0 (sB (ω.1 244) b 3 - 1))) := by rw [← tB3]; exact RI.sb3 hI (by omega) (by omega)
  have gb1 := hI1.b b (by omega)
  refine j_aload0 C dX9_boatGoes_0 ?_
  refine j_iload1 C dX9_boatGoes_1 ?_
  refine j_iconst C dX9_boatGoes_2 ?_
  refine j_cVI2 C (c_X9_ofBoat (by exact hw) (by omega) (by omega)) oX9_ofBoat kX9_72 ⟨_, rfl, rfl⟩ at_243 ⟨by decide, by decide⟩ rfl (Nat.le_of_ble_eq_true rfl) ⟨by decide, by decide⟩ dX9_boatGoes_3 ?_
  rintro _ _ hz3 ⟨rfl, rfl⟩
  try simp only [wi_wf, wf_same, wf_wf, tM0, tM1, tM2, tM3, tM4, tM5, tM6, tB0, tB1, tB2, tB3, tB4, tB5, tB6, tL0, tL1, tL2] at hz3 ⊢
  refine j_if_ne C ⟨by omega, by omega⟩ dX9_boatGoes_6 (fun hc6 => ?_) (fun hc6 => ?_)
  · -- 6 T
    refine j_aload0 C dX9_boatGoes_10 ?_
    refine j_iload1 C dX9_boatGoes_11 ?_
    refine j_iconst C dX9_boatGoes_12 ?_
    refine j_iconst C dX9_boatGoes_13 ?_
    refine j_aload0 C dX9_boatGoes_14 ?_
    refine j_iload1 C dX9_boatGoes_15 ?_
    refine j_iconst C dX9_boatGoes_16 ?_
    refine j_cVI2 C (c_X9_ofBoat (by exact hw) (by omega) (by omega)) oX9_ofBoat kX9_72 ⟨_, rfl, rfl⟩ at_243 ⟨by decide, by decide⟩ rfl (Nat.le_of_ble_eq_true rfl) ⟨by decide, by decide⟩ dX9_boatGoes_17 ?_
    rintro _ _ hz17 ⟨rfl, rfl⟩
    try simp only [wi_wf, wf_same, wf_wf, tM0, tM1, tM2, tM3, tM4, tM5, tM6, tB0, tB1, tB2, tB3, tB4, tB5, tB6, tL0, tL1, tL2] at hz17 ⊢
    refine j_iconst C dX9_boatGoes_20 ?_
    refine j_isub C dX9_boatGoes_21 ?_
    refine j_cSI2 C (c_X9_greater ⟨by omega, by omega⟩ ⟨by omega, by omega⟩) oX9_greater kX9_186 ⟨by decide, by decide⟩ rfl (Nat.le_of_ble_eq_true rfl) ⟨by decide, by decide⟩ dX9_boatGoes_22 ?_
    rintro _ _ hz22 ⟨rfl, rfl⟩
    try simp only [wi_wf, wf_same, wf_wf, tM0, tM1, tM2, tM3, tM4, tM5, tM6, tB0, tB1, tB2, tB3, tB4, tB5, tB6, tL0, tL1, tL2] at hz22 ⊢
    refine j_cVV3 C (c_X9_setsBoat (by exact hw) (by omega) (by omega) ⟨by omega, by omega⟩) oX9_setsBoat kX9_125 ⟨_, rfl, rfl⟩ at_243 ⟨by decide, by decide⟩ rfl (Nat.le_of_ble_eq_true rfl) ⟨by decide, by decide⟩ dX9_boatGoes_25 ?_
    rintro _ rfl
    try simp only [wi_wf, wf_same, wf_wf, tM0, tM1, tM2, tM3, tM4, tM5, tM6, tB0, tB1, tB2, tB3, tB4, tB5, tB6, tL0, tL1, tL2]
    refine j_aload0 C dX9_boatGoes_28 ?_
    refine j_iload1 C dX9_boatGoes_29 ?_
    refine j_iconst C dX9_boatGoes_30 ?_
    refine j_cVI2 C (c_X9_ofBoat (by exact hw) (by omega) (by omega)) oX9_ofBoat kX9_72 ⟨_, rfl, rfl⟩ at_243 ⟨by decide, by decide⟩ rfl (Nat.le_of_ble_eq_true rfl) ⟨by decide, by decide⟩ dX9_boatGoes_31 ?_
    rintro _ _ hz31 ⟨rfl, rfl⟩
    try simp only [wi_wf, wf_same, wf_wf, tM0, tM1, tM2, tM3, tM4, tM5, tM6, tB0, tB1, tB2, tB3, tB4, tB5, tB6, tL0, tL1, tL2] at hz31 ⊢
    refine j_if_le C ⟨by omega, by omega⟩ dX9_boatGoes_34 (fun hc34 => ?_) (fun hc34 => ?_)
    · -- 34 T
      refine j_aload0 C dX9_boatGoes_38 ?_
      refine j_iload1 C dX9_boatGoes_39 ?_
      refine j_cVI1 C (c_X9_isLow (by exact hw) (by omega) hI1) oX9_isLow kX9_146 ⟨_, rfl, rfl⟩ at_243 ⟨by decide, by decide⟩ rfl (Nat.le_of_ble_eq_true rfl) ⟨by decide, by decide⟩ dX9_boatGoes_40 ?_
      rintro _ _ hz40 ⟨rfl, rfl⟩
      try simp only [wi_wf, wf_same, wf_wf, tM0, tM1, tM2, tM3, tM4, tM5, tM6, tB0, tB1, tB2, tB3, tB4, tB5, tB6, tL0, tL1, tL2] at hz40 ⊢
      refine j_ifeqb C dX9_boatGoes_43 (fun hc43 => ?_) (fun hc43 => ?_)
      · -- 43 T
        refine j_aload0 C dX9_boatGoes_46 ?_
        refine j_iload1 C dX9_boatGoes_47 ?_
        refine j_iconst C dX9_boatGoes_48 ?_
        refine j_aload0 C dX9_boatGoes_49 ?_
        refine j_iload1 C dX9_boatGoes_50 ?_
        refine j_iconst C dX9_boatGoes_51 ?_
        refine j_cVI2 C (c_X9_ofBoat (by exact hw) (by omega) (by omega)) oX9_ofBoat kX9_72 ⟨_, rfl, rfl⟩ at_243 ⟨by decide, by decide⟩ rfl (Nat.le_of_ble_eq_true rfl) ⟨by decide, by decide⟩ dX9_boatGoes_52 ?_
        rintro _ _ hz52 ⟨rfl, rfl⟩
        try simp only [wi_wf, wf_same, wf_wf, tM0, tM1, tM2, tM3, tM4, tM5, tM6, tB0, tB1, tB2, tB3, tB4, tB5, tB6, tL0, tL1, tL2] at hz52 ⊢
        refine j_iconst C dX9_boatGoes_55 ?_
        refine j_iadd C dX9_boatGoes_56 ?_
        refine j_cVV3 C (c_X9_setsBoat (by exact hw) (by omega) (by omega) ⟨by omega, by omega⟩) oX9_setsBoat kX9_125 ⟨_, rfl, rfl⟩ at_243 ⟨by decide, by decide⟩ rfl (Nat.le_of_ble_eq_true rfl) ⟨by decide, by decide⟩ dX9_boatGoes_57 ?_
        rintro _ rfl
        try simp only [wi_wf, wf_same, wf_wf, tM0, tM1, tM2, tM3, tM4, tM5, tM6, tB0, tB1, tB2, tB3, tB4, tB5, tB6, tL0, tL1, tL2]
        refine j_goto C dX9_boatGoes_60 ?_
        refine j_vret C hrt dX9_boatGoes_68 ?_
        simp only [boatGo]; first | (rw [if_pos (by omega), wf_id]) | (rw [if_neg (by omega), if_pos (by omega)]) | (rw [if_neg (by omega), if_neg (by omega), if_pos (by omega)]) | (rw [if_neg (by omega), if_neg (by omega), if_neg (by omega)])
      · -- 43 F
        refine j_aload0 C dX9_boatGoes_63 ?_
        refine j_iload1 C dX9_boatGoes_64 ?_
        refine j_cVV1 C (c_X9_comesIn (by exact hw) hI1 (by omega) (by omega)) oX9_comesIn kX9_189 ⟨_, rfl, rfl⟩ at_243 ⟨by decide, by decide⟩ rfl (Nat.le_of_ble_eq_true rfl) ⟨by decide, by decide⟩ dX9_boatGoes_65 ?_
        rintro _ rfl
        try simp only [wi_wf, wf_same, wf_wf, tM0, tM1, tM2, tM3, tM4, tM5, tM6, tB0, tB1, tB2, tB3, tB4, tB5, tB6, tL0, tL1, tL2]
        refine j_vret C hrt dX9_boatGoes_68 ?_
        simp only [boatGo]; first | (rw [if_pos (by omega), wf_id]) | (rw [if_neg (by omega), if_pos (by omega)]) | (rw [if_neg (by omega), if_neg (by omega), if_pos (by omega)]) | (rw [if_neg (by omega), if_neg (by omega), if_neg (by omega)])
    · -- 34 F
      refine j_vret C hrt dX9_boatGoes_37 ?_
      simp only [boatGo]; first | (rw [if_pos (by omega), wf_id]) | (rw [if_neg (by omega), if_pos (by omega)]) | (rw [if_neg (by omega), if_neg (by omega), if_pos (by omega)]) | (rw [if_neg (by omega), if_neg (by omega), if_neg (by omega)])
  · -- 6 F
    refine j_vret C hrt dX9_boatGoes_9 ?_
    simp only [boatGo]; first | (rw [if_pos (by omega), wf_id]) | (rw [if_neg (by omega), if_pos (by omega)]) | (rw [if_neg (by omega), if_neg (by omega), if_pos (by omega)]) | (rw [if_neg (by omega), if_neg (by omega), if_neg (by omega)])
set_option maxRecDepth 100000 in
set_option maxHeartbeats 4000000 in
theorem c_X9_loansGo {Γ : Ga} {l : Launch} {ω : Wo} (hw : WM ω.2.1) {M : Int} (hI : RI M (ω.1 244))  (hM : M + 4 ≤ 100000000) : CV Γ l yX9_loansGo cX9_loansGo 4 3 [.ref (rl Γ 243)] ω (fun ω' => ω' = wf ω 244 (lnGo (cL (ω.1 244)) (ω.1 244) 0)) := by
  refine Met.ofJ (k := 3) [some (.ref (rl Γ 243)), none, none, none] (by decide) rfl rfl rfl (fun p e s mm args below meth c C hrt => ?_)
  have g := hI.s
  have gc := hI.c
  refine j_iconst C dX9_loansGo_0 ?_
  refine j_istore1 C rfl dX9_loansGo_1 ?_
  have loop2 : ∀ (N : Nat) (Mt : Int) (t : Row) (k : Nat), (cL t - k) < N → (RI Mt t) → (Mt + ((cL t - k : Nat) : Int) ≤ M + 4) → (k ≤ cL t) → (lnGo (cL t - k) t k = lnGo (cL (ω.1 244)) (ω.1 244) 0) → J Γ p l e (rmk 3 0 0) s mm args below meth c (MQ below (QV Γ (fun ω' => ω' = wf ω 244 (lnGo (cL (ω.1 244)) (ω.1 244) 0))) args s 0 0 (gA Γ)) 254 0 0 2 [some (.ref (rl Γ 243)), some (.int (iI ((k : Nat) : Int))), none, none] [] (wf ω 244 t) := by
    intro N
    induction N with
    | zero => intro Mt t k hN; exact absurd hN (Nat.not_lt_zero _)
    | succ N ih2 =>
      intro Mt t k hN hIt hMt hkt heq
      have gt := hIt.s
      have gct := hIt.c
      have glt := hIt.l k
      refine j_iload1 C dX9_loansGo_2 ?_
      refine j_aload0 C dX9_loansGo_3 ?_
      refine j_getr C fX9_9 at_243 rfl hw.r0 dX9_loansGo_4 ?_
      refine j_iconst C dX9_loansGo_7 ?_
      refine j_ialdK C at_244 ⟨rfl, rfl⟩ (N := 111) rfl (by decide) (k := 3) rfl (by decide) dX9_loansGo_8 (fun hr8 => ?_)
      try simp only [wf_same] at hr8 ⊢
      refine j_icmp_ge C ⟨by omega, by omega⟩ ⟨by omega, by omega⟩ dX9_loansGo_9 (fun hc9 => ?_) (fun hc9 => ?_)
      · -- 9 T
        refine j_vret C hrt dX9_loansGo_130 ?_
        have hk0 : cL t - k = 0 := by omega
        rw [hk0] at heq
        rw [← heq]; rfl
      · -- 9 F
        have hk4 : k < 4 := by omega
        have hkc : k < cL t := by omega
        simp only [eL0, eL1, eL2, Nat.add_zero] at glt
        have hd := due1_RI hIt hk4
        have gd := hd.l k (by omega)
        have gds := hd.s
        simp only [eL0, eL1, eL2, Nat.add_zero] at gd
        have gdc := due1_c t k
        refine j_bipush C (by decide) dX9_loansGo_12 ?_
        refine j_iconst C dX9_loansGo_14 ?_
        refine j_iload1 C dX9_loansGo_15 ?_
        refine j_imul C dX9_loansGo_16 ?_
        refine j_iadd C dX9_loansGo_17 ?_
        refine j_istore2 C rfl dX9_loansGo_18 ?_
        refine j_aload0 C dX9_loansGo_19 ?_
        refine j_getr C fX9_9 at_243 rfl hw.r0 dX9_loansGo_20 ?_
        refine j_iload2 C dX9_loansGo_23 ?_
        refine j_iconst C dX9_loansGo_24 ?_
        refine j_iadd C dX9_loansGo_25 ?_
        refine j_iconst C dX9_loansGo_26 ?_
        refine j_aload0 C dX9_loansGo_27 ?_
        refine j_getr C fX9_9 at_243 rfl hw.r0 dX9_loansGo_28 ?_
        refine j_iload2 C dX9_loansGo_31 ?_
        refine j_iconst C dX9_loansGo_32 ?_
        refine j_iadd C dX9_loansGo_33 ?_
        refine j_iald C at_244 ⟨rfl, rfl⟩ (N := 111) rfl (by decide) ⟨by omega, by omega⟩ rfl dX9_loansGo_34 (fun hr34 => ?_)
        try simp only [wf_same] at hr34 ⊢
        try simp only [wf_same, wf_wf, wi_wf, show (99 + 3 * (k : Int)).toNat = 99 + 3 * k by omega, tL0, tL1, tL2, Nat.add_zero] at hr34 ⊢
        refine j_iconst C dX9_loansGo_35 ?_
        refine j_isub C dX9_loansGo_36 ?_
        refine j_cSI2 C (c_X9_greater ⟨by omega, by omega⟩ ⟨by omega, by omega⟩) oX9_greater kX9_186 ⟨by decide, by decide⟩ rfl (Nat.le_of_ble_eq_true rfl) ⟨by decide, by decide⟩ dX9_loansGo_37 ?_
        rintro _ _ hz37 ⟨rfl, rfl⟩
        refine j_iast C at_244 ⟨rfl, rfl⟩ (N := 111) rfl (by decide) ⟨by omega, by omega⟩ ⟨by omega, by omega⟩ dX9_loansGo_40 ?_
        try simp only [wi_wf, wf_same, wf_wf, tM0, tM1, tM2, tM3, tM4, tM5, tM6, tB0, tB1, tB2, tB3, tB4, tB5, tB6, tL0, tL1, tL2]
        try simp only [wf_same, wf_wf, wi_wf, show (99 + 3 * (k : Int)).toNat = 99 + 3 * k by omega, tL0, tL1, tL2, Nat.add_zero]
        rw [show up t (99 + 3 * k + 1) (max 0 (t (99 + 3 * k + 1) - 1)) = due1 t k from rfl]
        refine j_aload0 C dX9_loansGo_41 ?_
        refine j_getr C fX9_9 at_243 rfl hw.r0 dX9_loansGo_42 ?_
        refine j_iload2 C dX9_loansGo_45 ?_
        refine j_iconst C dX9_loansGo_46 ?_
        refine j_iadd C dX9_loansGo_47 ?_
        refine j_iald C at_244 ⟨rfl, rfl⟩ (N := 111) rfl (by decide) ⟨by omega, by omega⟩ rfl dX9_loansGo_48 (fun hr48 => ?_)
        try simp only [wf_same] at hr48 ⊢
        try simp only [wf_same, wf_wf, wi_wf, show (99 + 3 * (k : Int)).toNat = 99 + 3 * k by omega, tL0, tL1, tL2, Nat.add_zero] at hr48 ⊢
        refine j_if_ne C ⟨by omega, by omega⟩ dX9_loansGo_49 (fun hc49 => ?_) (fun hc49 => ?_)
        · -- 49 T
          refine j_iconst C dX9_loansGo_56 ?_
          refine j_istore3 C rfl dX9_loansGo_57 ?_
          refine j_iload3 C dX9_loansGo_58 ?_
          refine j_if_eq C (by decide) dX9_loansGo_59 (fun _ => ?_) (fun hc => absurd hc (by decide))
          refine j_aload0 C dX9_loansGo_85 ?_
          refine j_getr C fX9_9 at_243 rfl hw.r0 dX9_loansGo_86 ?_
          refine j_iload2 C dX9_loansGo_89 ?_
          refine j_iconst C dX9_loansGo_90 ?_
          refine j_iadd C dX9_loansGo_91 ?_
          refine j_dup2 C rfl rfl dX9_loansGo_92 ?_
          refine j_iald C at_244 ⟨rfl, rfl⟩ (N := 111) rfl (by decide) ⟨by omega, by omega⟩ rfl dX9_loansGo_93 (fun hr93 => ?_)
          try simp only [wf_same] at hr93 ⊢
          try simp only [wf_same, wf_wf, wi_wf, show (99 + 3 * (k : Int)).toNat = 99 + 3 * k by omega, tL0, tL1, tL2, Nat.add_zero] at hr93 ⊢
          refine j_iload3 C dX9_loansGo_94 ?_
          refine j_if_eq C (by decide) dX9_loansGo_95 (fun _ => ?_) (fun hc => absurd hc (by decide))
          refine j_iconst C dX9_loansGo_102 ?_
          refine j_iadd C dX9_loansGo_103 ?_
          refine j_iast C at_244 ⟨rfl, rfl⟩ (N := 111) rfl (by decide) ⟨by omega, by omega⟩ ⟨by omega, by omega⟩ dX9_loansGo_104 ?_
          try simp only [wi_wf, wf_same, wf_wf, tM0, tM1, tM2, tM3, tM4, tM5, tM6, tB0, tB1, tB2, tB3, tB4, tB5, tB6, tL0, tL1, tL2]
          refine j_aload0 C dX9_loansGo_105 ?_
          refine j_getr C fX9_9 at_243 rfl hw.r0 dX9_loansGo_106 ?_
          refine j_bipush C (by decide) dX9_loansGo_109 ?_
          refine j_dup2 C rfl rfl dX9_loansGo_111 ?_
          refine j_ialdK C at_244 ⟨rfl, rfl⟩ (N := 111) rfl (by decide) (k := 6) rfl (by decide) dX9_loansGo_112 (fun hr112 => ?_)
          try simp only [wf_same] at hr112 ⊢
          rw [up_ne _ _ (by omega)] at hr112 ⊢
          refine j_iload3 C dX9_loansGo_113 ?_
          refine j_if_eq C (by decide) dX9_loansGo_114 (fun _ => ?_) (fun hc => absurd hc (by decide))
          refine j_iconst C dX9_loansGo_121 ?_
          refine j_iadd C dX9_loansGo_122 ?_
          refine j_iastK C at_244 ⟨rfl, rfl⟩ (N := 111) rfl (by decide) (k := 6) rfl (by decide) ⟨by omega, by omega⟩ dX9_loansGo_123 ?_
          try simp only [wi_wf, wf_same, wf_wf, tM0, tM1, tM2, tM3, tM4, tM5, tM6, tB0, tB1, tB2, tB3, tB4, tB5, tB6, tL0, tL1, tL2]
          refine j_iinc1n C rfl dX9_loansGo_124 ?_
          refine j_goto C dX9_loansGo_127 ?_
          first | exact j_fg (ih2 (Mt + 1) (late1 (due1 t k) k 1) (k + 1) (by rw [late1_c, due1_c]; omega) (late1_RI hd hk4 (by decide) (by omega)) (by rw [late1_c, due1_c]; omega) (by rw [late1_c, due1_c]; omega) (by rw [← ln_2 (by omega) hkc (by omega) (z := 1) (by first | rw [if_pos (by omega)] | rw [if_neg (by omega)])]; exact heq)) ⟨Or.inr rfl, Or.inr rfl, Or.inl rfl, Or.inl rfl, trivial⟩ rfl | exact j_fg (ih2 (Mt + 1) (late1 (due1 t k) k 0) (k + 1) (by rw [late1_c, due1_c]; omega) (late1_RI hd hk4 (by decide) (by omega)) (by rw [late1_c, due1_c]; omega) (by rw [late1_c, due1_c]; omega) (by rw [← ln_2 (by omega) hkc (by omega) (z := 0) (by first | rw [if_pos (by omega)] | rw [if_neg (by omega)])]; exact heq)) ⟨Or.inr rfl, Or.inr rfl, Or.inl rfl, Or.inl rfl, trivial⟩ rfl
        · -- 49 F
          refine j_iconst C dX9_loansGo_52 ?_
          refine j_goto C dX9_loansGo_53 ?_
          refine j_istore3 C rfl dX9_loansGo_57 ?_
          refine j_iload3 C dX9_loansGo_58 ?_
          refine j_if_eq C (by decide) dX9_loansGo_59 (fun hc => absurd hc (by decide)) (fun _ => ?_)
          refine j_aload0 C dX9_loansGo_62 ?_
          refine j_cVI0 C (c_X9_freeOars (by exact hw) hd) oX9_freeOars kX9_152 ⟨_, rfl, rfl⟩ at_243 ⟨by decide, by decide⟩ rfl (Nat.le_of_ble_eq_true rfl) ⟨by decide, by decide⟩ dX9_loansGo_63 ?_
          rintro _ _ hz63 ⟨rfl, rfl⟩
          try simp only [wi_wf, wf_same, wf_wf, tM0, tM1, tM2, tM3, tM4, tM5, tM6, tB0, tB1, tB2, tB3, tB4, tB5, tB6, tL0, tL1, tL2] at hz63 ⊢
          refine j_aload0 C dX9_loansGo_66 ?_
          refine j_getr C fX9_9 at_243 rfl hw.r0 dX9_loansGo_67 ?_
          refine j_iload2 C dX9_loansGo_70 ?_
          refine j_iconst C dX9_loansGo_71 ?_
          refine j_iadd C dX9_loansGo_72 ?_
          refine j_iald C at_244 ⟨rfl, rfl⟩ (N := 111) rfl (by decide) ⟨by omega, by omega⟩ rfl dX9_loansGo_73 (fun hr73 => ?_)
          try simp only [wf_same] at hr73 ⊢
          try simp only [wf_same, wf_wf, wi_wf, show (99 + 3 * (k : Int)).toNat = 99 + 3 * k by omega, tL0, tL1, tL2, Nat.add_zero] at hr73 ⊢
          refine j_icmp_lt C ⟨by omega, by omega⟩ ⟨by omega, by omega⟩ dX9_loansGo_74 (fun hc74 => ?_) (fun hc74 => ?_)
          · -- 74 T
            refine j_aload0 C dX9_loansGo_85 ?_
            refine j_getr C fX9_9 at_243 rfl hw.r0 dX9_loansGo_86 ?_
            refine j_iload2 C dX9_loansGo_89 ?_
            refine j_iconst C dX9_loansGo_90 ?_
            refine j_iadd C dX9_loansGo_91 ?_
            refine j_dup2 C rfl rfl dX9_loansGo_92 ?_
            refine j_iald C at_244 ⟨rfl, rfl⟩ (N := 111) rfl (by decide) ⟨by omega, by omega⟩ rfl dX9_loansGo_93 (fun hr93 => ?_)
            try simp only [wf_same] at hr93 ⊢
            try simp only [wf_same, wf_wf, wi_wf, show (99 + 3 * (k : Int)).toNat = 99 + 3 * k by omega, tL0, tL1, tL2, Nat.add_zero] at hr93 ⊢
            refine j_iload3 C dX9_loansGo_94 ?_
            refine j_if_eq C (by decide) dX9_loansGo_95 (fun hc => absurd hc (by decide)) (fun _ => ?_)
            refine j_iconst C dX9_loansGo_98 ?_
            refine j_goto C dX9_loansGo_99 ?_
            refine j_iadd C dX9_loansGo_103 ?_
            refine j_iast C at_244 ⟨rfl, rfl⟩ (N := 111) rfl (by decide) ⟨by omega, by omega⟩ ⟨by omega, by omega⟩ dX9_loansGo_104 ?_
            try simp only [wi_wf, wf_same, wf_wf, tM0, tM1, tM2, tM3, tM4, tM5, tM6, tB0, tB1, tB2, tB3, tB4, tB5, tB6, tL0, tL1, tL2]
            refine j_aload0 C dX9_loansGo_105 ?_
            refine j_getr C fX9_9 at_243 rfl hw.r0 dX9_loansGo_106 ?_
            refine j_bipush C (by decide) dX9_loansGo_109 ?_
            refine j_dup2 C rfl rfl dX9_loansGo_111 ?_
            refine j_ialdK C at_244 ⟨rfl, rfl⟩ (N := 111) rfl (by decide) (k := 6) rfl (by decide) dX9_loansGo_112 (fun hr112 => ?_)
            try simp only [wf_same] at hr112 ⊢
            rw [up_ne _ _ (by omega)] at hr112 ⊢
            refine j_iload3 C dX9_loansGo_113 ?_
            refine j_if_eq C (by decide) dX9_loansGo_114 (fun hc => absurd hc (by decide)) (fun _ => ?_)
            refine j_iconst C dX9_loansGo_117 ?_
            refine j_goto C dX9_loansGo_118 ?_
            refine j_iadd C dX9_loansGo_122 ?_
            refine j_iastK C at_244 ⟨rfl, rfl⟩ (N := 111) rfl (by decide) (k := 6) rfl (by decide) ⟨by omega, by omega⟩ dX9_loansGo_123 ?_
            try simp only [wi_wf, wf_same, wf_wf, tM0, tM1, tM2, tM3, tM4, tM5, tM6, tB0, tB1, tB2, tB3, tB4, tB5, tB6, tL0, tL1, tL2]
            refine j_iinc1n C rfl dX9_loansGo_124 ?_
            refine j_goto C dX9_loansGo_127 ?_
            first | exact j_fg (ih2 (Mt + 1) (late1 (due1 t k) k 1) (k + 1) (by rw [late1_c, due1_c]; omega) (late1_RI hd hk4 (by decide) (by omega)) (by rw [late1_c, due1_c]; omega) (by rw [late1_c, due1_c]; omega) (by rw [← ln_2 (by omega) hkc (by omega) (z := 1) (by first | rw [if_pos (by omega)] | rw [if_neg (by omega)])]; exact heq)) ⟨Or.inr rfl, Or.inr rfl, Or.inl rfl, Or.inl rfl, trivial⟩ rfl | exact j_fg (ih2 (Mt + 1) (late1 (due1 t k) k 0) (k + 1) (by rw [late1_c, due1_c]; omega) (late1_RI hd hk4 (by decide) (by omega)) (by rw [late1_c, due1_c]; omega) (by rw [late1_c, due1_c]; omega) (by rw [← ln_2 (by omega) hkc (by omega) (z := 0) (by first | rw [if_pos (by omega)] | rw [if_neg (by omega)])]; exact heq)) ⟨Or.inr rfl, Or.inr rfl, Or.inl rfl, Or.inl rfl, trivial⟩ rfl
          · -- 74 F
            refine j_aload0 C dX9_loansGo_77 ?_
            refine j_iload1 C dX9_loansGo_78 ?_
            refine j_cVV1 C (c_X9_takesLoan (by exact hw) (by rw [wf_same, due1_c]; exact hkc) hd) oX9_takesLoan kX9_176 ⟨_, rfl, rfl⟩ at_243 ⟨by decide, by decide⟩ rfl (Nat.le_of_ble_eq_true rfl) ⟨by decide, by decide⟩ dX9_loansGo_79 ?_
            rintro _ rfl
            simp only [wf_same, wf_wf]
            exact j_goto C dX9_loansGo_82 (j_goto C dX9_loansGo_127 (j_fg (ih2 Mt (takeL (due1 t k) k) k (by rw [cL_take (by omega)]; omega) (takeL_RI hd (by omega)) (by rw [cL_take (by omega)]; omega) (by rw [cL_take (by omega)]; omega) (by rw [← ln_1 (by omega) hkc (by omega) (by omega)]; exact heq)) ⟨Or.inr rfl, Or.inr rfl, Or.inl rfl, Or.inl rfl, trivial⟩ rfl))
  exact j_fg (loop2 _ M (ω.1 244) 0 (Nat.lt_succ_self _) hI (by omega) (Nat.zero_le _) rfl) ⟨Or.inr rfl, Or.inr rfl, Or.inl rfl, Or.inl rfl, trivial⟩ (wf_id ω 244).symm
set_option maxRecDepth 100000 in
set_option maxHeartbeats 4000000 in
theorem c_X9_hourGoes {Γ : Ga} {l : Launch} {ω : Wo} (hw : WM ω.2.1) {M : Int} (hI : RI M (ω.1 244))  (hW : W1 (ω.1 244)) (hM : M + 30 ≤ 100000000) : CV Γ l yX9_hourGoes cX9_hourGoes 2 4 [.ref (rl Γ 243)] ω (fun ω' => ω' = wf ω 244 (hourR (ω.1 244))) := by
  refine Met.ofJ (k := 1) [some (.ref (rl Γ 243)), none] (by decide) rfl rfl rfl (fun p e s mm args below meth c C hrt => ?_)
  have g := hI.s
  have gc := hI.c
  have hI1 : RI (M + 1) (up (ω.1 244) 0 ((ω.1 244) 0 + 1)) := RI.ss0 (hI.le (by omega) (by omega)) (by omega)
  have hW1 : W1 (up (ω.1 244) 0 ((ω.1 244) 0 + 1)) := W1.of hW (fun k hk => by left; rw [eM1, eM3, up_ne _ _ (by omega), up_ne _ _ (by omega), ← eM1 (ω.1 244), ← eM3 (ω.1 244)]; exact ⟨rfl, rfl⟩)
  have gc1 := hI1.c
  have hIm := memsUp_RI hI1 (cM (up (ω.1 244) 0 ((ω.1 244) 0 + 1))) gc1.1.2 (by omega)
  have gcm := hIm.c
  have hIb := boatsUp_RI hIm _ gcm.2.1.2 (by omega)
  refine j_aload0 C dX9_hourGoes_0 ?_
  refine j_getr C fX9_9 at_243 rfl hw.r0 dX9_hourGoes_1 ?_
  refine j_iconst C dX9_hourGoes_4 ?_
  refine j_dup2 C rfl rfl dX9_hourGoes_5 ?_
  refine j_ialdK C at_244 ⟨rfl, rfl⟩ (N := 111) rfl (by decide) (k := 0) rfl (by decide) dX9_hourGoes_6 (fun hr6 => ?_)
  try simp only [wf_same] at hr6 ⊢
  refine j_iconst C dX9_hourGoes_7 ?_
  refine j_iadd C dX9_hourGoes_8 ?_
  refine j_iastK C at_244 ⟨rfl, rfl⟩ (N := 111) rfl (by decide) (k := 0) rfl (by decide) ⟨by omega, by omega⟩ dX9_hourGoes_9 ?_
  try simp only [wi_wf, wf_same, wf_wf, tM0, tM1, tM2, tM3, tM4, tM5, tM6, tB0, tB1, tB2, tB3, tB4, tB5, tB6, tL0, tL1, tL2]
  refine j_iconst C dX9_hourGoes_10 ?_
  refine j_istore1 C rfl dX9_hourGoes_11 ?_
  have loop12 : ∀ (N : Nat) (n : Nat), (cM (up (ω.1 244) 0 ((ω.1 244) 0 + 1)) - n) < N → (n ≤ cM (up (ω.1 244) 0 ((ω.1 244) 0 + 1))) → J Γ p l e (rmk 4 0 0) s mm args below meth c (MQ below (QV Γ (fun ω' => ω' = wf ω 244 (hourR (ω.1 244)))) args s 0 0 (gA Γ)) 254 0 0 12 [some (.ref (rl Γ 243)), some (.int (iI ((n : Nat) : Int)))] [] (wf ω 244 (memsUp (up (ω.1 244) 0 ((ω.1 244) 0 + 1)) n)) := by
    intro N
    induction N with
    | zero => intro n hN; exact absurd hN (Nat.not_lt_zero _)
    | succ N ih12 =>
      intro n hN hi0
      have hIn := memsUp_RI hI1 n (by omega) (by omega)
      have e1 : memsUp (up (ω.1 244) 0 ((ω.1 244) 0 + 1)) n 1 = (up (ω.1 244) 0 ((ω.1 244) 0 + 1)) 1 := memsUp_at n 1 (fun j _ => by omega)
      refine j_iload1 C dX9_hourGoes_12 ?_
      refine j_aload0 C dX9_hourGoes_13 ?_
      refine j_getr C fX9_9 at_243 rfl hw.r0 dX9_hourGoes_14 ?_
      refine j_iconst C dX9_hourGoes_17 ?_
      refine j_ialdK C at_244 ⟨rfl, rfl⟩ (N := 111) rfl (by decide) (k := 1) rfl (by decide) dX9_hourGoes_18 (fun hr18 => ?_)
      try simp only [wf_same] at hr18 ⊢
      rw [e1] at hr18 ⊢
      refine j_icmp_ge C ⟨by omega, by omega⟩ ⟨by omega, by omega⟩ dX9_hourGoes_19 (fun hc19 => ?_) (fun hc19 => ?_)
      · -- 19 T
        refine j_iconst C dX9_hourGoes_33 ?_
        refine j_istore1 C rfl dX9_hourGoes_34 ?_
        have hn : n = cM (up (ω.1 244) 0 ((ω.1 244) 0 + 1)) := by omega
        subst hn
        have loop35 : ∀ (N : Nat) (n : Nat), (cB (memsUp (up (ω.1 244) 0 ((ω.1 244) 0 + 1)) (cM (up (ω.1 244) 0 ((ω.1 244) 0 + 1)))) - n) < N → (n ≤ cB (memsUp (up (ω.1 244) 0 ((ω.1 244) 0 + 1)) (cM (up (ω.1 244) 0 ((ω.1 244) 0 + 1))))) → J Γ p l e (rmk 4 0 0) s mm args below meth c (MQ below (QV Γ (fun ω' => ω' = wf ω 244 (hourR (ω.1 244)))) args s 0 0 (gA Γ)) 254 0 0 35 [some (.ref (rl Γ 243)), some (.int (iI ((n : Nat) : Int)))] [] (wf ω 244 (boatsUp (memsUp (up (ω.1 244) 0 ((ω.1 244) 0 + 1)) (cM (up (ω.1 244) 0 ((ω.1 244) 0 + 1)))) n)) := by
          intro N
          induction N with
          | zero => intro n hN; exact absurd hN (Nat.not_lt_zero _)
          | succ N ih35 =>
            intro n hN hi0
            have hIn := boatsUp_RI hIm n (by omega) (by omega)
            have e2 : boatsUp (memsUp (up (ω.1 244) 0 ((ω.1 244) 0 + 1)) (cM (up (ω.1 244) 0 ((ω.1 244) 0 + 1)))) n 2 = memsUp (up (ω.1 244) 0 ((ω.1 244) 0 + 1)) (cM (up (ω.1 244) 0 ((ω.1 244) 0 + 1))) 2 := boatsUp_at gcm.1.2 n 2 (by omega) (by omega)
            refine j_iload1 C dX9_hourGoes_35 ?_
            refine j_aload0 C dX9_hourGoes_36 ?_
            refine j_getr C fX9_9 at_243 rfl hw.r0 dX9_hourGoes_37 ?_
            refine j_iconst C dX9_hourGoes_40 ?_
            refine j_ialdK C at_244 ⟨rfl, rfl⟩ (N := 111) rfl (by decide) (k := 2) rfl (by decide) dX9_hourGoes_41 (fun hr41 => ?_)
            try simp only [wf_same] at hr41 ⊢
            rw [e2] at hr41 ⊢
            refine j_icmp_ge C ⟨by omega, by omega⟩ ⟨by omega, by omega⟩ dX9_hourGoes_42 (fun hc42 => ?_) (fun hc42 => ?_)
            · -- 42 T
              refine j_aload0 C dX9_hourGoes_56 ?_
              have hn : n = cB (memsUp (up (ω.1 244) 0 ((ω.1 244) 0 + 1)) (cM (up (ω.1 244) 0 ((ω.1 244) 0 + 1)))) := by omega
              subst hn
              refine j_cVV0 C (c_X9_loansGo (by exact hw) hIb (by omega)) oX9_loansGo kX9_198 ⟨_, rfl, rfl⟩ at_243 ⟨by decide, by decide⟩ rfl (Nat.le_of_ble_eq_true rfl) ⟨by decide, by decide⟩ dX9_hourGoes_57 ?_
              rintro _ rfl
              try simp only [wi_wf, wf_same, wf_wf, tM0, tM1, tM2, tM3, tM4, tM5, tM6, tB0, tB1, tB2, tB3, tB4, tB5, tB6, tL0, tL1, tL2]
              refine j_vret C hrt dX9_hourGoes_60 ?_
              rfl
            · -- 42 F
              refine j_aload0 C dX9_hourGoes_45 ?_
              refine j_iload1 C dX9_hourGoes_46 ?_
              refine j_cVV1 C (c_X9_boatGoes (by exact hw) hIn (by omega) (by omega)) oX9_boatGoes kX9_195 ⟨_, rfl, rfl⟩ at_243 ⟨by decide, by decide⟩ rfl (Nat.le_of_ble_eq_true rfl) ⟨by decide, by decide⟩ dX9_hourGoes_47 ?_
              rintro _ rfl
              try simp only [wi_wf, wf_same, wf_wf, tM0, tM1, tM2, tM3, tM4, tM5, tM6, tB0, tB1, tB2, tB3, tB4, tB5, tB6, tL0, tL1, tL2]
              refine j_iinc1n C rfl dX9_hourGoes_50 ?_
              refine j_goto C dX9_hourGoes_53 ?_
              exact j_fg (ih35 (n + 1) (by omega) (by omega)) ⟨Or.inr rfl, Or.inr rfl, trivial⟩ (by rfl)
        exact j_fg (loop35 _ 0 (Nat.lt_succ_self _) (Nat.zero_le _)) ⟨Or.inr rfl, Or.inr rfl, trivial⟩ rfl
      · -- 19 F
        refine j_aload0 C dX9_hourGoes_22 ?_
        refine j_iload1 C dX9_hourGoes_23 ?_
        have hx := 0
        refine j_cVV1 C (c_X9_memberGoes (by exact hw) (by omega) (by exact W1_mems hW1 n n (by omega)) hIn) oX9_memberGoes kX9_192 ⟨_, rfl, rfl⟩ at_243 ⟨by decide, by decide⟩ rfl (Nat.le_of_ble_eq_true rfl) ⟨by decide, by decide⟩ dX9_hourGoes_24 ?_
        rintro _ rfl
        try simp only [wi_wf, wf_same, wf_wf, tM0, tM1, tM2, tM3, tM4, tM5, tM6, tB0, tB1, tB2, tB3, tB4, tB5, tB6, tL0, tL1, tL2]
        refine j_iinc1n C rfl dX9_hourGoes_27 ?_
        refine j_goto C dX9_hourGoes_30 ?_
        exact j_fg (ih12 (n + 1) (by omega) (by omega)) ⟨Or.inr rfl, Or.inr rfl, trivial⟩ (by rfl)
  exact j_fg (loop12 _ 0 (Nat.lt_succ_self _) (Nat.zero_le _)) ⟨Or.inr rfl, Or.inr rfl, trivial⟩ rfl
set_option maxRecDepth 100000 in
set_option maxHeartbeats 4000000 in
theorem c_X9_passes {Γ : Ga} {l : Launch} {ω : Wo} (hw : WM ω.2.1) {M : Int} (hI : RI M (ω.1 244))  {a : Int} (ha : Rg a) (hW : W1 (ω.1 244)) (hM : M + 3000 ≤ 100000000) : CI Γ l yX9_passes cX9_passes 4 .int 5 [.ref (rl Γ 243), .int (iI a)] ω (fun z ω' => DoM 8 ω a 0 z ω') := by
  refine Met.ofJ (k := 2) [some (.ref (rl Γ 243)), some (.int (iI a)), none, none] (by decide) rfl rfl rfl (fun p e s mm args below meth c C hrt => ?_)
  have g := hI.s
  have gc := hI.c
  refine j_aload0 C dX9_passes_0 ?_
  refine j_iload1 C dX9_passes_1 ?_
  refine j_iconst C dX9_passes_2 ?_
  refine j_bipush C (by decide) dX9_passes_3 ?_
  refine j_cSI3 C (c_X9_isIn ⟨by omega, by omega⟩ ⟨by omega, by omega⟩ ⟨by omega, by omega⟩) oX9_isIn kX9_60 ⟨by decide, by decide⟩ rfl (Nat.le_of_ble_eq_true rfl) ⟨by decide, by decide⟩ dX9_passes_5 ?_
  rintro _ _ hz5 ⟨rfl, rfl⟩
  try simp only [wi_wf, wf_same, wf_wf, tM0, tM1, tM2, tM3, tM4, tM5, tM6, tB0, tB1, tB2, tB3, tB4, tB5, tB6, tL0, tL1, tL2] at hz5 ⊢
  refine j_cVI1 C (c_X9_isOutside (by exact hw)) oX9_isOutside kX9_86 ⟨_, rfl, rfl⟩ at_243 ⟨by decide, by decide⟩ rfl (Nat.le_of_ble_eq_true rfl) ⟨by decide, by decide⟩ dX9_passes_8 ?_
  rintro _ _ hz8 ⟨rfl, rfl⟩
  try simp only [wi_wf, wf_same, wf_wf, tM0, tM1, tM2, tM3, tM4, tM5, tM6, tB0, tB1, tB2, tB3, tB4, tB5, tB6, tL0, tL1, tL2] at hz8 ⊢
  refine j_ifeqb C dX9_passes_11 (fun hc11 => ?_) (fun hc11 => ?_)
  · -- 11 T
    rw [if_pos hc11]
    refine j_iconst C dX9_passes_14 ?_
    refine j_iret C hrt dX9_passes_15 ⟨by omega, by omega⟩ ?_
    first | exact DoM.ref (by simp only [jd]; repeat (first | rw [if_pos (by omega)] | rw [if_neg (by omega)])) (by omega) | (refine DoM.ok (by simp only [jd]; repeat (first | rw [if_pos (by omega)] | rw [if_neg (by omega)])) ?_ ?_; rfl; rfl)
  · -- 11 F
    rw [if_neg hc11]
    refine j_aload0 C dX9_passes_16 ?_
    refine j_getr C fX9_9 at_243 rfl hw.r0 dX9_passes_17 ?_
    refine j_iconst C dX9_passes_20 ?_
    refine j_ialdK C at_244 ⟨rfl, rfl⟩ (N := 111) rfl (by decide) (k := 5) rfl (by decide) dX9_passes_21 (fun hr21 => ?_)
    try simp only [wf_same] at hr21 ⊢
    refine j_istore2 C rfl dX9_passes_22 ?_
    refine j_iconst C dX9_passes_23 ?_
    refine j_istore3 C rfl dX9_passes_24 ?_
    have loop25 : ∀ (N : Nat) (k : Nat), (a.toNat - k) < N → (k ≤ a.toNat) → J Γ p l e (rmk 5 0 0) s mm args below meth c (MQ below (QI Γ (fun z ω' => DoM 8 ω a 0 z ω')) args s 0 0 (gA Γ)) 254 0 0 25 [some (.ref (rl Γ 243)), some (.int (iI a)), some (.int (iI ((ω.1 244) 5))), some (.int (iI ((k : Nat) : Int)))] [] (wf ω 244 (hoursUp (ω.1 244) k)) := by
      intro N
      induction N with
      | zero => intro k hN; exact absurd hN (Nat.not_lt_zero _)
      | succ N ih25 =>
        intro k hN hi0
        have hIk := hoursUp_RI hI k (by omega)
        have hWk := W1_hours hW k
        have gk := hIk.s
        refine j_iload3 C dX9_passes_25 ?_
        refine j_iload1 C dX9_passes_26 ?_
        refine j_icmp_ge C ⟨by omega, by omega⟩ ⟨by omega, by omega⟩ dX9_passes_27 (fun hc27 => ?_) (fun hc27 => ?_)
        · -- 27 T
          refine j_aload0 C dX9_passes_40 ?_
          refine j_getr C fX9_9 at_243 rfl hw.r0 dX9_passes_41 ?_
          refine j_iconst C dX9_passes_44 ?_
          refine j_ialdK C at_244 ⟨rfl, rfl⟩ (N := 111) rfl (by decide) (k := 5) rfl (by decide) dX9_passes_45 (fun hr45 => ?_)
          try simp only [wf_same] at hr45 ⊢
          refine j_iload2 C dX9_passes_46 ?_
          refine j_isub C dX9_passes_47 ?_
          have hk : k = a.toNat := by omega
          subst hk
          refine j_iret C hrt dX9_passes_48 ⟨by omega, by omega⟩ ?_
          first | exact DoM.ref (by simp only [jd]; repeat (first | rw [if_pos (by omega)] | rw [if_neg (by omega)])) (by omega) | (refine DoM.ok (by simp only [jd]; repeat (first | rw [if_pos (by omega)] | rw [if_neg (by omega)])) ?_ ?_; rfl; rfl)
        · -- 27 F
          refine j_aload0 C dX9_passes_30 ?_
          refine j_cVV0 C (c_X9_hourGoes (by exact hw) hIk hWk (by omega)) oX9_hourGoes kX9_201 ⟨_, rfl, rfl⟩ at_243 ⟨by decide, by decide⟩ rfl (Nat.le_of_ble_eq_true rfl) ⟨by decide, by decide⟩ dX9_passes_31 ?_
          rintro _ rfl
          try simp only [wi_wf, wf_same, wf_wf, tM0, tM1, tM2, tM3, tM4, tM5, tM6, tB0, tB1, tB2, tB3, tB4, tB5, tB6, tL0, tL1, tL2]
          refine j_iinc3n C rfl dX9_passes_34 ?_
          refine j_goto C dX9_passes_37 ?_
          exact j_fg (ih25 (k + 1) (by omega) (by omega)) ⟨Or.inr rfl, Or.inr rfl, Or.inr rfl, Or.inr rfl, trivial⟩ (by rfl)
    exact j_fg (loop25 _ 0 (Nat.lt_succ_self _) (Nat.zero_le _)) ⟨Or.inr rfl, Or.inr rfl, Or.inr rfl, Or.inr rfl, trivial⟩ (wf_id ω 244).symm
