set_option maxRecDepth 100000 in
set_option maxHeartbeats 4000000 in
theorem c_X9_whyNoCrew {Γ : Ga} {l : Launch} {ω : Wo} (hw : WM ω.2.1)  {b : Int} (hb : 0 ≤ b ∧ b < 3) (hs : 2 ≤ sB (ω.1 244) b 1) {M : Int} (hI : RI M (ω.1 244)) : CI Γ l yX9_whyNoCrew cX9_whyNoCrew 4 .int 3 [.ref (rl Γ 243), .int (iI b)] ω (fun z ω' => z = whyC (ω.1 244) b ∧ ω = ω') := by
  refine Met.ofJ (k := 2) [some (.ref (rl Γ 243)), some (.int (iI b)), none, none] (by decide) rfl rfl rfl (fun p e s mm args below meth c C hrt => ?_)
  have g := hI.s
  have gc := hI.c
  have gb := hI.b b hb
  have ga := ableS_lt hI
  have gl := lst_lt hI (ableS (ω.1 244)) 2
  have gk : ∀ x, skl (ω.1 244) x = sklUp (ω.1 244) x (cM (ω.1 244)) := fun x => rfl
  have gbi := bitsUp_rg (ableS (ω.1 244)) 10
  refine j_aload0 C dX9_whyNoCrew_0 ?_
  refine j_cVI0 C (c_X9_ableSet (by exact hw) hI) oX9_ableSet kX9_131 ⟨_, rfl, rfl⟩ at_243 ⟨by decide, by decide⟩ rfl (Nat.le_of_ble_eq_true rfl) ⟨by decide, by decide⟩ dX9_whyNoCrew_1 ?_
  rintro _ _ hz1 ⟨rfl, rfl⟩
  refine j_istore2 C rfl dX9_whyNoCrew_4 ?_
  refine j_aload0 C dX9_whyNoCrew_5 ?_
  refine j_iload2 C dX9_whyNoCrew_6 ?_
  refine j_iconst C dX9_whyNoCrew_7 ?_
  refine j_cVI2 C (c_X9_leastOf (by exact hw) (by omega) ⟨by omega, by omega⟩ (by exact hI)) oX9_leastOf kX9_134 ⟨_, rfl, rfl⟩ at_243 ⟨by decide, by decide⟩ rfl (Nat.le_of_ble_eq_true rfl) ⟨by decide, by decide⟩ dX9_whyNoCrew_8 ?_
  rintro _ _ hz8 ⟨rfl, rfl⟩
  refine j_istore3 C rfl dX9_whyNoCrew_11 ?_
  refine j_iload3 C dX9_whyNoCrew_12 ?_
  refine j_if_ge C ⟨by omega, by omega⟩ dX9_whyNoCrew_13 (fun hc13 => ?_) (fun hc13 => ?_)
  · -- 13 T
    refine j_iload2 C dX9_whyNoCrew_19 ?_
    refine j_cSI1 C (c_X9_bits (by omega)) oX9_bits kX9_137 ⟨by decide, by decide⟩ rfl (Nat.le_of_ble_eq_true rfl) ⟨by decide, by decide⟩ dX9_whyNoCrew_20 ?_
    rintro _ _ hz20 ⟨rfl, rfl⟩
    refine j_aload0 C dX9_whyNoCrew_23 ?_
    refine j_iload1 C dX9_whyNoCrew_24 ?_
    refine j_iconst C dX9_whyNoCrew_25 ?_
    refine j_cVI2 C (c_X9_ofBoat (by exact hw) (by omega) (by omega)) oX9_ofBoat kX9_72 ⟨_, rfl, rfl⟩ at_243 ⟨by decide, by decide⟩ rfl (Nat.le_of_ble_eq_true rfl) ⟨by decide, by decide⟩ dX9_whyNoCrew_26 ?_
    rintro _ _ hz26 ⟨rfl, rfl⟩
    refine j_icmp_ge C ⟨by omega, by omega⟩ ⟨by omega, by omega⟩ dX9_whyNoCrew_29 (fun hc29 => ?_) (fun hc29 => ?_)
    · -- 29 T
      refine j_aload0 C dX9_whyNoCrew_35 ?_
      refine j_iload2 C dX9_whyNoCrew_36 ?_
      obtain ⟨cx, hcx⟩ := Int.eq_ofNat_of_zero_le (show 0 ≤ lst (ω.1 244) (ableS (ω.1 244)) 2 from by omega)
      have hcxl := lst_lt hI (ableS (ω.1 244)) 2
      rw [hcx] at hcxl
      have hcxp := two_lt (show cx < 10 by omega)
      rw [hcx]
      refine j_iconstN C (k := 1) rfl dX9_whyNoCrew_37 ?_
      refine j_iload3 C dX9_whyNoCrew_38 ?_
      refine j_ishl1 C (by omega) dX9_whyNoCrew_39 ?_
      refine j_iconst C dX9_whyNoCrew_40 ?_
      refine j_ixorm C (by omega) dX9_whyNoCrew_41 ?_
      refine j_iand C dX9_whyNoCrew_42 ?_
      rw [show ableS (ω.1 244) &&& (4294967295 - 2 ^ cx) = del (ableS (ω.1 244)) cx from rfl]
      refine j_cVI1 C (c_X9_skilled (by exact hw) (Nat.lt_of_le_of_lt (del_le _ _) (by omega)) (by exact hI)) oX9_skilled kX9_140 ⟨_, rfl, rfl⟩ at_243 ⟨by decide, by decide⟩ rfl (Nat.le_of_ble_eq_true rfl) ⟨by decide, by decide⟩ dX9_whyNoCrew_43 ?_
      rintro _ _ hz43 ⟨rfl, rfl⟩
      refine j_aload0 C dX9_whyNoCrew_46 ?_
      refine j_iload1 C dX9_whyNoCrew_47 ?_
      refine j_cVI1 C (c_X9_must (by exact hw) hb (by omega) (by exact hI)) oX9_must kX9_143 ⟨_, rfl, rfl⟩ at_243 ⟨by decide, by decide⟩ rfl (Nat.le_of_ble_eq_true rfl) ⟨by decide, by decide⟩ dX9_whyNoCrew_48 ?_
      rintro _ _ hz48 ⟨rfl, rfl⟩
      refine j_icmp_ge C ⟨by omega, by omega⟩ ⟨by omega, by omega⟩ dX9_whyNoCrew_51 (fun hc51 => ?_) (fun hc51 => ?_)
      · -- 51 T
        refine j_iconst C dX9_whyNoCrew_59 ?_
        refine j_iret C hrt dX9_whyNoCrew_60 ⟨by omega, by omega⟩ ?_
        refine ⟨?_, rfl⟩
        simp only [whyC]
        try simp only [hcx, Int.toNat_natCast]
        repeat (first | rw [if_pos (by omega)] | rw [if_neg (by omega)])
      · -- 51 F
        refine j_bipush C (by decide) dX9_whyNoCrew_54 ?_
        refine j_goto C dX9_whyNoCrew_56 ?_
        refine j_iret C hrt dX9_whyNoCrew_60 ⟨by omega, by omega⟩ ?_
        refine ⟨?_, rfl⟩
        simp only [whyC]
        try simp only [hcx, Int.toNat_natCast]
        repeat (first | rw [if_pos (by omega)] | rw [if_neg (by omega)])
    · -- 29 F
      refine j_bipush C (by decide) dX9_whyNoCrew_32 ?_
      refine j_iret C hrt dX9_whyNoCrew_34 ⟨by omega, by omega⟩ ?_
      refine ⟨?_, rfl⟩
      simp only [whyC]
      try simp only [hcx, Int.toNat_natCast]
      repeat (first | rw [if_pos (by omega)] | rw [if_neg (by omega)])
  · -- 13 F
    refine j_bipush C (by decide) dX9_whyNoCrew_16 ?_
    refine j_iret C hrt dX9_whyNoCrew_18 ⟨by omega, by omega⟩ ?_
    refine ⟨?_, rfl⟩
    simp only [whyC]
    try simp only [hcx, Int.toNat_natCast]
    repeat (first | rw [if_pos (by omega)] | rw [if_neg (by omega)])
set_option maxRecDepth 100000 in
set_option maxHeartbeats 4000000 in
theorem c_X9_crewFor {Γ : Ga} {l : Launch} {ω : Wo} (hw : WM ω.2.1)  {b : Int} (hb : 0 ≤ b ∧ b < 3) (hs : 2 ≤ sB (ω.1 244) b 1) (hk : crOk (ω.1 244) b) {M : Int} (hI : RI M (ω.1 244)) : CI Γ l yX9_crewFor cX9_crewFor 7 .int 3 [.ref (rl Γ 243), .int (iI b)] ω (fun z ω' => z = (crw (ω.1 244) b : Int) ∧ ω = ω') := by
  refine Met.ofJ (k := 5) [some (.ref (rl Γ 243)), some (.int (iI b)), none, none, none, none, none] (by decide) rfl rfl rfl (fun p e s mm args below meth c C hrt => ?_)
  have g := hI.s
  have gc := hI.c
  have gb := hI.b b hb
  have ga := ableS_lt hI
  have gl := lst_lt hI (ableS (ω.1 244)) 2
  have hk0 := hk.1
  refine j_aload0 C dX9_crewFor_0 ?_
  refine j_cVI0 C (c_X9_ableSet (by exact hw) hI) oX9_ableSet kX9_131 ⟨_, rfl, rfl⟩ at_243 ⟨by decide, by decide⟩ rfl (Nat.le_of_ble_eq_true rfl) ⟨by decide, by decide⟩ dX9_crewFor_1 ?_
  rintro _ _ hz1 ⟨rfl, rfl⟩
  refine j_istore2 C rfl dX9_crewFor_4 ?_
  refine j_aload0 C dX9_crewFor_5 ?_
  refine j_iload2 C dX9_crewFor_6 ?_
  refine j_iconst C dX9_crewFor_7 ?_
  refine j_cVI2 C (c_X9_leastOf (by exact hw) (by omega) ⟨by omega, by omega⟩ (by exact hI)) oX9_leastOf kX9_134 ⟨_, rfl, rfl⟩ at_243 ⟨by decide, by decide⟩ rfl (Nat.le_of_ble_eq_true rfl) ⟨by decide, by decide⟩ dX9_crewFor_8 ?_
  rintro _ _ hz8 ⟨rfl, rfl⟩
  refine j_istore3 C rfl dX9_crewFor_11 ?_
  obtain ⟨cx, hcx⟩ := Int.eq_ofNat_of_zero_le (show 0 ≤ lst (ω.1 244) (ableS (ω.1 244)) 2 from by omega)
  have hcxl := lst_lt hI (ableS (ω.1 244)) 2
  rw [hcx] at hcxl
  have hcxp := two_lt (show cx < 10 by omega)
  rw [hcx]
  refine j_iconstN C (k := 1) rfl dX9_crewFor_12 ?_
  refine j_iload3 C dX9_crewFor_13 ?_
  refine j_ishl1 C (by omega) dX9_crewFor_14 ?_
  refine j_istore4 C rfl dX9_crewFor_15 ?_
  refine j_iload2 C dX9_crewFor_17 ?_
  refine j_iload4 C dX9_crewFor_18 ?_
  refine j_iconst C dX9_crewFor_20 ?_
  refine j_ixorm C (by omega) dX9_crewFor_21 ?_
  refine j_iand C dX9_crewFor_22 ?_
  refine j_istore2 C rfl dX9_crewFor_23 ?_
  refine j_iconst C dX9_crewFor_24 ?_
  refine j_istore5 C rfl dX9_crewFor_25 ?_
  have loop27 : ∀ (N : Nat) (n : Nat), ((sB (ω.1 244) b 1 - 1).toNat - n) < N → (n ≤ (sB (ω.1 244) b 1 - 1).toNat) → J Γ p l e (rmk 3 0 0) s mm args below meth c (MQ below (QI Γ (fun z ω' => z = (crw (ω.1 244) b : Int) ∧ ω = ω')) args s 0 0 (gA Γ)) 254 0 0 27 [some (.ref (rl Γ 243)), some (.int (iI b)), some (.int (iI (((crwUp (ω.1 244) b n).2 : Nat) : Int))), none, some (.int (iI (((crwUp (ω.1 244) b n).1 : Nat) : Int))), some (.int (iI ((n : Nat) : Int))), none] [] ω := by
    intro N
    induction N with
    | zero => intro n hN; exact absurd hN (Nat.not_lt_zero _)
    | succ N ih27 =>
      intro n hN hi0
      have glt := crwUp_lt hI b n
      refine j_iload5 C dX9_crewFor_27 ?_
      refine j_aload0 C dX9_crewFor_29 ?_
      refine j_iload1 C dX9_crewFor_30 ?_
      refine j_iconst C dX9_crewFor_31 ?_
      refine j_cVI2 C (c_X9_ofBoat (by exact hw) (by omega) (by omega)) oX9_ofBoat kX9_72 ⟨_, rfl, rfl⟩ at_243 ⟨by decide, by decide⟩ rfl (Nat.le_of_ble_eq_true rfl) ⟨by decide, by decide⟩ dX9_crewFor_32 ?_
      rintro _ _ hz32 ⟨rfl, rfl⟩
      refine j_iconst C dX9_crewFor_35 ?_
      refine j_isub C dX9_crewFor_36 ?_
      refine j_icmp_ge C ⟨by omega, by omega⟩ ⟨by omega, by omega⟩ dX9_crewFor_37 (fun hc37 => ?_) (fun hc37 => ?_)
      · -- 37 T
        refine j_iload4 C dX9_crewFor_86 ?_
        refine j_iret C hrt dX9_crewFor_88 ⟨by omega, by omega⟩ ?_
        have hn : n = (sB (ω.1 244) b 1 - 1).toNat := by omega
        subst hn
        exact ⟨rfl, rfl⟩
      · -- 37 F
        refine j_aload0 C dX9_crewFor_40 ?_
        refine j_iload2 C dX9_crewFor_41 ?_
        refine j_iload5 C dX9_crewFor_42 ?_
        refine j_aload0 C dX9_crewFor_44 ?_
        refine j_iload1 C dX9_crewFor_45 ?_
        refine j_cVI1 C (c_X9_must (by exact hw) hb (by omega) (by exact hI)) oX9_must kX9_143 ⟨_, rfl, rfl⟩ at_243 ⟨by decide, by decide⟩ rfl (Nat.le_of_ble_eq_true rfl) ⟨by decide, by decide⟩ dX9_crewFor_46 ?_
        rintro _ _ hz46 ⟨rfl, rfl⟩
        refine j_icmp_ge C ⟨by omega, by omega⟩ ⟨by omega, by omega⟩ dX9_crewFor_49 (fun hc49 => ?_) (fun hc49 => ?_)
        · -- 49 T
          have hq := hk.2 n (by omega)
          rw [if_neg (by omega)] at hq
          refine j_iconst C dX9_crewFor_56 ?_
          refine j_cVI2 C (c_X9_leastOf (by exact hw) (by omega) ⟨by omega, by omega⟩ (by exact hI)) oX9_leastOf kX9_134 ⟨_, rfl, rfl⟩ at_243 ⟨by decide, by decide⟩ rfl (Nat.le_of_ble_eq_true rfl) ⟨by decide, by decide⟩ dX9_crewFor_57 ?_
          rintro _ _ hz57 ⟨rfl, rfl⟩
          obtain ⟨nx, hnx⟩ := Int.eq_ofNat_of_zero_le hq
          have hnl := lst_lt hI (crwUp (ω.1 244) b n).2 (if (n : Int) < mustO (ω.1 244) b then 1 else 0)
          first | rw [if_pos (by omega), hnx] at hnl | rw [if_neg (by omega), hnx] at hnl
          have hnp := two_lt (show nx < 10 by omega)
          rw [hnx]
          refine j_istore6 C rfl dX9_crewFor_60 ?_
          refine j_iload4 C dX9_crewFor_62 ?_
          refine j_iconstN C (k := 1) rfl dX9_crewFor_64 ?_
          refine j_iload6 C dX9_crewFor_65 ?_
          refine j_ishl1 C (by omega) dX9_crewFor_67 ?_
          refine j_ior C dX9_crewFor_68 ?_
          refine j_istore4 C rfl dX9_crewFor_69 ?_
          refine j_iload2 C dX9_crewFor_71 ?_
          refine j_iconstN C (k := 1) rfl dX9_crewFor_72 ?_
          refine j_iload6 C dX9_crewFor_73 ?_
          refine j_ishl1 C (by omega) dX9_crewFor_75 ?_
          refine j_iconst C dX9_crewFor_76 ?_
          refine j_ixorm C (by omega) dX9_crewFor_77 ?_
          refine j_iand C dX9_crewFor_78 ?_
          refine j_istore2 C rfl dX9_crewFor_79 ?_
          refine j_iinc5n C rfl dX9_crewFor_80 ?_
          refine j_goto C dX9_crewFor_83 ?_
          exact j_fg (ih27 (n + 1) (by omega) (by omega)) ⟨Or.inr rfl, Or.inr rfl, Or.inr (sN (by simp only [crwUp]; first | (rw [if_pos (by omega), hnx, Int.toNat_natCast]; rfl) | (rw [if_neg (by omega), hnx, Int.toNat_natCast]; rfl))), Or.inl rfl, Or.inr (sN (by simp only [crwUp]; first | rw [if_pos (by omega), hnx, Int.toNat_natCast] | rw [if_neg (by omega), hnx, Int.toNat_natCast])), Or.inr rfl, Or.inl rfl, trivial⟩ rfl
        · -- 49 F
          have hq := hk.2 n (by omega)
          rw [if_pos (by omega)] at hq
          refine j_iconst C dX9_crewFor_52 ?_
          refine j_goto C dX9_crewFor_53 ?_
          refine j_cVI2 C (c_X9_leastOf (by exact hw) (by omega) ⟨by omega, by omega⟩ (by exact hI)) oX9_leastOf kX9_134 ⟨_, rfl, rfl⟩ at_243 ⟨by decide, by decide⟩ rfl (Nat.le_of_ble_eq_true rfl) ⟨by decide, by decide⟩ dX9_crewFor_57 ?_
          rintro _ _ hz57 ⟨rfl, rfl⟩
          obtain ⟨nx, hnx⟩ := Int.eq_ofNat_of_zero_le hq
          have hnl := lst_lt hI (crwUp (ω.1 244) b n).2 (if (n : Int) < mustO (ω.1 244) b then 1 else 0)
          first | rw [if_pos (by omega), hnx] at hnl | rw [if_neg (by omega), hnx] at hnl
          have hnp := two_lt (show nx < 10 by omega)
          rw [hnx]
          refine j_istore6 C rfl dX9_crewFor_60 ?_
          refine j_iload4 C dX9_crewFor_62 ?_
          refine j_iconstN C (k := 1) rfl dX9_crewFor_64 ?_
          refine j_iload6 C dX9_crewFor_65 ?_
          refine j_ishl1 C (by omega) dX9_crewFor_67 ?_
          refine j_ior C dX9_crewFor_68 ?_
          refine j_istore4 C rfl dX9_crewFor_69 ?_
          refine j_iload2 C dX9_crewFor_71 ?_
          refine j_iconstN C (k := 1) rfl dX9_crewFor_72 ?_
          refine j_iload6 C dX9_crewFor_73 ?_
          refine j_ishl1 C (by omega) dX9_crewFor_75 ?_
          refine j_iconst C dX9_crewFor_76 ?_
          refine j_ixorm C (by omega) dX9_crewFor_77 ?_
          refine j_iand C dX9_crewFor_78 ?_
          refine j_istore2 C rfl dX9_crewFor_79 ?_
          refine j_iinc5n C rfl dX9_crewFor_80 ?_
          refine j_goto C dX9_crewFor_83 ?_
          exact j_fg (ih27 (n + 1) (by omega) (by omega)) ⟨Or.inr rfl, Or.inr rfl, Or.inr (sN (by simp only [crwUp]; first | (rw [if_pos (by omega), hnx, Int.toNat_natCast]; rfl) | (rw [if_neg (by omega), hnx, Int.toNat_natCast]; rfl))), Or.inl rfl, Or.inr (sN (by simp only [crwUp]; first | rw [if_pos (by omega), hnx, Int.toNat_natCast] | rw [if_neg (by omega), hnx, Int.toNat_natCast])), Or.inr rfl, Or.inl rfl, trivial⟩ rfl
  exact j_fg (loop27 _ 0 (Nat.lt_succ_self _) (Nat.zero_le _)) ⟨Or.inr rfl, Or.inr rfl, Or.inr (sN (by simp only [crwUp, hcx, Int.toNat_natCast]; rfl)), Or.inl rfl, Or.inr (sN (by simp only [crwUp, hcx, Int.toNat_natCast])), Or.inr rfl, Or.inl rfl, trivial⟩ rfl
set_option maxRecDepth 100000 in
set_option maxHeartbeats 4000000 in
theorem c_X9_whyNot {Γ : Ga} {l : Launch} {ω : Wo} (hw : WM ω.2.1)  {b : Int} (hb : 0 ≤ b ∧ b < 3) (hs : 2 ≤ sB (ω.1 244) b 1) {M : Int} (hI : RI M (ω.1 244)) : CI Γ l yX9_whyNot cX9_whyNot 3 .int 4 [.ref (rl Γ 243), .int (iI b)] ω (fun z ω' => z = whyN (ω.1 244) b ∧ ω = ω') := by
  refine Met.ofJ (k := 1) [some (.ref (rl Γ 243)), some (.int (iI b)), none] (by decide) rfl rfl rfl (fun p e s mm args below meth c C hrt => ?_)
  have g := hI.s
  have gc := hI.c
  have gb := hI.b b hb
  have ga := ableS_lt hI
  refine j_aload0 C dX9_whyNot_0 ?_
  refine j_iload1 C dX9_whyNot_1 ?_
  refine j_iconst C dX9_whyNot_2 ?_
  refine j_cVI2 C (c_X9_ofBoat (by exact hw) (by omega) (by omega)) oX9_ofBoat kX9_72 ⟨_, rfl, rfl⟩ at_243 ⟨by decide, by decide⟩ rfl (Nat.le_of_ble_eq_true rfl) ⟨by decide, by decide⟩ dX9_whyNot_3 ?_
  rintro _ _ hz3 ⟨rfl, rfl⟩
  refine j_iconst C dX9_whyNot_6 ?_
  refine j_icmp_ne C ⟨by omega, by omega⟩ ⟨by omega, by omega⟩ dX9_whyNot_7 (fun hc7 => ?_) (fun hc7 => ?_)
  · -- 7 T
    refine j_aload0 C dX9_whyNot_12 ?_
    refine j_iload1 C dX9_whyNot_13 ?_
    refine j_cVI1 C (c_X9_isLow (by exact hw) hb (by exact hI)) oX9_isLow kX9_146 ⟨_, rfl, rfl⟩ at_243 ⟨by decide, by decide⟩ rfl (Nat.le_of_ble_eq_true rfl) ⟨by decide, by decide⟩ dX9_whyNot_14 ?_
    rintro _ _ hz14 ⟨rfl, rfl⟩
    refine j_ifeqb C dX9_whyNot_17 (fun hc17 => ?_) (fun hc17 => ?_)
    · -- 17 T
      refine j_bipush C (by decide) dX9_whyNot_20 ?_
      refine j_iret C hrt dX9_whyNot_22 ⟨by omega, by omega⟩ ?_
      refine ⟨?_, rfl⟩
      simp only [whyN]
      repeat (first | rw [if_pos (by omega)] | rw [if_neg (by omega)])
    · -- 17 F
      refine j_aload0 C dX9_whyNot_23 ?_
      refine j_iload1 C dX9_whyNot_24 ?_
      refine j_cVI1 C (c_X9_whyNoCrew (by exact hw) hb (by omega) (by exact hI)) oX9_whyNoCrew kX9_149 ⟨_, rfl, rfl⟩ at_243 ⟨by decide, by decide⟩ rfl (Nat.le_of_ble_eq_true rfl) ⟨by decide, by decide⟩ dX9_whyNot_25 ?_
      rintro _ _ hz25 ⟨rfl, rfl⟩
      refine j_istore2 C rfl dX9_whyNot_28 ?_
      refine j_iload2 C dX9_whyNot_29 ?_
      refine j_if_le C ⟨by omega, by omega⟩ dX9_whyNot_30 (fun hc30 => ?_) (fun hc30 => ?_)
      · -- 30 T
        refine j_aload0 C dX9_whyNot_37 ?_
        refine j_cVI0 C (c_X9_freeOars (by exact hw) hI) oX9_freeOars kX9_152 ⟨_, rfl, rfl⟩ at_243 ⟨by decide, by decide⟩ rfl (Nat.le_of_ble_eq_true rfl) ⟨by decide, by decide⟩ dX9_whyNot_38 ?_
        rintro _ _ hz38 ⟨rfl, rfl⟩
        refine j_aload0 C dX9_whyNot_41 ?_
        refine j_iload1 C dX9_whyNot_42 ?_
        refine j_iconst C dX9_whyNot_43 ?_
        refine j_cVI2 C (c_X9_ofBoat (by exact hw) (by omega) (by omega)) oX9_ofBoat kX9_72 ⟨_, rfl, rfl⟩ at_243 ⟨by decide, by decide⟩ rfl (Nat.le_of_ble_eq_true rfl) ⟨by decide, by decide⟩ dX9_whyNot_44 ?_
        rintro _ _ hz44 ⟨rfl, rfl⟩
        refine j_iconst C dX9_whyNot_47 ?_
        refine j_isub C dX9_whyNot_48 ?_
        refine j_icmp_ge C ⟨by omega, by omega⟩ ⟨by omega, by omega⟩ dX9_whyNot_49 (fun hc49 => ?_) (fun hc49 => ?_)
        · -- 49 T
          refine j_iconst C dX9_whyNot_57 ?_
          refine j_iret C hrt dX9_whyNot_58 ⟨by omega, by omega⟩ ?_
          refine ⟨?_, rfl⟩
          simp only [whyN]
          repeat (first | rw [if_pos (by omega)] | rw [if_neg (by omega)])
        · -- 49 F
          refine j_bipush C (by decide) dX9_whyNot_52 ?_
          refine j_goto C dX9_whyNot_54 ?_
          refine j_iret C hrt dX9_whyNot_58 ⟨by omega, by omega⟩ ?_
          refine ⟨?_, rfl⟩
          simp only [whyN]
          repeat (first | rw [if_pos (by omega)] | rw [if_neg (by omega)])
      · -- 30 F
        refine j_iload2 C dX9_whyNot_33 ?_
        refine j_goto C dX9_whyNot_34 ?_
        refine j_iret C hrt dX9_whyNot_58 ⟨by omega, by omega⟩ ?_
        refine ⟨?_, rfl⟩
        simp only [whyN]
        repeat (first | rw [if_pos (by omega)] | rw [if_neg (by omega)])
  · -- 7 F
    refine j_iconst C dX9_whyNot_10 ?_
    refine j_iret C hrt dX9_whyNot_11 ⟨by omega, by omega⟩ ?_
    refine ⟨?_, rfl⟩
    simp only [whyN]
    repeat (first | rw [if_pos (by omega)] | rw [if_neg (by omega)])
