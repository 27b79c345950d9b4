set_option maxRecDepth 100000 in
set_option maxHeartbeats 4000000 in
theorem c_X8_carryOut {Γ : Ga} {l : Launch} {ω : Wo} (hsl : l.stackTraces = false) (hR : CR ω) {σ : Row} (hS : St ω 1 σ) {M : Int} (hI : RI M σ) (hWI : WI σ)  {i : Nat} (hi : i < 9) {a b : Int} (ha : Rg a) (hb : Rg b) (hj : (jd i σ a b).1 = 0) (hM : M + 3200 ≤ 100000000) : XI Γ l yX8_carryOut cX8_carryOut 4 .int 6 0 [.ref (rl Γ 0), .ref (gad Γ i), .int (iI a), .int (iI b)] ω (fun z ω' => z = (ad i σ a b).1 ∧ Fr 1 ω ω' ∧ St ω' 1 (ad i σ a b).2) (fun E ω' => False) := by
  refine MetX.ofJ (k := 0) [some (.ref (rl Γ 0)), some (.ref (gad Γ i)), some (.int (iI a)), some (.int (iI b))] (by decide) rfl rfl rfl (fun p e s mm args below meth c C hK2 hxt hrt => ?_)
  have hB := bs1
  have g := hI.s
  have gc := hI.c
  have gM := hI.2.1
  refine j_swm C dX8_carryOut_0 ?_
  refine j_aload1 C dX8_carryOut_3 ?_
  refine j_ord C hK2 (by omega) (by decide) rfl (Nat.le_of_ble_eq_true rfl) ⟨by decide, by decide⟩ dX8_carryOut_4 ?_
  refine j_swi C (by omega) dX8_carryOut_7 ?_
  obtain h | h | h | h | h | h | h | h | h : i = 0 ∨ i = 1 ∨ i = 2 ∨ i = 3 ∨ i = 4 ∨ i = 5 ∨ i = 6 ∨ i = 7 ∨ i = 8 := by omega
  all_goals subst h
  · -- 8 case 1
    replace hj := jd0_ok hj
    refine j_tswIn C (by decide) (by decide) (off := 48) rfl (tgt := 56) (by decide) dX8_carryOut_8 ?_
    refine j_aload0 C dX8_carryOut_56 ?_
    refine j_getr C fX8_12 at_0 rfl hR.1 dX8_carryOut_57 ?_
    refine j_iload2 C dX8_carryOut_60 ?_
    refine j_cVI1 C (c_X7_addMember hB (by exact hS) (by exact hI) (by exact hWI) ⟨by omega, by omega⟩ (by omega)) oX7_addMember kX8_422 ⟨_, rfl, rfl⟩ (at_st bs1) ⟨by decide, by decide⟩ rfl (Nat.le_of_ble_eq_true rfl) ⟨by decide, by decide⟩ dX8_carryOut_61 ?_
    rintro _ W9 hz9 ⟨rfl, hF9, hS9⟩
    refine j_xr (by decide) ?_
    refine j_iret C hrt dX8_carryOut_64 hz9 ?_
    exact ⟨rfl, hF9, hS9⟩
  · -- 8 case 2
    replace hj := jd1_ok hj
    obtain ⟨k, rfl⟩ := Int.eq_ofNat_of_zero_le hj.1.1
    refine j_tswIn C (by decide) (by decide) (off := 57) rfl (tgt := 65) (by decide) dX8_carryOut_8 ?_
    refine j_aload0 C dX8_carryOut_65 ?_
    refine j_getr C fX8_12 at_0 rfl hR.1 dX8_carryOut_66 ?_
    refine j_iload2 C dX8_carryOut_69 ?_
    refine j_cVI1 C (c_X7_letGo hB (by exact hS) (by exact hI) (by exact hWI) (by omega) (by omega) hj.2.2) oX7_letGo kX8_425 ⟨_, rfl, rfl⟩ (at_st bs1) ⟨by decide, by decide⟩ rfl (Nat.le_of_ble_eq_true rfl) ⟨by decide, by decide⟩ dX8_carryOut_70 ?_
    rintro _ W9 hz9 ⟨rfl, hF9, hS9⟩
    refine j_xr (by decide) ?_
    refine j_iret C hrt dX8_carryOut_73 hz9 ?_
    have e9 : (8 + 7 * (k : Int) + 1).toNat = 8 + 7 * k + 1 := by omega
    refine ⟨?_, hF9, ?_⟩
    · show _ = stayN (up σ (8 + 7 * (k : Int) + 1).toNat 2)
      rw [e9]
    · show St W9 1 (up σ (8 + 7 * (k : Int) + 1).toNat 2)
      rw [e9]; exact hS9
  · -- 8 case 3
    replace hj := jd2_ok hj
    obtain ⟨k, rfl⟩ := Int.eq_ofNat_of_zero_le hj.1.1
    refine j_tswIn C (by decide) (by decide) (off := 66) rfl (tgt := 74) (by decide) dX8_carryOut_8 ?_
    refine j_aload0 C dX8_carryOut_74 ?_
    refine j_getr C fX8_12 at_0 rfl hR.1 dX8_carryOut_75 ?_
    refine j_iload2 C dX8_carryOut_78 ?_
    refine j_cVI1 C (c_X7_raiseSkill hB (by exact hS) (by exact hI) (by exact hWI) (by omega) (by omega)) oX7_raiseSkill kX8_428 ⟨_, rfl, rfl⟩ (at_st bs1) ⟨by decide, by decide⟩ rfl (Nat.le_of_ble_eq_true rfl) ⟨by decide, by decide⟩ dX8_carryOut_79 ?_
    rintro _ W9 hz9 ⟨rfl, hF9, hS9⟩
    refine j_xr (by decide) ?_
    refine j_iret C hrt dX8_carryOut_82 hz9 ?_
    have e9 : (8 + 7 * (k : Int)).toNat = 8 + 7 * k := by omega
    refine ⟨rfl, hF9, ?_⟩
    show St W9 1 (up σ (8 + 7 * (k : Int)).toNat _)
    rw [e9]; exact hS9
  · -- 8 case 4
    replace hj := jd3_ok hj
    refine j_tswIn C (by decide) (by decide) (off := 75) rfl (tgt := 83) (by decide) dX8_carryOut_8 ?_
    refine j_aload0 C dX8_carryOut_83 ?_
    refine j_getr C fX8_12 at_0 rfl hR.1 dX8_carryOut_84 ?_
    refine j_iload2 C dX8_carryOut_87 ?_
    refine j_iload3 C dX8_carryOut_88 ?_
    refine j_cVI2 C (c_X7_addBoat hB (by exact hS) (by exact hI) (by exact hWI) ⟨by omega, by omega⟩ ⟨by omega, by omega⟩ (by omega)) oX7_addBoat kX8_431 ⟨_, rfl, rfl⟩ (at_st bs1) ⟨by decide, by decide⟩ rfl (Nat.le_of_ble_eq_true rfl) ⟨by decide, by decide⟩ dX8_carryOut_89 ?_
    rintro _ W9 hz9 ⟨rfl, hF9, hS9⟩
    refine j_xr (by decide) ?_
    refine j_iret C hrt dX8_carryOut_92 hz9 ?_
    exact ⟨rfl, hF9, hS9⟩
  · -- 8 case 5
    replace hj := jd4_ok hj
    obtain ⟨k, rfl⟩ := Int.eq_ofNat_of_zero_le hj.1.1
    have hw0 := whyN_rg σ k
    have hs2 := hWI.2.1 k (by omega)
    have hok := crOk_of hI (b := (k : Int)) (by omega) hs2 (whyN_0 (by omega))
    refine j_tswIn C (by decide) (by decide) (off := 85) rfl (tgt := 93) (by decide) dX8_carryOut_8 ?_
    refine j_aload0 C dX8_carryOut_93 ?_
    refine j_getr C fX8_12 at_0 rfl hR.1 dX8_carryOut_94 ?_
    refine j_iload2 C dX8_carryOut_97 ?_
    refine j_iload3 C dX8_carryOut_98 ?_
    refine j_cVI2 C (c_X7_sendOut hB (by exact hS) (by exact hI) (by exact hWI) (by omega) (by omega) (by omega) hok) oX7_sendOut kX8_434 ⟨_, rfl, rfl⟩ (at_st bs1) ⟨by decide, by decide⟩ rfl (Nat.le_of_ble_eq_true rfl) ⟨by decide, by decide⟩ dX8_carryOut_99 ?_
    rintro _ W9 hz9 ⟨rfl, hF9, hS9⟩
    refine j_xr (by decide) ?_
    refine j_iret C hrt dX8_carryOut_102 hz9 ?_
    exact ⟨rfl, hF9, hS9⟩
  · -- 8 case 6
    replace hj := jd5_ok hj
    refine j_tswIn C (by decide) (by decide) (off := 95) rfl (tgt := 103) (by decide) dX8_carryOut_8 ?_
    refine j_aload0 C dX8_carryOut_103 ?_
    refine j_getr C fX8_12 at_0 rfl hR.1 dX8_carryOut_104 ?_
    refine j_iload2 C dX8_carryOut_107 ?_
    refine j_iload3 C dX8_carryOut_108 ?_
    refine j_cVI2 C (c_X7_addLoan hB (by exact hS) (by exact hI) (by exact hWI) ⟨by omega, by omega⟩ ⟨by omega, by omega⟩ (by omega)) oX7_addLoan kX8_437 ⟨_, rfl, rfl⟩ (at_st bs1) ⟨by decide, by decide⟩ rfl (Nat.le_of_ble_eq_true rfl) ⟨by decide, by decide⟩ dX8_carryOut_109 ?_
    rintro _ W9 hz9 ⟨rfl, hF9, hS9⟩
    refine j_xr (by decide) ?_
    refine j_iret C hrt dX8_carryOut_112 hz9 ?_
    exact ⟨rfl, hF9, hS9⟩
  · -- 8 case 7
    replace hj := jd6_ok hj
    obtain ⟨k, rfl⟩ := Int.eq_ofNat_of_zero_le hj.1.1
    refine j_tswIn C (by decide) (by decide) (off := 105) rfl (tgt := 113) (by decide) dX8_carryOut_8 ?_
    refine j_aload0 C dX8_carryOut_113 ?_
    refine j_getr C fX8_12 at_0 rfl hR.1 dX8_carryOut_114 ?_
    refine j_iload2 C dX8_carryOut_117 ?_
    refine j_cVI1 C (c_X7_endLoan hB (by exact hS) (by exact hI) (by exact hWI) (by omega)) oX7_endLoan kX8_440 ⟨_, rfl, rfl⟩ (at_st bs1) ⟨by decide, by decide⟩ rfl (Nat.le_of_ble_eq_true rfl) ⟨by decide, by decide⟩ dX8_carryOut_118 ?_
    rintro _ W9 hz9 ⟨rfl, hF9, hS9⟩
    refine j_xr (by decide) ?_
    refine j_iret C hrt dX8_carryOut_121 hz9 ?_
    exact ⟨rfl, hF9, hS9⟩
  · -- 8 case 8
    replace hj := jd7_ok hj
    refine j_tswIn C (by decide) (by decide) (off := 114) rfl (tgt := 122) (by decide) dX8_carryOut_8 ?_
    refine j_aload0 C dX8_carryOut_122 ?_
    refine j_getr C fX8_12 at_0 rfl hR.1 dX8_carryOut_123 ?_
    refine j_iload2 C dX8_carryOut_126 ?_
    refine j_cVI1 C (c_X7_setLimit hB (by exact hS) (by exact hI) (by exact hWI) (by omega) (by omega)) oX7_setLimit kX8_443 ⟨_, rfl, rfl⟩ (at_st bs1) ⟨by decide, by decide⟩ rfl (Nat.le_of_ble_eq_true rfl) ⟨by decide, by decide⟩ dX8_carryOut_127 ?_
    rintro _ W9 hz9 ⟨rfl, hF9, hS9⟩
    refine j_xr (by decide) ?_
    refine j_iret C hrt dX8_carryOut_130 hz9 ?_
    exact ⟨rfl, hF9, hS9⟩
  · -- 8 case 0
    replace hj := jd8_ok hj
    refine j_tswOut C (by decide) (by decide) (tgt := 131) (by decide) dX8_carryOut_8 ?_
    refine j_aload0 C dX8_carryOut_131 ?_
    refine j_getr C fX8_12 at_0 rfl hR.1 dX8_carryOut_132 ?_
    refine j_iload2 C dX8_carryOut_135 ?_
    refine j_cVI1 C (c_X7_passHours hB (by exact hS) (by exact hI) (by exact hWI) (by omega) (by omega)) oX7_passHours kX8_219 ⟨_, rfl, rfl⟩ (at_st bs1) ⟨by decide, by decide⟩ rfl (Nat.le_of_ble_eq_true rfl) ⟨by decide, by decide⟩ dX8_carryOut_136 ?_
    rintro _ W9 hz9 ⟨rfl, hF9, hS9⟩
    refine j_xr (by decide) ?_
    refine j_iret C hrt dX8_carryOut_139 hz9 ?_
    exact ⟨rfl, hF9, hS9⟩
