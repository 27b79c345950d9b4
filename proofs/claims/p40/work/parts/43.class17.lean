set_option maxRecDepth 100000 in
set_option maxHeartbeats 4000000 in
theorem c_X8_change {Γ : Ga} {l : Launch} {ω : Wo} (hsl : l.stackTraces = false) (hR : CR ω) {σ : Row} (hS : St ω 1 σ) {M : Int} (hI : RI M σ) (hWI : WI σ)  {i : Nat} (hi : i < 9) {a b : Int} (ha : Rg a) (hb : Rg b) (hM : M + 3200 ≤ 100000000) {n : Nat} {hh : Nat → Row} (hPA : PA M ω n hh) : XI Γ l yX8_change cX8_change 4 .int 7 1 [.ref (rl Γ 0), .ref (gad Γ i), .int (iI a), .int (iI b)] ω (fun z ω' => (jd i σ a b).1 = 0 ∧ z = (ad i σ a b).1 ∧ St ω' 1 (ad i σ a b).2 ∧ PA M ω' (rmN n) (rmH n hh σ) ∧ CR ω' ∧ KQ ω ω') (fun E ω' => E = eUn ∧ (jd i σ a b).1 ≠ 0 ∧ ω' = RF (RF (RF ω 67 (jd i σ a b).1 (jd i σ a b).2) 65 (jd i σ a b).1 (jd i σ a b).2) 66 0 0) := by
  refine MetX.ofJ (k := 0) [some (.ref (rl Γ 0)), some (.ref (gad Γ i)), some (.int (iI a)), some (.int (iI b))] (by decide) rfl rfl rfl (fun p e s mm args below meth c C hK2 hxt hrt => ?_)
  have hB := bs1
  have g := hI.s
  have gc := hI.c
  have gM := hI.2.1
  have hcc := hI.cc
  have hRj : CR (RF ω 67 (jd i σ a b).1 (jd i σ a b).2) := hR
  have hSj : St (RF ω 67 (jd i σ a b).1 (jd i σ a b).2) 1 σ := by unfold RF; exact hS.wx hcc (by omega)
  have hPj : PA M (RF ω 67 (jd i σ a b).1 (jd i σ a b).2) n hh := hPA.of ⟨by omega, by omega⟩ (by unfold RF; rw [wf_ne _ _ (by decide)]) (fun x _ _ => by unfold RF; rw [wf_ne _ _ (by omega)]) (fun x _ => rfl)
  refine j_aload0 C dX8_change_0 ?_
  refine j_aload1 C dX8_change_1 ?_
  refine j_iload2 C dX8_change_2 ?_
  refine j_iload3 C dX8_change_3 ?_
  refine j_xVV3 C hK2 hxt (c_X8_judge hsl (by exact hR) (by exact hS) (by exact hI) (by exact hWI) hi ha hb) oX8_judge kX8_376 ⟨_, rfl, rfl⟩ at_0 ⟨by decide, by decide⟩ rfl (Nat.le_of_ble_eq_true rfl) ⟨by decide, by decide⟩ ⟨by decide, by decide⟩ dX8_change_4 (fun _ _ hE => hE.elim) ?_
  rintro _ rfl
  refine j_aload0 C dX8_change_7 ?_
  refine j_getr C fX8_44 at_0 rfl hR.2.2.2.2.2.2.1 dX8_change_8 ?_
  refine j_cVI0 C (c_X5_isThere at_67) oX5_isThere kX8_216 ⟨_, rfl, rfl⟩ at_67 ⟨by decide, by decide⟩ rfl (Nat.le_of_ble_eq_true rfl) ⟨by decide, by decide⟩ dX8_change_11 ?_
  rintro _ _ hz11 ⟨rfl, rfl⟩
  simp only [RF_0] at hz11 ⊢
  refine j_ifeqb C dX8_change_14 (fun hc14 => ?_) (fun hc14 => ?_)
  · -- 14 T
    refine j_aload0 C dX8_change_17 ?_
    refine j_getr C fX8_37 at_0 rfl hR.2.2.2.2.1 dX8_change_18 ?_
    refine j_aload0 C dX8_change_21 ?_
    refine j_getr C fX8_44 at_0 rfl hR.2.2.2.2.2.2.1 dX8_change_22 ?_
    refine j_cVV1 C (c_X5_copyFrom at_65 at_67) oX5_copyFrom kX8_300 ⟨_, rfl, rfl⟩ at_65 ⟨by decide, by decide⟩ rfl (Nat.le_of_ble_eq_true rfl) ⟨by decide, by decide⟩ dX8_change_25 ?_
    rintro _ rfl
    simp only [RF_0, RF_1]
    refine j_aload0 C dX8_change_28 ?_
    refine j_getr C fX8_41 at_0 rfl hR.2.2.2.2.2.1 dX8_change_29 ?_
    refine j_cVV0 C (c_X5_clear at_66) oX5_clear kX8_380 ⟨_, rfl, rfl⟩ at_66 ⟨by decide, by decide⟩ rfl (Nat.le_of_ble_eq_true rfl) ⟨by decide, by decide⟩ dX8_change_32 ?_
    rintro _ rfl
    refine j_throwW hsl C hK2 hxt th_303 (List.mem_of_getElem? (i := 0) rfl) rfl dX8_change_35 dX8_change_38 dX8_change_39 dX8_change_42 dX8_change_45 (by decide) (Nat.le_of_ble_eq_true rfl) ⟨by decide, by decide⟩ ⟨by decide, by decide⟩ ?_
    exact ⟨rfl, by assumption, rfl⟩
  · -- 14 F
    have hj : (jd i σ a b).1 = 0 := by omega
    refine j_aload0 C dX8_change_46 ?_
    refine j_aload0 C dX8_change_47 ?_
    refine j_getr C fX8_12 at_0 rfl hR.1 dX8_change_48 ?_
    refine j_cVV1 C (c_X8_remember hsl (by exact hRj) (by exact hSj) (by exact hI) (by exact hWI) hPj) oX8_remember kX8_308 ⟨_, rfl, rfl⟩ at_0 ⟨by decide, by decide⟩ rfl (Nat.le_of_ble_eq_true rfl) ⟨by decide, by decide⟩ dX8_change_51 ?_
    rintro W1 ⟨hPA1, hKP1⟩
    have hS1 := hKP1.st hSj hcc (by omega)
    have hR1 := hKP1.cr hRj
    refine j_aload0 C dX8_change_54 ?_
    refine j_aload1 C dX8_change_55 ?_
    refine j_iload2 C dX8_change_56 ?_
    refine j_iload3 C dX8_change_57 ?_
    refine j_xVI3 C hK2 hxt (c_X8_carryOut hsl (by exact hR1) (by exact hS1) (by exact hI) (by exact hWI) hi ha hb hj hM) oX8_carryOut kX8_385 ⟨_, rfl, rfl⟩ at_0 ⟨by decide, by decide⟩ rfl (Nat.le_of_ble_eq_true rfl) ⟨by decide, by decide⟩ ⟨by decide, by decide⟩ dX8_change_58 (fun _ _ hE => hE.elim) ?_
    rintro _ W9 hz9 ⟨rfl, hF9, hS9⟩
    refine j_xr (by decide) ?_
    refine j_iret C hrt dX8_change_61 hz9 ?_
    exact ⟨hj, rfl, hS9, hPA1.of ⟨by omega, by omega⟩ (congrFun (hF9.1 0 (by omega)) 5) (fun x _ _ => hF9.1 x (by omega)) (fun x _ => hF9.2.1 x (by omega)), hR1.fr hF9 (by decide), KQ.mk hKP1 hF9⟩
