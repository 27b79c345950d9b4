/-! wearinessAgain -/
set_option maxRecDepth 100000 in
set_option maxHeartbeats 4000000 in
theorem c_X8_wearinessAgain {Γ : Ga} {l : Launch} {ω : Wo} (hsl : l.stackTraces = false) (hR : CR ω) {σ : Row} (hS : St ω 1 σ) {M : Int} (hI : RI M σ) (hWI : WI σ)  {a : Int} (ha : Rg a) : XI Γ l yX8_wearinessAgain cX8_wearinessAgain 2 .int 7 2 [.ref (rl Γ 0), .int (iI a)] ω (fun z ω' => z = (qWear σ a).2 ∧ (qWear σ a).1 = 0 ∧ (∃ v w, ω' = RF ω 67 v w)) (fun E ω' => (ω' = ω ∨ ∃ v w, ω' = RF ω 67 v w) ∧ ((E = eIdx ∧ (qWear σ a).1 = 1) ∨ (E = eNo ∧ (qWear σ a).1 = 2))) := by
  refine MetX.ofJ (k := 0) [some (.ref (rl Γ 0)), some (.int (iI a))] (by decide) rfl rfl rfl (fun p e s mm args below meth c C hK2 hxt hrt => ?_)
  have hB := bs1
  have g := hI.s
  have gc := hI.c
  have gM := hI.2.1
  refine j_aload0 C dX8_wearinessAgain_0 ?_
  refine j_iload1 C dX8_wearinessAgain_1 ?_
  refine j_xVV1 C hK2 hxt (c_X8_requireBoat hsl (by exact hR) (by exact hS) (by exact hI) (by exact hWI) ⟨by omega, by omega⟩) oX8_requireBoat kX8_157 ⟨_, rfl, rfl⟩ at_0 ⟨by decide, by decide⟩ rfl (Nat.le_of_ble_eq_true rfl) ⟨by decide, by decide⟩ ⟨by decide, by decide⟩ dX8_wearinessAgain_2 (by rintro E ω1 ⟨rfl, rfl, hE⟩; exact ⟨Or.inl rfl, Or.inl ⟨rfl, (by unfold qWear; rw [if_pos hE])⟩⟩) ?_
  rintro _ ⟨hc2, rfl⟩
  obtain ⟨k, rfl⟩ := Int.eq_ofNat_of_zero_le hc2.1
  have gyc := whyC_rg σ k
  refine j_aload0 C dX8_wearinessAgain_5 ?_
  refine j_iload1 C dX8_wearinessAgain_6 ?_
  refine j_xVV1 C hK2 hxt (c_X8_requireCrew hsl (by exact hR) (by exact hS) (by exact hI) (by exact hWI) (by omega)) oX8_requireCrew kX8_193 ⟨_, rfl, rfl⟩ at_0 ⟨by decide, by decide⟩ rfl (Nat.le_of_ble_eq_true rfl) ⟨by decide, by decide⟩ ⟨by decide, by decide⟩ dX8_wearinessAgain_7 (by rintro E ω1 ⟨rfl, hE, hk⟩; exact ⟨Or.inr hk, Or.inr ⟨rfl, (by unfold qWear; rw [if_neg (by omega), if_pos (by omega)])⟩⟩) ?_
  rintro _ ⟨hw0, v1, w1, rfl⟩
  have hs2 := hWI.2.1 k (by omega)
  have hok := crOk_of hI (b := (k : Int)) (by omega) hs2 hw0
  have hSf := hS.rf hB hI (n := v1) (d := w1)
  have hRf : CR (RF ω 67 v1 w1) := hR
  have hcl := crw_lt hI k
  refine j_aload0 C dX8_wearinessAgain_10 ?_
  refine j_getr C fX8_12 at_0 rfl hRf.1 dX8_wearinessAgain_11 ?_
  refine j_iload1 C dX8_wearinessAgain_14 ?_
  refine j_cVI1 C (c_X7_leastWearinessOfAll hB (by exact hSf) (by exact hI) (by exact hWI) (by omega)) oX7_leastWearinessOfAll kX8_202 ⟨_, rfl, rfl⟩ (at_st bs1) ⟨by decide, by decide⟩ rfl (Nat.le_of_ble_eq_true rfl) ⟨by decide, by decide⟩ dX8_wearinessAgain_15 ?_
  rintro _ _ hz15 ⟨rfl, rfl⟩
  rw [lw_crw hI (b := (k : Int)) hs2 hok] at hz15 ⊢
  refine j_xr (by decide) ?_
  refine j_iret C hrt dX8_wearinessAgain_18 ⟨by omega, by omega⟩ ?_
  refine ⟨?_, ?_, v1, w1, rfl⟩ <;> (unfold qWear; rw [if_neg (by omega), if_neg (by omega)])
