set_option maxRecDepth 100000 in
set_option maxHeartbeats 4000000 in
theorem c_X8_requireCrew {Γ : Ga} {l : Launch} {ω : Wo} (hsl : l.stackTraces = false) (hR : CR ω) {σ : Row} (hS : St ω 1 σ) {M : Int} (hI : RI M σ) (hWI : WI σ)  {b : Nat} (hb : b < cB σ) : XV Γ l yX8_requireCrew cX8_requireCrew 2 6 1 [.ref (rl Γ 0), .int (iI ((b : Int)))] ω (fun ω' => whyC σ b = 0 ∧ (∃ v w, ω' = RF ω 67 v w)) (fun E ω' => E = eNo ∧ whyC σ b ≠ 0 ∧ (∃ v w, ω' = RF ω 67 v w)) := by
  refine MetX.ofJ (k := 0) [some (.ref (rl Γ 0)), some (.int (iI ((b : Int))))] (by decide) rfl rfl rfl (fun p e s mm args below meth c C hK2 hxt hrt => ?_)
  have hB := bs1
  have g := hI.s
  have gc := hI.c
  have gM := hI.2.1
  refine j_aload0 C dX8_requireCrew_0 ?_
  refine j_getr C fX8_12 at_0 rfl hR.1 dX8_requireCrew_1 ?_
  refine j_iload1 C dX8_requireCrew_4 ?_
  refine j_aload0 C dX8_requireCrew_5 ?_
  refine j_getr C fX8_44 at_0 rfl hR.2.2.2.2.2.2.1 dX8_requireCrew_6 ?_
  refine j_cVV2 C (c_X7_judgeCrew hB (by exact hS) (by exact hI) (by exact hWI) hb) oX7_judgeCrew kX8_468 ⟨_, rfl, rfl⟩ (at_st bs1) ⟨by decide, by decide⟩ rfl (Nat.le_of_ble_eq_true rfl) ⟨by decide, by decide⟩ dX8_requireCrew_9 ?_
  rintro _ rfl
  refine j_aload0 C dX8_requireCrew_12 ?_
  refine j_getr C fX8_44 at_0 rfl hR.2.2.2.2.2.2.1 dX8_requireCrew_13 ?_
  refine j_cVI0 C (c_X5_isThere at_67) oX5_isThere kX8_216 ⟨_, rfl, rfl⟩ at_67 ⟨by decide, by decide⟩ rfl (Nat.le_of_ble_eq_true rfl) ⟨by decide, by decide⟩ dX8_requireCrew_16 ?_
  rintro _ _ hz16 ⟨rfl, rfl⟩
  simp only [RF_0] at hz16 ⊢
  refine j_ifeqb C dX8_requireCrew_19 (fun hc19 => ?_) (fun hc19 => ?_)
  · -- 19 T
    refine j_throwNW hsl C hK2 hxt th_222 (List.mem_of_getElem? (i := 5) rfl) rfl dX8_requireCrew_22 dX8_requireCrew_25 dX8_requireCrew_26 dX8_requireCrew_29 dX8_requireCrew_32 (by decide) (Nat.le_of_ble_eq_true rfl) ⟨by decide, by decide⟩ ⟨by decide, by decide⟩ ?_
    exact ⟨rfl, by assumption, _, _, rfl⟩
  · -- 19 F
    refine j_xr (by decide) ?_
    refine j_vret C hrt dX8_requireCrew_33 ?_
    exact ⟨by omega, _, _, rfl⟩
set_option maxRecDepth 100000 in
set_option maxHeartbeats 4000000 in
theorem c_X8_wouldGo {Γ : Ga} {l : Launch} {ω : Wo} (hsl : l.stackTraces = false) (hR : CR ω) {σ : Row} (hS : St ω 1 σ) {M : Int} (hI : RI M σ) (hWI : WI σ)  {a : Int} (ha : Rg a) : XI Γ l yX8_wouldGo cX8_wouldGo 2 .int 7 2 [.ref (rl Γ 0), .int (iI a)] ω (fun z ω' => z = (qGo σ a).2 ∧ (qGo σ a).1 = 0 ∧ (∃ v w, ω' = RF ω 67 v w)) (fun E ω' => (ω' = ω ∨ ∃ v w, ω' = RF ω 67 v w) ∧ ((E = eIdx ∧ (qGo σ a).1 = 1) ∨ (E = eNo ∧ (qGo σ a).1 = 2))) := by
  refine MetX.ofJ (k := 0) [some (.ref (rl Γ 0)), some (.int (iI a))] (by decide) rfl rfl rfl (fun p e s mm args below meth c C hK2 hxt hrt => ?_)
  have hB := bs1
  have g := hI.s
  have gc := hI.c
  have gM := hI.2.1
  refine j_aload0 C dX8_wouldGo_0 ?_
  refine j_iload1 C dX8_wouldGo_1 ?_
  refine j_xVV1 C hK2 hxt (c_X8_requireBoat hsl (by exact hR) (by exact hS) (by exact hI) (by exact hWI) ⟨by omega, by omega⟩) oX8_requireBoat kX8_157 ⟨_, rfl, rfl⟩ at_0 ⟨by decide, by decide⟩ rfl (Nat.le_of_ble_eq_true rfl) ⟨by decide, by decide⟩ ⟨by decide, by decide⟩ dX8_wouldGo_2 (by rintro E ω1 ⟨rfl, rfl, hE⟩; exact ⟨Or.inl rfl, Or.inl ⟨rfl, (by unfold qGo; rw [if_pos hE])⟩⟩) ?_
  rintro _ ⟨hc2, rfl⟩
  obtain ⟨k, rfl⟩ := Int.eq_ofNat_of_zero_le hc2.1
  have gyc := whyC_rg σ k
  refine j_aload0 C dX8_wouldGo_5 ?_
  refine j_iload1 C dX8_wouldGo_6 ?_
  refine j_xVV1 C hK2 hxt (c_X8_requireCrew hsl (by exact hR) (by exact hS) (by exact hI) (by exact hWI) (by omega)) oX8_requireCrew kX8_193 ⟨_, rfl, rfl⟩ at_0 ⟨by decide, by decide⟩ rfl (Nat.le_of_ble_eq_true rfl) ⟨by decide, by decide⟩ ⟨by decide, by decide⟩ dX8_wouldGo_7 (by rintro E ω1 ⟨rfl, hE, hk⟩; exact ⟨Or.inr hk, Or.inr ⟨rfl, (by unfold qGo; rw [if_neg (by omega), if_pos (by omega)])⟩⟩) ?_
  rintro _ ⟨hw0, v1, w1, rfl⟩
  have hs2 := hWI.2.1 k (by omega)
  have hok := crOk_of hI (b := (k : Int)) (by omega) hs2 hw0
  have hSf := hS.rf hB hI (n := v1) (d := w1)
  have hRf : CR (RF ω 67 v1 w1) := hR
  have hcl := crw_lt hI k
  refine j_aload0 C dX8_wouldGo_10 ?_
  refine j_getr C fX8_12 at_0 rfl hRf.1 dX8_wouldGo_11 ?_
  refine j_iload1 C dX8_wouldGo_14 ?_
  refine j_cVI1 C (c_X7_chosenCrew hB (by exact hSf) (by exact hI) (by exact hWI) (by omega) hok) oX7_chosenCrew kX8_196 ⟨_, rfl, rfl⟩ (at_st bs1) ⟨by decide, by decide⟩ rfl (Nat.le_of_ble_eq_true rfl) ⟨by decide, by decide⟩ dX8_wouldGo_15 ?_
  rintro _ _ hz15 ⟨rfl, rfl⟩
  refine j_xr (by decide) ?_
  refine j_iret C hrt dX8_wouldGo_18 ⟨by omega, by omega⟩ ?_
  refine ⟨?_, ?_, v1, w1, rfl⟩ <;> (unfold qGo; rw [if_neg (by omega), if_neg (by omega)])
set_option maxRecDepth 100000 in
set_option maxHeartbeats 4000000 in
theorem c_X8_weariness {Γ : Ga} {l : Launch} {ω : Wo} (hsl : l.stackTraces = false) (hR : CR ω) {σ : Row} (hS : St ω 1 σ) {M : Int} (hI : RI M σ) (hWI : WI σ)  {a : Int} (ha : Rg a) : XI Γ l yX8_weariness cX8_weariness 2 .int 7 2 [.ref (rl Γ 0), .int (iI a)] ω (fun z ω' => z = (qWear σ a).2 ∧ (qWear σ a).1 = 0 ∧ (∃ v w, ω' = RF ω 67 v w)) (fun E ω' => (ω' = ω ∨ ∃ v w, ω' = RF ω 67 v w) ∧ ((E = eIdx ∧ (qWear σ a).1 = 1) ∨ (E = eNo ∧ (qWear σ a).1 = 2))) := by
  refine MetX.ofJ (k := 0) [some (.ref (rl Γ 0)), some (.int (iI a))] (by decide) rfl rfl rfl (fun p e s mm args below meth c C hK2 hxt hrt => ?_)
  have hB := bs1
  have g := hI.s
  have gc := hI.c
  have gM := hI.2.1
  refine j_aload0 C dX8_weariness_0 ?_
  refine j_iload1 C dX8_weariness_1 ?_
  refine j_xVV1 C hK2 hxt (c_X8_requireBoat hsl (by exact hR) (by exact hS) (by exact hI) (by exact hWI) ⟨by omega, by omega⟩) oX8_requireBoat kX8_157 ⟨_, rfl, rfl⟩ at_0 ⟨by decide, by decide⟩ rfl (Nat.le_of_ble_eq_true rfl) ⟨by decide, by decide⟩ ⟨by decide, by decide⟩ dX8_weariness_2 (by rintro E ω1 ⟨rfl, rfl, hE⟩; exact ⟨Or.inl rfl, Or.inl ⟨rfl, (by unfold qWear; rw [if_pos hE])⟩⟩) ?_
  rintro _ ⟨hc2, rfl⟩
  obtain ⟨k, rfl⟩ := Int.eq_ofNat_of_zero_le hc2.1
  have gyc := whyC_rg σ k
  refine j_aload0 C dX8_weariness_5 ?_
  refine j_iload1 C dX8_weariness_6 ?_
  refine j_xVV1 C hK2 hxt (c_X8_requireCrew hsl (by exact hR) (by exact hS) (by exact hI) (by exact hWI) (by omega)) oX8_requireCrew kX8_193 ⟨_, rfl, rfl⟩ at_0 ⟨by decide, by decide⟩ rfl (Nat.le_of_ble_eq_true rfl) ⟨by decide, by decide⟩ ⟨by decide, by decide⟩ dX8_weariness_7 (by rintro E ω1 ⟨rfl, hE, hk⟩; exact ⟨Or.inr hk, Or.inr ⟨rfl, (by unfold qWear; rw [if_neg (by omega), if_pos (by omega)])⟩⟩) ?_
  rintro _ ⟨hw0, v1, w1, rfl⟩
  have hs2 := hWI.2.1 k (by omega)
  have hok := crOk_of hI (b := (k : Int)) (by omega) hs2 hw0
  have hSf := hS.rf hB hI (n := v1) (d := w1)
  have hRf : CR (RF ω 67 v1 w1) := hR
  have hcl := crw_lt hI k
  refine j_aload0 C dX8_weariness_10 ?_
  refine j_getr C fX8_12 at_0 rfl hRf.1 dX8_weariness_11 ?_
  refine j_aload0 C dX8_weariness_14 ?_
  refine j_getr C fX8_12 at_0 rfl hRf.1 dX8_weariness_15 ?_
  refine j_iload1 C dX8_weariness_18 ?_
  refine j_cVI1 C (c_X7_chosenCrew hB (by exact hSf) (by exact hI) (by exact hWI) (by omega) hok) oX7_chosenCrew kX8_196 ⟨_, rfl, rfl⟩ (at_st bs1) ⟨by decide, by decide⟩ rfl (Nat.le_of_ble_eq_true rfl) ⟨by decide, by decide⟩ dX8_weariness_19 ?_
  rintro _ _ hz19 ⟨rfl, rfl⟩
  refine j_cVI1 C (c_X7_wearinessOf hB (by exact hSf) (by exact hI) (by exact hWI) (by omega)) oX7_wearinessOf kX8_199 ⟨_, rfl, rfl⟩ (at_st bs1) ⟨by decide, by decide⟩ rfl (Nat.le_of_ble_eq_true rfl) ⟨by decide, by decide⟩ dX8_weariness_22 ?_
  rintro _ _ hz22 ⟨rfl, rfl⟩
  refine j_xr (by decide) ?_
  refine j_iret C hrt dX8_weariness_25 ⟨by omega, by omega⟩ ?_
  refine ⟨?_, ?_, v1, w1, rfl⟩ <;> (unfold qWear; rw [if_neg (by omega), if_neg (by omega)])
set_option maxRecDepth 100000 in
set_option maxHeartbeats 4000000 in
theorem c_X8_requireOut {Γ : Ga} {l : Launch} {ω : Wo} (hsl : l.stackTraces = false) (hR : CR ω) {σ : Row} (hS : St ω 1 σ) {M : Int} (hI : RI M σ) (hWI : WI σ)  {k : Nat} (hk : k < cB σ) : XV Γ l yX8_requireOut cX8_requireOut 2 6 1 [.ref (rl Γ 0), .int (iI ((k : Int)))] ω (fun ω' => sB σ k 2 = 1 ∧ ω = ω') (fun E ω' => E = eNo ∧ sB σ k 2 = 0 ∧ ω = ω') := by
  refine MetX.ofJ (k := 0) [some (.ref (rl Γ 0)), some (.int (iI ((k : Int))))] (by decide) rfl rfl rfl (fun p e s mm args below meth c C hK2 hxt hrt => ?_)
  have hB := bs1
  have g := hI.s
  have gc := hI.c
  have gM := hI.2.1
  have gb := hI.b k (by omega)
  have gwb := hWI.2.2.2 k hk
  refine j_aload0 C dX8_requireOut_0 ?_
  refine j_getr C fX8_12 at_0 rfl hR.1 dX8_requireOut_1 ?_
  refine j_getr C fX8_161 (at_st bs1) rfl hS.r.a1 dX8_requireOut_4 ?_
  refine j_iload1 C dX8_requireOut_7 ?_
  refine j_aald C (at_bA hB) rfl (Cn := RX1) rfl (N := 3) rfl (by decide) ⟨by omega, by omega⟩ (hS.r.b k (by omega)) dX8_requireOut_8 ?_
  refine j_cVI0 C (c_X1_isOut (at_b hB (by omega)) (hS.b2 k (by omega))) oX1_isOut kX8_173 ⟨_, rfl, rfl⟩ (at_b hB (by omega)) ⟨by decide, by decide⟩ rfl (Nat.le_of_ble_eq_true rfl) ⟨by decide, by decide⟩ dX8_requireOut_9 ?_
  rintro _ _ hz9 ⟨rfl, rfl⟩
  refine j_ifneb C dX8_requireOut_12 (fun hc12 => ?_) (fun hc12 => ?_)
  · -- 12 T
    refine j_xr (by decide) ?_
    refine j_vret C hrt dX8_requireOut_26 ?_
    exact ⟨by omega, rfl⟩
  · -- 12 F
    refine j_throwNW hsl C hK2 hxt th_222 (List.mem_of_getElem? (i := 7) rfl) rfl dX8_requireOut_15 dX8_requireOut_18 dX8_requireOut_19 dX8_requireOut_22 dX8_requireOut_25 (by decide) (Nat.le_of_ble_eq_true rfl) ⟨by decide, by decide⟩ ⟨by decide, by decide⟩ ?_
    exact ⟨rfl, by omega, rfl⟩
