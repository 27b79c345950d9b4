/-! a method that returns a double or throws -/
def XD (Γ : Ga) (l : Launch) (y : MethodName) (bytes : ByteArray) (maxL : Nat) (rt : FieldType) (d k : Nat) (as : List Value) (ω : Wo) (Po : UInt64 → Wo → Prop) (X : String → Wo → Prop) : Prop :=
  vx_Met l y (.code y bytes maxL (some rt) :: WS) (rmk d k (6 * k)) (Pcy Γ as ω) (QD Γ Po) (XX Γ X) k (6 * k) (gA Γ)
theorem stayN_0 {M : Int} {s : Row} (hI : RI M s) (h : WI s) : stS s = 0 ↔ stayN s = 0 := by
  have hb := bits_stay hI h
  constructor
  · intro e; rw [e] at hb
    rw [← hb]; decide
  · intro e
    refine Decidable.byContradiction fun q => ?_
    obtain ⟨k, hk⟩ := bit_of_ne0 q
    have hs := (stS_b1 hI h k).mp hk
    have gc := hI.c
    have : ∀ n : Nat, k < n → 1 ≤ stayUp s n := by
      intro n
      induction n with
      | zero => intro h; omega
      | succ n ih =>
        intro hn
        have r := stayUp_rg s n
        unfold stayUp
        by_cases e2 : k = n
        · subst e2; rw [if_neg hs.2]; omega
        · have := ih (by omega)
          split <;> omega
    have := this (cM s) hs.1
    unfold stayN at e
    omega
set_option maxRecDepth 100000 in
set_option maxHeartbeats 4000000 in
theorem c_X8_wearinessAgain {Γ : Ga} {l : Launch} {ω : Wo} (hsl : l.stackTraces = false) (hR : CR ω) {σ : Row} (hS : St ω 1 σ) {M : Int} (hI : RI M σ) (hWI : WI σ)  {a : Int} (ha : Rg a) : XI Γ l yX8_wearinessAgain cX8_wearinessAgain 2 .int 7 2 [.ref (rl Γ 0), .int (iI a)] ω (fun z ω' => z = (qWear σ a).2 ∧ (qWear σ a).1 = 0 ∧ (∃ v w, ω' = RF ω 67 v w)) (fun E ω' => (ω' = ω ∨ ∃ v w, ω' = RF ω 67 v w) ∧ ((E = eIdx ∧ (qWear σ a).1 = 1) ∨ (E = eNo ∧ (qWear σ a).1 = 2))) := by
  refine MetX.ofJ (k := 0) [some (.ref (rl Γ 0)), some (.int (iI a))] (by decide) rfl rfl rfl (fun p e s mm args below meth c C hK2 hxt hrt => ?_)
  have hB := bs1
  have g := hI.s
  have gc := hI.c
  have gM := hI.2.1
  refine j_aload0 C dX8_wearinessAgain_0 ?_
  refine j_iload1 C dX8_wearinessAgain_1 ?_
  refine j_xVV1 C hK2 hxt (c_X8_requireBoat hsl (by exact hR) (by exact hS) (by exact hI) (by exact hWI) ⟨by omega, by omega⟩) oX8_requireBoat kX8_157 ⟨_, rfl, rfl⟩ at_0 ⟨by decide, by decide⟩ rfl (Nat.le_of_ble_eq_true rfl) ⟨by decide, by decide⟩ ⟨by decide, by decide⟩ dX8_wearinessAgain_2 (by rintro E ω1 ⟨rfl, rfl, hE⟩; exact ⟨Or.inl rfl, Or.inl ⟨rfl, (by unfold qWear; rw [if_pos hE])⟩⟩) ?_
  rintro _ ⟨hc2, rfl⟩
  obtain ⟨k, rfl⟩ := Int.eq_ofNat_of_zero_le hc2.1
  have gyc := whyC_rg σ k
  refine j_aload0 C dX8_wearinessAgain_5 ?_
  refine j_iload1 C dX8_wearinessAgain_6 ?_
  refine j_xVV1 C hK2 hxt (c_X8_requireCrew hsl (by exact hR) (by exact hS) (by exact hI) (by exact hWI) (by omega)) oX8_requireCrew kX8_193 ⟨_, rfl, rfl⟩ at_0 ⟨by decide, by decide⟩ rfl (Nat.le_of_ble_eq_true rfl) ⟨by decide, by decide⟩ ⟨by decide, by decide⟩ dX8_wearinessAgain_7 (by rintro E ω1 ⟨rfl, hE, hk⟩; exact ⟨Or.inr hk, Or.inr ⟨rfl, (by unfold qWear; rw [if_neg (by omega), if_pos (by omega)])⟩⟩) ?_
  rintro _ ⟨hw0, v1, w1, rfl⟩
  have hs2 := hWI.2.1 k (by omega)
  have hok := crOk_of hI (b := (k : Int)) (by omega) hs2 hw0
  have hSf := hS.rf hB hI (n := v1) (d := w1)
  have hRf : CR (RF ω 67 v1 w1) := hR
  have hcl := crw_lt hI k
  refine j_aload0 C dX8_wearinessAgain_10 ?_
  refine j_getr C fX8_12 at_0 rfl hRf.1 dX8_wearinessAgain_11 ?_
  refine j_iload1 C dX8_wearinessAgain_14 ?_
  refine j_cVI1 C (c_X7_leastWearinessOfAll hB (by exact hSf) (by exact hI) (by exact hWI) (by omega)) oX7_leastWearinessOfAll kX8_202 ⟨_, rfl, rfl⟩ (at_st bs1) ⟨by decide, by decide⟩ rfl (Nat.le_of_ble_eq_true rfl) ⟨by decide, by decide⟩ dX8_wearinessAgain_15 ?_
  rintro _ _ hz15 ⟨rfl, rfl⟩
  rw [lw_crw hI (b := (k : Int)) hs2 hok] at hz15 ⊢
  refine j_xr (by decide) ?_
  refine j_iret C hrt dX8_wearinessAgain_18 ⟨by omega, by omega⟩ ?_
  refine ⟨?_, ?_, v1, w1, rfl⟩ <;> (unfold qWear; rw [if_neg (by omega), if_neg (by omega)])
set_option maxRecDepth 100000 in
set_option maxHeartbeats 4000000 in
theorem c_X8_outShare {Γ : Ga} {l : Launch} {ω : Wo} (hsl : l.stackTraces = false) (hR : CR ω) {σ : Row} (hS : St ω 1 σ) {M : Int} (hI : RI M σ) (hWI : WI σ)   : CF Γ l yX8_outShare cX8_outShare 1 .float 2 [.ref (rl Γ 0)] ω (fun z ω' => z = shareV (outO σ) (allO σ) ∧ ω = ω') := by
  refine Met.ofJ (k := 0) [some (.ref (rl Γ 0))] (by decide) rfl rfl rfl (fun p e s mm args below meth c C hrt => ?_)
  have hB := bs1
  have g := hI.s
  have gc := hI.c
  have gM := hI.2.1
  have gao := oarsUp_rg hI (cL σ) hI.c.2.2.2
  refine j_aload0 C dX8_outShare_0 ?_
  refine j_getr C fX8_12 at_0 rfl hR.1 dX8_outShare_1 ?_
  refine j_cVI0 C (c_X7_oarsOut hB (by exact hS) (by exact hI) (by exact hWI)) oX7_oarsOut kX8_347 ⟨_, rfl, rfl⟩ (at_st bs1) ⟨by decide, by decide⟩ rfl (Nat.le_of_ble_eq_true rfl) ⟨by decide, by decide⟩ dX8_outShare_4 ?_
  rintro _ _ hz4 ⟨rfl, rfl⟩
  refine j_i2f C dX8_outShare_7 ?_
  refine j_aload0 C dX8_outShare_8 ?_
  refine j_getr C fX8_12 at_0 rfl hR.1 dX8_outShare_9 ?_
  refine j_cVI0 C (c_X7_allOars hB (by exact hS) (by exact hI) (by exact hWI)) oX7_allOars kX8_350 ⟨_, rfl, rfl⟩ (at_st bs1) ⟨by decide, by decide⟩ rfl (Nat.le_of_ble_eq_true rfl) ⟨by decide, by decide⟩ dX8_outShare_12 ?_
  rintro _ _ hz12 ⟨rfl, rfl⟩
  refine j_i2f C dX8_outShare_15 ?_
  refine j_fdiv C (iI_nz (by unfold allO; omega)) dX8_outShare_16 ?_
  refine j_fret C hrt dX8_outShare_17 ?_
  exact ⟨rfl, rfl⟩
set_option maxRecDepth 100000 in
set_option maxHeartbeats 4000000 in
theorem c_X8_meanWeariness {Γ : Ga} {l : Launch} {ω : Wo} (hsl : l.stackTraces = false) (hR : CR ω) {σ : Row} (hS : St ω 1 σ) {M : Int} (hI : RI M σ) (hWI : WI σ)   : XD Γ l yX8_meanWeariness cX8_meanWeariness 2 .double 6 1 [.ref (rl Γ 0)] ω (fun z ω' => stayN σ ≠ 0 ∧ z = meanV (wyUp σ (cM σ)) (stayN σ) ∧ ω = ω') (fun E ω' => E = eAr ∧ stayN σ = 0 ∧ ω = ω') := by
  refine MetX.ofJ (k := 1) [some (.ref (rl Γ 0)), none] (by decide) rfl rfl rfl (fun p e s mm args below meth c C hK2 hxt hrt => ?_)
  have hB := bs1
  have g := hI.s
  have gc := hI.c
  have gM := hI.2.1
  have h0s := stayN_0 hI hWI
  have hbs := bits_stay hI hWI
  have hsl2 := stS_lt hI
  have hgs := stayUp_rg σ (cM σ)
  have hwy := wy_stay hI hWI (cM σ) (Nat.le_refl _)
  refine j_aload0 C dX8_meanWeariness_0 ?_
  refine j_getr C fX8_12 at_0 rfl hR.1 dX8_meanWeariness_1 ?_
  refine j_cVI0 C (c_X7_staying hB (by exact hS) (by exact hI) (by exact hWI)) oX7_staying kX8_261 ⟨_, rfl, rfl⟩ (at_st bs1) ⟨by decide, by decide⟩ rfl (Nat.le_of_ble_eq_true rfl) ⟨by decide, by decide⟩ dX8_meanWeariness_4 ?_
  rintro _ _ hz4 ⟨rfl, rfl⟩
  refine j_istore1 C rfl dX8_meanWeariness_7 ?_
  refine j_iload1 C dX8_meanWeariness_8 ?_
  refine j_if_ne C ⟨by omega, by omega⟩ dX8_meanWeariness_9 (fun hc9 => ?_) (fun hc9 => ?_)
  · -- 9 T
    have hn0 : stayN σ ≠ 0 := fun q => by have := h0s.mpr q; omega
    refine j_aload0 C dX8_meanWeariness_23 ?_
    refine j_getr C fX8_12 at_0 rfl hR.1 dX8_meanWeariness_24 ?_
    refine j_iload1 C dX8_meanWeariness_27 ?_
    refine j_cVI1 C (c_X7_wearinessOf hB (by exact hS) (by exact hI) (by exact hWI) (by omega)) oX7_wearinessOf kX8_199 ⟨_, rfl, rfl⟩ (at_st bs1) ⟨by decide, by decide⟩ rfl (Nat.le_of_ble_eq_true rfl) ⟨by decide, by decide⟩ dX8_meanWeariness_28 ?_
    rintro _ _ hz28 ⟨rfl, rfl⟩
    rw [hwy]
    refine j_i2d C dX8_meanWeariness_31 ?_
    refine j_iload1 C dX8_meanWeariness_32 ?_
    refine j_cSI1 C (c_J6_bitCount hsl2) oJ6_bitCount_0f7a4 kX8_342 ⟨by decide, by decide⟩ rfl (Nat.le_of_ble_eq_true rfl) ⟨by decide, by decide⟩ dX8_meanWeariness_33 ?_
    rintro _ _ hz33 ⟨rfl, rfl⟩
    rw [hbs]
    refine j_i2d C dX8_meanWeariness_36 ?_
    refine j_ddiv C (iI_nz ⟨by unfold stayN at hn0 ⊢; omega, by unfold stayN; omega⟩) dX8_meanWeariness_37 ?_
    refine j_xr (by decide) ?_
    refine j_dret C hrt dX8_meanWeariness_38 ?_
    exact ⟨hn0, rfl, rfl⟩
  · -- 9 F
    refine j_throwW hsl C hK2 hxt th_337 (List.mem_of_getElem? (i := 17) rfl) rfl dX8_meanWeariness_12 dX8_meanWeariness_15 dX8_meanWeariness_16 dX8_meanWeariness_19 dX8_meanWeariness_22 (by decide) (Nat.le_of_ble_eq_true rfl) ⟨by decide, by decide⟩ ⟨by decide, by decide⟩ ?_
    exact ⟨rfl, h0s.mp (by omega), rfl⟩
